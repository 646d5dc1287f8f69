set_option maxHeartbeats 4000000 in
set_option maxRecDepth 100000 in
theorem lw_c33 {p : Program} {e : Env} {s : State} {m : MethodId} {below : List Frame} {meth : Method} {c : Code} {Q : State → Prop} {G : th_G} {Γ : th_Ga} {ax am b L n : Nat} {xs : Nat → Int32} {ls : Array Slot} (l : Launch) (hE : lw_E p s m c b L xs G Γ ax am) (hL : L ≤ 384) (hn : n + 6 ≤ L) (hl : lv_has ls 4 [(3, .int (nI n)), (2, .ref am), (1, .ref ax), (0, .ref b)]) (hk : dv_U Γ ∧ lw_AR Γ ax) {u : Nat} {H : Heap} {locs : List Loc} (hJ : lw_J G Γ am s H locs u) (hq : RR (lw_A ax) (am : Int) (dv G Γ H) (dv G Γ H)) (kk : ∀ (u1 : Nat) (H1 : Heap) (locs1 : List Loc), lw_J G Γ am s H1 locs1 u1 → RR (lw_A ax) (am : Int) (dv G Γ H1) (dv G Γ H1) → W p l e room_1 s m #[Value.ref b] below meth c H1 locs1 (600000 - th_pc u1) (7302250 - th_pq u1) Q (F0 m 1239 ls [])) : W p l e room_1 s m #[Value.ref b] below meth c H locs (600000 - th_pc u) (7302250 - th_pq u) Q (F0 m 999 ls []) := by
  have hx := hE.1.1
  have hb := hE.1.2.1
  have hax := hE.2.2.2.2.2.1
  have ham := hE.2.2.2.2.2.2.1
  have hU := hk.1
  have hA := hk.2
  refine lv_aload_n hx hb dL_law_999 rfl (lv_at hl 2 rfl) ?_
  refine lw_callb (pc' := 1003) (k := 1) (P := (fun w K => ∃ r : Int32, w = .int r ∧ cf (lw_A ax) cs_L (dv G Γ H) (dv G Γ K) ∧ wf (am : Int) nW (dv G Γ H) (dv G Γ K))) hJ (th_runV (As := []) (rest := []) hE.1 mf_X11_floors kl_151 im_X11_floors se_X11_floors (c_X11_floors l G Γ H hJ.1 hJ.2.1.1 hU ax hax u hJ.2.2.1) rfl rfl ⟨Nat.le_of_ble_eq_true rfl, Nat.le_of_ble_eq_true rfl⟩ hJ.1 hax ro_42 rfl rfl hl.1 rfl (Nat.le_of_ble_eq_true rfl) dL_law_1000 ⟨lw_f3 hJ.2.2.1.1, lw_f4 hJ.2.2.1.1⟩) (fun v K hp => by obtain ⟨r, rfl, hI1, hF1, hR1, hbp⟩ := hp; exact ⟨_, rfl, rfl, hI1, th_RN_c hR1 hJ.2.1 hI1 ham hF1 (by decide), hbp, ⟨r, rfl, lw_cf hJ.1 hI1 hF1 hA (by decide +kernel), lw_wf hJ.1 hI1 hF1 ham (by decide +kernel)⟩⟩) rfl (fun u1 w1 H1 locs hc1 hJ1 hP1 => ?_)
  obtain ⟨r1, rfl, f1, g1⟩ := hP1
  refine lv_pop hx hb dL_law_1003 hc1 ?_
  refine lv_aload_n hx hb dL_law_1004 rfl (lv_at hl 1 rfl) ?_
  refine lw_call (pc' := 1008) (k := 1) (P := (fun w K => ∃ r : Int32, w = .int r ∧ f_X12_floors (dv G Γ H1) (am : Int) = ((dv G Γ K), r.toInt) ∧ cf (lw_A ax) nV (dv G Γ H1) (dv G Γ K))) hJ1 (th_runV (As := []) (rest := []) hE.1 mf_X12_floors kl_154 im_X12_floors se_X12_floors (c_X12_floors l G Γ H1 hJ1.1 hU am ham (th_NK hJ1.2.1)) rfl rfl ⟨Nat.le_of_ble_eq_true rfl, Nat.le_of_ble_eq_true rfl⟩ hJ1.1 ham ro_46 rfl rfl hl.1 rfl (Nat.le_of_ble_eq_true rfl) dL_law_1005 ⟨lw_f1 _, lw_f2 _⟩) (fun v K hp => by obtain ⟨r, rfl, hI1, hF1, hR1, hf1⟩ := hp; exact ⟨_, rfl, rfl, hI1, th_RN_c hR1.1 hJ1.2.1 hI1 ham hF1 (by decide), th_bits_F hF1 hJ1.2.2.1 (by decide), ⟨r, rfl, hf1, lw_cf hJ1.1 hI1 hF1 hA (by decide +kernel)⟩⟩) rfl (fun w2 H2 locs hc2 hJ2 hP2 => ?_)
  obtain ⟨r2, rfl, e2, f2⟩ := hP2
  refine lv_pop hx hb dL_law_1008 hc2 ?_
  have hq1 := glue_C hq f1 (lw_kwA hJ1.1 hA) g1
  have hg := glue_S (fW := fun V => f_X12_floors V (am : Int)) hq1 (sk_of (fW := fun V => f_X12_floors V (am : Int)) (F_floors (RR_JX hq1))) e2 f2
  exact lv_goto (tgt := 1239) hx hb dL_law_1009 (by decide) (kk u1 _ locs hJ2 hg)

set_option maxHeartbeats 4000000 in
set_option maxRecDepth 100000 in
theorem lw_c34 {p : Program} {e : Env} {s : State} {m : MethodId} {below : List Frame} {meth : Method} {c : Code} {Q : State → Prop} {G : th_G} {Γ : th_Ga} {ax am b L n : Nat} {xs : Nat → Int32} {ls : Array Slot} (l : Launch) (hE : lw_E p s m c b L xs G Γ ax am) (hL : L ≤ 384) (hn : n + 6 ≤ L) (hl : lv_has ls 4 [(3, .int (nI n)), (2, .ref am), (1, .ref ax), (0, .ref b)]) (hk : dv_U Γ ∧ lw_AR Γ ax) {u : Nat} {H : Heap} {locs : List Loc} (hJ : lw_J G Γ am s H locs u) (hq : RR (lw_A ax) (am : Int) (dv G Γ H) (dv G Γ H)) (kk : ∀ (u1 : Nat) (H1 : Heap) (locs1 : List Loc), lw_J G Γ am s H1 locs1 u1 → RR (lw_A ax) (am : Int) (dv G Γ H1) (dv G Γ H1) → W p l e room_1 s m #[Value.ref b] below meth c H1 locs1 (600000 - th_pc u1) (7302250 - th_pq u1) Q (F0 m 1239 ls [])) : W p l e room_1 s m #[Value.ref b] below meth c H locs (600000 - th_pc u) (7302250 - th_pq u) Q (F0 m 1012 ls []) := by
  have hx := hE.1.1
  have hb := hE.1.2.1
  have hax := hE.2.2.2.2.2.1
  have ham := hE.2.2.2.2.2.2.1
  have hU := hk.1
  have hA := hk.2
  refine lv_aload_n hx hb dL_law_1012 rfl (lv_at hl 2 rfl) ?_
  refine lw_ld (pc := 1013) (kn := 1) (pc' := 1018) hE hJ.2.2.2 hl hn hL dL_law_1013 rfl dL_law_1014 rfl dL_law_1015 (by decide) (by decide) rfl dL_law_1016 rfl dL_law_1017 rfl ?_
  refine lw_callb (pc' := 1021) (k := 1) (P := (fun w K => ∃ r : Int32, w = .int r ∧ cf (lw_A ax) cs_L (dv G Γ H) (dv G Γ K) ∧ wf (am : Int) nW (dv G Γ H) (dv G Γ K))) hJ (th_runV (As := [.int (xs (n + 1))]) (rest := []) hE.1 mf_X11_look kl_155 im_X11_look se_X11_look (c_X11_look l G Γ H hJ.1 hJ.2.1.1 hU ax hax (xs (n + 1)) u hJ.2.2.1) rfl rfl ⟨Nat.le_of_ble_eq_true rfl, Nat.le_of_ble_eq_true rfl⟩ hJ.1 hax ro_42 rfl rfl hl.1 rfl (Nat.le_of_ble_eq_true rfl) dL_law_1018 ⟨lw_f3 hJ.2.2.1.1, lw_f4 hJ.2.2.1.1⟩) (fun v K hp => by obtain ⟨r, rfl, hI1, hF1, hR1, hbp⟩ := hp; exact ⟨_, rfl, rfl, hI1, th_RN_c hR1 hJ.2.1 hI1 ham hF1 (by decide), hbp, ⟨r, rfl, lw_cf hJ.1 hI1 hF1 hA (by decide +kernel), lw_wf hJ.1 hI1 hF1 ham (by decide +kernel)⟩⟩) rfl (fun u1 w1 H1 locs hc1 hJ1 hP1 => ?_)
  obtain ⟨r1, rfl, f1, g1⟩ := hP1
  refine lv_pop hx hb dL_law_1021 hc1 ?_
  refine lv_aload_n hx hb dL_law_1022 rfl (lv_at hl 1 rfl) ?_
  refine lw_ld (pc := 1023) (kn := 1) (pc' := 1028) hE hJ1.2.2.2 hl hn hL dL_law_1023 rfl dL_law_1024 rfl dL_law_1025 (by decide) (by decide) rfl dL_law_1026 rfl dL_law_1027 rfl ?_
  refine lw_call (pc' := 1031) (k := 1) (P := (fun w K => ∃ r : Int32, w = .int r ∧ f_X12_look (dv G Γ H1) (am : Int) (xs (n + 1)).toInt = ((dv G Γ K), r.toInt) ∧ cf (lw_A ax) nV (dv G Γ H1) (dv G Γ K))) hJ1 (th_runV (As := [.int (xs (n + 1))]) (rest := []) hE.1 mf_X12_look kl_158 im_X12_look se_X12_look (c_X12_look l G Γ H1 hJ1.1 hU am ham (th_NK hJ1.2.1) (xs (n + 1))) rfl rfl ⟨Nat.le_of_ble_eq_true rfl, Nat.le_of_ble_eq_true rfl⟩ hJ1.1 ham ro_46 rfl rfl hl.1 rfl (Nat.le_of_ble_eq_true rfl) dL_law_1028 ⟨lw_f1 _, lw_f2 _⟩) (fun v K hp => by obtain ⟨r, rfl, hI1, hF1, hR1, hf1⟩ := hp; exact ⟨_, rfl, rfl, hI1, th_RN_c hR1.1 hJ1.2.1 hI1 ham hF1 (by decide), th_bits_F hF1 hJ1.2.2.1 (by decide), ⟨r, rfl, hf1, lw_cf hJ1.1 hI1 hF1 hA (by decide +kernel)⟩⟩) rfl (fun w2 H2 locs hc2 hJ2 hP2 => ?_)
  obtain ⟨r2, rfl, e2, f2⟩ := hP2
  refine lv_pop hx hb dL_law_1031 hc2 ?_
  have hq1 := glue_C hq f1 (lw_kwA hJ1.1 hA) g1
  have hg := glue_S (fW := fun V => f_X12_look V (am : Int) (xs (n + 1)).toInt) hq1 (sk_of (fW := fun V => f_X12_look V (am : Int) (xs (n + 1)).toInt) (F_look (RR_JX hq1))) e2 f2
  exact lv_goto (tgt := 1239) hx hb dL_law_1032 (by decide) (kk u1 _ locs hJ2 hg)

set_option maxHeartbeats 4000000 in
set_option maxRecDepth 100000 in
theorem lw_c35 {p : Program} {e : Env} {s : State} {m : MethodId} {below : List Frame} {meth : Method} {c : Code} {Q : State → Prop} {G : th_G} {Γ : th_Ga} {ax am b L n : Nat} {xs : Nat → Int32} {ls : Array Slot} (l : Launch) (hE : lw_E p s m c b L xs G Γ ax am) (hL : L ≤ 384) (hn : n + 6 ≤ L) (hl : lv_has ls 4 [(3, .int (nI n)), (2, .ref am), (1, .ref ax), (0, .ref b)]) (hk : dv_U Γ ∧ lw_AR Γ ax) {u : Nat} {H : Heap} {locs : List Loc} (hJ : lw_J G Γ am s H locs u) (hq : RR (lw_A ax) (am : Int) (dv G Γ H) (dv G Γ H)) (kk : ∀ (u1 : Nat) (H1 : Heap) (locs1 : List Loc), lw_J G Γ am s H1 locs1 u1 → RR (lw_A ax) (am : Int) (dv G Γ H1) (dv G Γ H1) → W p l e room_1 s m #[Value.ref b] below meth c H1 locs1 (600000 - th_pc u1) (7302250 - th_pq u1) Q (F0 m 1239 ls [])) : W p l e room_1 s m #[Value.ref b] below meth c H locs (600000 - th_pc u) (7302250 - th_pq u) Q (F0 m 1035 ls []) := by
  have hx := hE.1.1
  have hb := hE.1.2.1
  have hax := hE.2.2.2.2.2.1
  have ham := hE.2.2.2.2.2.2.1
  have hU := hk.1
  have hA := hk.2
  refine lv_aload_n hx hb dL_law_1035 rfl (lv_at hl 2 rfl) ?_
  refine lw_ld (pc := 1036) (kn := 1) (pc' := 1041) hE hJ.2.2.2 hl hn hL dL_law_1036 rfl dL_law_1037 rfl dL_law_1038 (by decide) (by decide) rfl dL_law_1039 rfl dL_law_1040 rfl ?_
  refine lw_ld (pc := 1041) (kn := 2) (pc' := 1046) hE hJ.2.2.2 hl hn hL dL_law_1041 rfl dL_law_1042 rfl dL_law_1043 (by decide) (by decide) rfl dL_law_1044 rfl dL_law_1045 rfl ?_
  refine lw_call (pc' := 1049) (k := 2) (P := (fun w K => ∃ r : Int64, w = .long r ∧ cf (lw_A ax) cs_L (dv G Γ H) (dv G Γ K) ∧ wf (am : Int) nW (dv G Γ H) (dv G Γ K))) hJ (th_runV (As := [.int (xs (n + 1)), .int (xs (n + 2))]) (rest := []) hE.1 mf_X11_few kl_159 im_X11_few se_X11_few (c_X11_few l G Γ H hJ.1 hJ.2.1.1 hU ax hax (xs (n + 1)) (xs (n + 2))) rfl rfl ⟨Nat.le_of_ble_eq_true rfl, Nat.le_of_ble_eq_true rfl⟩ hJ.1 hax ro_42 rfl rfl hl.1 rfl (Nat.le_of_ble_eq_true rfl) dL_law_1046 ⟨lw_f1 _, lw_f2 _⟩) (fun v K hp => by obtain ⟨r, rfl, hI1, hF1, hR1⟩ := hp; exact ⟨_, rfl, rfl, hI1, th_RN_c hR1 hJ.2.1 hI1 ham hF1 (by decide), th_bits_F hF1 hJ.2.2.1 (by decide), ⟨r, rfl, lw_cf hJ.1 hI1 hF1 hA (by decide +kernel), lw_wf hJ.1 hI1 hF1 ham (by decide +kernel)⟩⟩) rfl (fun w1 H1 locs hc1 hJ1 hP1 => ?_)
  obtain ⟨r1, rfl, f1, g1⟩ := hP1
  refine lv_pop2_2 hx hb dL_law_1049 hc1 ?_
  refine lv_aload_n hx hb dL_law_1050 rfl (lv_at hl 1 rfl) ?_
  refine lw_ld (pc := 1051) (kn := 1) (pc' := 1056) hE hJ1.2.2.2 hl hn hL dL_law_1051 rfl dL_law_1052 rfl dL_law_1053 (by decide) (by decide) rfl dL_law_1054 rfl dL_law_1055 rfl ?_
  refine lw_ld (pc := 1056) (kn := 2) (pc' := 1061) hE hJ1.2.2.2 hl hn hL dL_law_1056 rfl dL_law_1057 rfl dL_law_1058 (by decide) (by decide) rfl dL_law_1059 rfl dL_law_1060 rfl ?_
  refine lw_call (pc' := 1064) (k := 2) (P := (fun w K => ∃ r : Int64, w = .long r ∧ wf (am : Int) (fun j => j == 46) (dv G Γ H1) (dv G Γ K) ∧ cf (lw_A ax) nV (dv G Γ H1) (dv G Γ K))) hJ1 (th_runV (As := [.int (xs (n + 1)), .int (xs (n + 2))]) (rest := []) hE.1 mf_X12_few kl_163 im_X12_few se_X12_few (c_X12_few l G Γ H1 hJ1.1 hJ1.2.1.1 hU am ham (xs (n + 1)) (xs (n + 2))) rfl rfl ⟨Nat.le_of_ble_eq_true rfl, Nat.le_of_ble_eq_true rfl⟩ hJ1.1 ham ro_46 rfl rfl hl.1 rfl (Nat.le_of_ble_eq_true rfl) dL_law_1061 ⟨lw_f1 _, lw_f2 _⟩) (fun v K hp => by obtain ⟨r, rfl, hI1, hF1, hR1⟩ := hp; exact ⟨_, rfl, rfl, hI1, th_RN_c hR1 hJ1.2.1 hI1 ham hF1 (by decide), th_bits_F hF1 hJ1.2.2.1 (by decide), ⟨r, rfl, lw_wf hJ1.1 hI1 hF1 ham (by decide +kernel), lw_cf hJ1.1 hI1 hF1 hA (by decide +kernel)⟩⟩) rfl (fun w2 H2 locs hc2 hJ2 hP2 => ?_)
  obtain ⟨r2, rfl, g2, f2⟩ := hP2
  refine lv_pop2_2 hx hb dL_law_1064 hc2 ?_
  have hq1 := glue_C hq f1 (lw_kwA hJ1.1 hA) g1
  have hg := RR_VW (RR_46 hq1 g2) f2 wf_r
  exact lv_goto (tgt := 1239) hx hb dL_law_1065 (by decide) (kk u _ locs hJ2 hg)

set_option maxHeartbeats 4000000 in
set_option maxRecDepth 100000 in
theorem lw_c36 {p : Program} {e : Env} {s : State} {m : MethodId} {below : List Frame} {meth : Method} {c : Code} {Q : State → Prop} {G : th_G} {Γ : th_Ga} {ax am b L n : Nat} {xs : Nat → Int32} {ls : Array Slot} (l : Launch) (hE : lw_E p s m c b L xs G Γ ax am) (hL : L ≤ 384) (hn : n + 6 ≤ L) (hl : lv_has ls 4 [(3, .int (nI n)), (2, .ref am), (1, .ref ax), (0, .ref b)]) (hk : dv_U Γ ∧ lw_AR Γ ax) {u : Nat} {H : Heap} {locs : List Loc} (hJ : lw_J G Γ am s H locs u) (hq : RR (lw_A ax) (am : Int) (dv G Γ H) (dv G Γ H)) (kk : ∀ (u1 : Nat) (H1 : Heap) (locs1 : List Loc), lw_J G Γ am s H1 locs1 u1 → RR (lw_A ax) (am : Int) (dv G Γ H1) (dv G Γ H1) → W p l e room_1 s m #[Value.ref b] below meth c H1 locs1 (600000 - th_pc u1) (7302250 - th_pq u1) Q (F0 m 1239 ls [])) : W p l e room_1 s m #[Value.ref b] below meth c H locs (600000 - th_pc u) (7302250 - th_pq u) Q (F0 m 1068 ls []) := by
  have hx := hE.1.1
  have hb := hE.1.2.1
  have hax := hE.2.2.2.2.2.1
  have ham := hE.2.2.2.2.2.2.1
  have hU := hk.1
  have hA := hk.2
  refine lv_aload_n hx hb dL_law_1068 rfl (lv_at hl 2 rfl) ?_
  refine lw_ld (pc := 1069) (kn := 1) (pc' := 1074) hE hJ.2.2.2 hl hn hL dL_law_1069 rfl dL_law_1070 rfl dL_law_1071 (by decide) (by decide) rfl dL_law_1072 rfl dL_law_1073 rfl ?_
  refine lw_callb (pc' := 1077) (k := 1) (P := (fun w K => ∃ r : Int32, w = .int r ∧ cf (lw_A ax) cs_L (dv G Γ H) (dv G Γ K) ∧ wf (am : Int) nW (dv G Γ H) (dv G Γ K))) hJ (th_runV (As := [.int (xs (n + 1))]) (rest := []) hE.1 mf_X11_compare kl_164 im_X11_compare se_X11_compare (c_X11_compare l G Γ H hJ.1 hJ.2.1.1 hU ax hax (xs (n + 1)) u hJ.2.2.1) rfl rfl ⟨Nat.le_of_ble_eq_true rfl, Nat.le_of_ble_eq_true rfl⟩ hJ.1 hax ro_42 rfl rfl hl.1 rfl (Nat.le_of_ble_eq_true rfl) dL_law_1074 ⟨lw_f3 hJ.2.2.1.1, lw_f4 hJ.2.2.1.1⟩) (fun v K hp => by obtain ⟨r, rfl, hI1, hF1, hR1, hbp⟩ := hp; exact ⟨_, rfl, rfl, hI1, th_RN_c hR1 hJ.2.1 hI1 ham hF1 (by decide), hbp, ⟨r, rfl, lw_cf hJ.1 hI1 hF1 hA (by decide +kernel), lw_wf hJ.1 hI1 hF1 ham (by decide +kernel)⟩⟩) rfl (fun u1 w1 H1 locs hc1 hJ1 hP1 => ?_)
  obtain ⟨r1, rfl, f1, g1⟩ := hP1
  refine lv_pop hx hb dL_law_1077 hc1 ?_
  refine lv_aload_n hx hb dL_law_1078 rfl (lv_at hl 1 rfl) ?_
  refine lw_ld (pc := 1079) (kn := 1) (pc' := 1084) hE hJ1.2.2.2 hl hn hL dL_law_1079 rfl dL_law_1080 rfl dL_law_1081 (by decide) (by decide) rfl dL_law_1082 rfl dL_law_1083 rfl ?_
  refine lw_call (pc' := 1087) (k := 1) (P := (fun w K => ∃ r : Int32, w = .int r ∧ f_X12_compare (dv G Γ H1) (am : Int) (xs (n + 1)).toInt = ((dv G Γ K), r.toInt) ∧ cf (lw_A ax) nV (dv G Γ H1) (dv G Γ K))) hJ1 (th_runV (As := [.int (xs (n + 1))]) (rest := []) hE.1 mf_X12_compare kl_167 im_X12_compare se_X12_compare (c_X12_compare l G Γ H1 hJ1.1 hU am ham hJ1.2.1 (xs (n + 1))) rfl rfl ⟨Nat.le_of_ble_eq_true rfl, Nat.le_of_ble_eq_true rfl⟩ hJ1.1 ham ro_46 rfl rfl hl.1 rfl (Nat.le_of_ble_eq_true rfl) dL_law_1084 ⟨lw_f1 _, lw_f2 _⟩) (fun v K hp => by obtain ⟨r, rfl, hI1, hF1, hR1, hf1⟩ := hp; exact ⟨_, rfl, rfl, hI1, hR1, th_bits_F hF1 hJ1.2.2.1 (by decide), ⟨r, rfl, hf1, lw_cf hJ1.1 hI1 hF1 hA (by decide +kernel)⟩⟩) rfl (fun w2 H2 locs hc2 hJ2 hP2 => ?_)
  obtain ⟨r2, rfl, e2, f2⟩ := hP2
  refine lv_pop hx hb dL_law_1087 hc2 ?_
  have hq1 := glue_C hq f1 (lw_kwA hJ1.1 hA) g1
  have hg := glue_S (fW := fun V => f_X12_compare V (am : Int) (xs (n + 1)).toInt) hq1 (F_compare hq1) e2 f2
  exact lv_goto (tgt := 1239) hx hb dL_law_1088 (by decide) (kk u1 _ locs hJ2 hg)

set_option maxHeartbeats 4000000 in
set_option maxRecDepth 100000 in
theorem lw_c37 {p : Program} {e : Env} {s : State} {m : MethodId} {below : List Frame} {meth : Method} {c : Code} {Q : State → Prop} {G : th_G} {Γ : th_Ga} {ax am b L n : Nat} {xs : Nat → Int32} {ls : Array Slot} (l : Launch) (hE : lw_E p s m c b L xs G Γ ax am) (hL : L ≤ 384) (hn : n + 6 ≤ L) (hl : lv_has ls 4 [(3, .int (nI n)), (2, .ref am), (1, .ref ax), (0, .ref b)]) (hk : dv_U Γ ∧ lw_AR Γ ax) {u : Nat} {H : Heap} {locs : List Loc} (hJ : lw_J G Γ am s H locs u) (hq : RR (lw_A ax) (am : Int) (dv G Γ H) (dv G Γ H)) (kk : ∀ (u1 : Nat) (H1 : Heap) (locs1 : List Loc), lw_J G Γ am s H1 locs1 u1 → RR (lw_A ax) (am : Int) (dv G Γ H1) (dv G Γ H1) → W p l e room_1 s m #[Value.ref b] below meth c H1 locs1 (600000 - th_pc u1) (7302250 - th_pq u1) Q (F0 m 1239 ls [])) : W p l e room_1 s m #[Value.ref b] below meth c H locs (600000 - th_pc u) (7302250 - th_pq u) Q (F0 m 1091 ls []) := by
  have hx := hE.1.1
  have hb := hE.1.2.1
  have hax := hE.2.2.2.2.2.1
  have ham := hE.2.2.2.2.2.2.1
  have hU := hk.1
  have hA := hk.2
  refine lv_aload_n hx hb dL_law_1091 rfl (lv_at hl 2 rfl) ?_
  refine lw_ld (pc := 1092) (kn := 1) (pc' := 1097) hE hJ.2.2.2 hl hn hL dL_law_1092 rfl dL_law_1093 rfl dL_law_1094 (by decide) (by decide) rfl dL_law_1095 rfl dL_law_1096 rfl ?_
  refine lw_ld (pc := 1097) (kn := 2) (pc' := 1102) hE hJ.2.2.2 hl hn hL dL_law_1097 rfl dL_law_1098 rfl dL_law_1099 (by decide) (by decide) rfl dL_law_1100 rfl dL_law_1101 rfl ?_
  refine lw_call (pc' := 1105) (k := 1) (P := (fun w K => ∃ r : Int32, w = .int r ∧ f_X11_years (dv G Γ H) (ax : Int) (xs (n + 1)).toInt (xs (n + 2)).toInt = ((dv G Γ K), r.toInt) ∧ wf (am : Int) nW (dv G Γ H) (dv G Γ K))) hJ (th_runV (As := [.int (xs (n + 1)), .int (xs (n + 2))]) (rest := []) hE.1 mf_X11_years kl_168 im_X11_years se_X11_years (c_X11_years l G Γ H hJ.1 hJ.2.1.1 hU ax hax (xs (n + 1)) (xs (n + 2))) rfl rfl ⟨Nat.le_of_ble_eq_true rfl, Nat.le_of_ble_eq_true rfl⟩ hJ.1 hax ro_42 rfl rfl hl.1 rfl (Nat.le_of_ble_eq_true rfl) dL_law_1102 ⟨lw_f1 _, lw_f2 _⟩) (fun v K hp => by obtain ⟨r, rfl, hI1, hF1, hR1, hf1⟩ := hp; exact ⟨_, rfl, rfl, hI1, th_RN_c hR1 hJ.2.1 hI1 ham hF1 (by decide), th_bits_F hF1 hJ.2.2.1 (by decide), ⟨r, rfl, hf1, lw_wf hJ.1 hI1 hF1 ham (by decide +kernel)⟩⟩) rfl (fun w1 H1 locs hc1 hJ1 hP1 => ?_)
  obtain ⟨r1, rfl, e1, g1⟩ := hP1
  refine lv_pop hx hb dL_law_1105 hc1 ?_
  refine lv_aload_n hx hb dL_law_1106 rfl (lv_at hl 1 rfl) ?_
  refine lw_ld (pc := 1107) (kn := 1) (pc' := 1112) hE hJ1.2.2.2 hl hn hL dL_law_1107 rfl dL_law_1108 rfl dL_law_1109 (by decide) (by decide) rfl dL_law_1110 rfl dL_law_1111 rfl ?_
  refine lw_ld (pc := 1112) (kn := 2) (pc' := 1117) hE hJ1.2.2.2 hl hn hL dL_law_1112 rfl dL_law_1113 rfl dL_law_1114 (by decide) (by decide) rfl dL_law_1115 rfl dL_law_1116 rfl ?_
  refine lw_call (pc' := 1120) (k := 1) (P := (fun w K => ∃ r : Int32, w = .int r ∧ f_X12_years (dv G Γ H1) (am : Int) (xs (n + 1)).toInt (xs (n + 2)).toInt = ((dv G Γ K), r.toInt) ∧ cf (lw_A ax) nV (dv G Γ H1) (dv G Γ K))) hJ1 (th_runV (As := [.int (xs (n + 1)), .int (xs (n + 2))]) (rest := []) hE.1 mf_X12_years kl_171 im_X12_years se_X12_years (c_X12_years l G Γ H1 hJ1.1 hU am ham hJ1.2.1 (xs (n + 1)) (xs (n + 2))) rfl rfl ⟨Nat.le_of_ble_eq_true rfl, Nat.le_of_ble_eq_true rfl⟩ hJ1.1 ham ro_46 rfl rfl hl.1 rfl (Nat.le_of_ble_eq_true rfl) dL_law_1117 ⟨lw_f1 _, lw_f2 _⟩) (fun v K hp => by obtain ⟨r, rfl, hI1, hF1, hR1, hf1⟩ := hp; exact ⟨_, rfl, rfl, hI1, hR1, th_bits_F hF1 hJ1.2.2.1 (by decide), ⟨r, rfl, hf1, lw_cf hJ1.1 hI1 hF1 hA (by decide +kernel)⟩⟩) rfl (fun w2 H2 locs hc2 hJ2 hP2 => ?_)
  obtain ⟨r2, rfl, e2, f2⟩ := hP2
  refine lv_pop hx hb dL_law_1120 hc2 ?_
  have hg := glue (r1 := r1.toInt) (r2 := r2.toInt) (fV := fun V => f_X11_years V (lw_A ax 0) (xs (n + 1)).toInt (xs (n + 2)).toInt) (fW := fun V => f_X12_years V (am : Int) (xs (n + 1)).toInt (xs (n + 2)).toInt) hq (fun V h => L_years h) (by rw [lw_A0]; exact e1) g1 e2 f2
  exact lv_goto (tgt := 1239) hx hb dL_law_1121 (by decide) (kk u _ locs hJ2 hg.2)

set_option maxHeartbeats 4000000 in
set_option maxRecDepth 100000 in
theorem lw_c38 {p : Program} {e : Env} {s : State} {m : MethodId} {below : List Frame} {meth : Method} {c : Code} {Q : State → Prop} {G : th_G} {Γ : th_Ga} {ax am b L n : Nat} {xs : Nat → Int32} {ls : Array Slot} (l : Launch) (hE : lw_E p s m c b L xs G Γ ax am) (hL : L ≤ 384) (hn : n + 6 ≤ L) (hl : lv_has ls 4 [(3, .int (nI n)), (2, .ref am), (1, .ref ax), (0, .ref b)]) (hk : dv_U Γ ∧ lw_AR Γ ax) {u : Nat} {H : Heap} {locs : List Loc} (hJ : lw_J G Γ am s H locs u) (hq : RR (lw_A ax) (am : Int) (dv G Γ H) (dv G Γ H)) (kk : ∀ (u1 : Nat) (H1 : Heap) (locs1 : List Loc), lw_J G Γ am s H1 locs1 u1 → RR (lw_A ax) (am : Int) (dv G Γ H1) (dv G Γ H1) → W p l e room_1 s m #[Value.ref b] below meth c H1 locs1 (600000 - th_pc u1) (7302250 - th_pq u1) Q (F0 m 1239 ls [])) : W p l e room_1 s m #[Value.ref b] below meth c H locs (600000 - th_pc u) (7302250 - th_pq u) Q (F0 m 1124 ls []) := by
  have hx := hE.1.1
  have hb := hE.1.2.1
  have hax := hE.2.2.2.2.2.1
  have ham := hE.2.2.2.2.2.2.1
  have hU := hk.1
  have hA := hk.2
  refine lv_aload_n hx hb dL_law_1124 rfl (lv_at hl 2 rfl) ?_
  refine lw_ld (pc := 1125) (kn := 1) (pc' := 1130) hE hJ.2.2.2 hl hn hL dL_law_1125 rfl dL_law_1126 rfl dL_law_1127 (by decide) (by decide) rfl dL_law_1128 rfl dL_law_1129 rfl ?_
  refine lw_ld (pc := 1130) (kn := 2) (pc' := 1135) hE hJ.2.2.2 hl hn hL dL_law_1130 rfl dL_law_1131 rfl dL_law_1132 (by decide) (by decide) rfl dL_law_1133 rfl dL_law_1134 rfl ?_
  refine lw_call (pc' := 1138) (k := 1) (P := (fun w K => ∃ r : Int32, w = .int r ∧ f_X11_drawn (dv G Γ H) (ax : Int) (xs (n + 1)).toInt (xs (n + 2)).toInt = (r.toInt, ()) ∧ H = K)) hJ (th_runV (As := [.int (xs (n + 1)), .int (xs (n + 2))]) (rest := []) hE.1 mf_X11_drawn kl_172 im_X11_drawn se_X11_drawn (c_X11_drawn l G Γ H hJ.1 hU ax hax (xs (n + 1)) (xs (n + 2))) rfl rfl ⟨Nat.le_of_ble_eq_true rfl, Nat.le_of_ble_eq_true rfl⟩ hJ.1 hax ro_42 rfl rfl hl.1 rfl (Nat.le_of_ble_eq_true rfl) dL_law_1135 ⟨lw_f1 _, lw_f2 _⟩) (fun v K hp => by obtain ⟨r, rfl, hf1, rfl⟩ := hp; exact ⟨_, rfl, rfl, hJ.1, hJ.2.1, hJ.2.2.1, ⟨r, rfl, hf1, rfl⟩⟩) rfl (fun w1 H1 locs hc1 hJ1 hP1 => ?_)
  obtain ⟨r1, rfl, e1, eK1⟩ := hP1
  rw [eK1] at e1 hq
  refine lv_pop hx hb dL_law_1138 hc1 ?_
  refine lv_aload_n hx hb dL_law_1139 rfl (lv_at hl 1 rfl) ?_
  refine lw_ld (pc := 1140) (kn := 1) (pc' := 1145) hE hJ1.2.2.2 hl hn hL dL_law_1140 rfl dL_law_1141 rfl dL_law_1142 (by decide) (by decide) rfl dL_law_1143 rfl dL_law_1144 rfl ?_
  refine lw_ld (pc := 1145) (kn := 2) (pc' := 1150) hE hJ1.2.2.2 hl hn hL dL_law_1145 rfl dL_law_1146 rfl dL_law_1147 (by decide) (by decide) rfl dL_law_1148 rfl dL_law_1149 rfl ?_
  refine lw_call (pc' := 1153) (k := 1) (P := (fun w K => ∃ r : Int32, w = .int r ∧ f_X12_drawn (dv G Γ H1) (am : Int) (xs (n + 1)).toInt (xs (n + 2)).toInt = (r.toInt, ()) ∧ H1 = K)) hJ1 (th_runV (As := [.int (xs (n + 1)), .int (xs (n + 2))]) (rest := []) hE.1 mf_X12_drawn kl_175 im_X12_drawn se_X12_drawn (c_X12_drawn l G Γ H1 hJ1.1 hU am ham (xs (n + 1)) (xs (n + 2))) rfl rfl ⟨Nat.le_of_ble_eq_true rfl, Nat.le_of_ble_eq_true rfl⟩ hJ1.1 ham ro_46 rfl rfl hl.1 rfl (Nat.le_of_ble_eq_true rfl) dL_law_1150 ⟨lw_f1 _, lw_f2 _⟩) (fun v K hp => by obtain ⟨r, rfl, hf1, rfl⟩ := hp; exact ⟨_, rfl, rfl, hJ1.1, hJ1.2.1, hJ1.2.2.1, ⟨r, rfl, hf1, rfl⟩⟩) rfl (fun w2 H2 locs hc2 hJ2 hP2 => ?_)
  obtain ⟨r2, rfl, e2, eK2⟩ := hP2
  refine lv_pop hx hb dL_law_1153 hc2 ?_
  rw [eK2] at hq
  exact lv_goto (tgt := 1239) hx hb dL_law_1154 (by decide) (kk u _ locs hJ2 hq)

set_option maxHeartbeats 4000000 in
set_option maxRecDepth 100000 in
theorem lw_c39 {p : Program} {e : Env} {s : State} {m : MethodId} {below : List Frame} {meth : Method} {c : Code} {Q : State → Prop} {G : th_G} {Γ : th_Ga} {ax am b L n : Nat} {xs : Nat → Int32} {ls : Array Slot} (l : Launch) (hE : lw_E p s m c b L xs G Γ ax am) (hL : L ≤ 384) (hn : n + 6 ≤ L) (hl : lv_has ls 4 [(3, .int (nI n)), (2, .ref am), (1, .ref ax), (0, .ref b)]) (hk : dv_U Γ ∧ lw_AR Γ ax) {u : Nat} {H : Heap} {locs : List Loc} (hJ : lw_J G Γ am s H locs u) (hq : RR (lw_A ax) (am : Int) (dv G Γ H) (dv G Γ H)) (kk : ∀ (u1 : Nat) (H1 : Heap) (locs1 : List Loc), lw_J G Γ am s H1 locs1 u1 → RR (lw_A ax) (am : Int) (dv G Γ H1) (dv G Γ H1) → W p l e room_1 s m #[Value.ref b] below meth c H1 locs1 (600000 - th_pc u1) (7302250 - th_pq u1) Q (F0 m 1239 ls [])) : W p l e room_1 s m #[Value.ref b] below meth c H locs (600000 - th_pc u) (7302250 - th_pq u) Q (F0 m 1157 ls []) := by
  have hx := hE.1.1
  have hb := hE.1.2.1
  have hax := hE.2.2.2.2.2.1
  have ham := hE.2.2.2.2.2.2.1
  have hU := hk.1
  have hA := hk.2
  refine lv_aload_n hx hb dL_law_1157 rfl (lv_at hl 2 rfl) ?_
  refine lw_ld (pc := 1158) (kn := 1) (pc' := 1163) hE hJ.2.2.2 hl hn hL dL_law_1158 rfl dL_law_1159 rfl dL_law_1160 (by decide) (by decide) rfl dL_law_1161 rfl dL_law_1162 rfl ?_
  refine lw_call (pc' := 1166) (k := 1) (P := (fun w K => ∃ r : Int32, w = .int r ∧ f_X11_image (dv G Γ H) (ax : Int) (xs (n + 1)).toInt = ((dv G Γ K), r.toInt) ∧ wf (am : Int) nW (dv G Γ H) (dv G Γ K))) hJ (th_runV (As := [.int (xs (n + 1))]) (rest := []) hE.1 mf_X11_image kl_176 im_X11_image se_X11_image (c_X11_image l G Γ H hJ.1 hJ.2.1.1 hU ax hax (xs (n + 1))) rfl rfl ⟨Nat.le_of_ble_eq_true rfl, Nat.le_of_ble_eq_true rfl⟩ hJ.1 hax ro_42 rfl rfl hl.1 rfl (Nat.le_of_ble_eq_true rfl) dL_law_1163 ⟨lw_f1 _, lw_f2 _⟩) (fun v K hp => by obtain ⟨r, rfl, -, -, hI1, hF1, hR1, hf1⟩ := hp; exact ⟨_, rfl, rfl, hI1, th_RN_c hR1 hJ.2.1 hI1 ham hF1 (by decide), th_bits_F hF1 hJ.2.2.1 (by decide), ⟨r, rfl, hf1, lw_wf hJ.1 hI1 hF1 ham (by decide +kernel)⟩⟩) rfl (fun w1 H1 locs hc1 hJ1 hP1 => ?_)
  obtain ⟨r1, rfl, e1, g1⟩ := hP1
  refine lv_pop hx hb dL_law_1166 hc1 ?_
  refine lv_aload_n hx hb dL_law_1167 rfl (lv_at hl 1 rfl) ?_
  refine lw_ld (pc := 1168) (kn := 1) (pc' := 1173) hE hJ1.2.2.2 hl hn hL dL_law_1168 rfl dL_law_1169 rfl dL_law_1170 (by decide) (by decide) rfl dL_law_1171 rfl dL_law_1172 rfl ?_
  refine lw_call (pc' := 1176) (k := 1) (P := (fun w K => ∃ r : Int32, w = .int r ∧ f_X12_image (dv G Γ H1) (am : Int) (xs (n + 1)).toInt = ((dv G Γ K), r.toInt) ∧ cf (lw_A ax) nV (dv G Γ H1) (dv G Γ K))) hJ1 (th_runV (As := [.int (xs (n + 1))]) (rest := []) hE.1 mf_X12_image kl_179 im_X12_image se_X12_image (c_X12_image l G Γ H1 hJ1.1 hU am ham hJ1.2.1 (xs (n + 1))) rfl rfl ⟨Nat.le_of_ble_eq_true rfl, Nat.le_of_ble_eq_true rfl⟩ hJ1.1 ham ro_46 rfl rfl hl.1 rfl (Nat.le_of_ble_eq_true rfl) dL_law_1173 ⟨lw_f1 _, lw_f2 _⟩) (fun v K hp => by obtain ⟨r, rfl, -, -, hI1, hF1, hR1, hf1⟩ := hp; exact ⟨_, rfl, rfl, hI1, hR1, th_bits_F hF1 hJ1.2.2.1 (by decide), ⟨r, rfl, hf1, lw_cf hJ1.1 hI1 hF1 hA (by decide +kernel)⟩⟩) rfl (fun w2 H2 locs hc2 hJ2 hP2 => ?_)
  obtain ⟨r2, rfl, e2, f2⟩ := hP2
  refine lv_pop hx hb dL_law_1176 hc2 ?_
  have hg := glue (r1 := r1.toInt) (r2 := r2.toInt) (fV := fun V => f_X11_image V (lw_A ax 0) (xs (n + 1)).toInt) (fW := fun V => f_X12_image V (am : Int) (xs (n + 1)).toInt) hq (fun V h => L_image h lw_NG) (by rw [lw_A0]; exact e1) g1 e2 f2
  exact lv_goto (tgt := 1239) hx hb dL_law_1177 (by decide) (kk u _ locs hJ2 hg.2)

set_option maxHeartbeats 4000000 in
set_option maxRecDepth 100000 in
theorem lw_c40 {p : Program} {e : Env} {s : State} {m : MethodId} {below : List Frame} {meth : Method} {c : Code} {Q : State → Prop} {G : th_G} {Γ : th_Ga} {ax am b L n : Nat} {xs : Nat → Int32} {ls : Array Slot} (l : Launch) (hE : lw_E p s m c b L xs G Γ ax am) (hL : L ≤ 384) (hn : n + 6 ≤ L) (hl : lv_has ls 4 [(3, .int (nI n)), (2, .ref am), (1, .ref ax), (0, .ref b)]) (hk : dv_U Γ ∧ lw_AR Γ ax) {u : Nat} {H : Heap} {locs : List Loc} (hJ : lw_J G Γ am s H locs u) (hq : RR (lw_A ax) (am : Int) (dv G Γ H) (dv G Γ H)) (kk : ∀ (u1 : Nat) (H1 : Heap) (locs1 : List Loc), lw_J G Γ am s H1 locs1 u1 → RR (lw_A ax) (am : Int) (dv G Γ H1) (dv G Γ H1) → W p l e room_1 s m #[Value.ref b] below meth c H1 locs1 (600000 - th_pc u1) (7302250 - th_pq u1) Q (F0 m 1239 ls [])) : W p l e room_1 s m #[Value.ref b] below meth c H locs (600000 - th_pc u) (7302250 - th_pq u) Q (F0 m 1180 ls []) := by
  have hx := hE.1.1
  have hb := hE.1.2.1
  have hax := hE.2.2.2.2.2.1
  have ham := hE.2.2.2.2.2.2.1
  have hU := hk.1
  have hA := hk.2
  refine lv_aload_n hx hb dL_law_1180 rfl (lv_at hl 2 rfl) ?_
  refine lw_ld (pc := 1181) (kn := 1) (pc' := 1186) hE hJ.2.2.2 hl hn hL dL_law_1181 rfl dL_law_1182 rfl dL_law_1183 (by decide) (by decide) rfl dL_law_1184 rfl dL_law_1185 rfl ?_
  refine lw_call (pc' := 1189) (k := 1) (P := (fun w K => ∃ r : Int32, w = .int r ∧ f_X11_back (dv G Γ H) (ax : Int) (xs (n + 1)).toInt = ((dv G Γ K), r.toInt) ∧ wf (am : Int) nW (dv G Γ H) (dv G Γ K))) hJ (th_runV (As := [.int (xs (n + 1))]) (rest := []) hE.1 mf_X11_back kl_180 im_X11_back se_X11_back (c_X11_back l G Γ H hJ.1 hJ.2.1.1 hU ax hax (xs (n + 1))) rfl rfl ⟨Nat.le_of_ble_eq_true rfl, Nat.le_of_ble_eq_true rfl⟩ hJ.1 hax ro_42 rfl rfl hl.1 rfl (Nat.le_of_ble_eq_true rfl) dL_law_1186 ⟨lw_f1 _, lw_f2 _⟩) (fun v K hp => by obtain ⟨r, rfl, hI1, hF1, hR1, hf1⟩ := hp; exact ⟨_, rfl, rfl, hI1, th_RN_c hR1 hJ.2.1 hI1 ham hF1 (by decide), th_bits_F hF1 hJ.2.2.1 (by decide), ⟨r, rfl, hf1, lw_wf hJ.1 hI1 hF1 ham (by decide +kernel)⟩⟩) rfl (fun w1 H1 locs hc1 hJ1 hP1 => ?_)
  obtain ⟨r1, rfl, e1, g1⟩ := hP1
  refine lv_pop hx hb dL_law_1189 hc1 ?_
  refine lv_aload_n hx hb dL_law_1190 rfl (lv_at hl 1 rfl) ?_
  refine lw_ld (pc := 1191) (kn := 1) (pc' := 1196) hE hJ1.2.2.2 hl hn hL dL_law_1191 rfl dL_law_1192 rfl dL_law_1193 (by decide) (by decide) rfl dL_law_1194 rfl dL_law_1195 rfl ?_
  refine lw_call (pc' := 1199) (k := 1) (P := (fun w K => ∃ r : Int32, w = .int r ∧ f_X12_back (dv G Γ H1) (am : Int) (xs (n + 1)).toInt = ((dv G Γ K), r.toInt) ∧ cf (lw_A ax) nV (dv G Γ H1) (dv G Γ K))) hJ1 (th_runV (As := [.int (xs (n + 1))]) (rest := []) hE.1 mf_X12_back kl_183 im_X12_back se_X12_back (c_X12_back l G Γ H1 hJ1.1 hU am ham hJ1.2.1 (xs (n + 1))) rfl rfl ⟨Nat.le_of_ble_eq_true rfl, Nat.le_of_ble_eq_true rfl⟩ hJ1.1 ham ro_46 rfl rfl hl.1 rfl (Nat.le_of_ble_eq_true rfl) dL_law_1196 ⟨lw_f1 _, lw_f2 _⟩) (fun v K hp => by obtain ⟨r, rfl, hI1, hF1, hR1, hf1⟩ := hp; exact ⟨_, rfl, rfl, hI1, hR1, th_bits_F hF1 hJ1.2.2.1 (by decide), ⟨r, rfl, hf1, lw_cf hJ1.1 hI1 hF1 hA (by decide +kernel)⟩⟩) rfl (fun w2 H2 locs hc2 hJ2 hP2 => ?_)
  obtain ⟨r2, rfl, e2, f2⟩ := hP2
  refine lv_pop hx hb dL_law_1199 hc2 ?_
  have hg := glue (r1 := r1.toInt) (r2 := r2.toInt) (fV := fun V => f_X11_back V (lw_A ax 0) (xs (n + 1)).toInt) (fW := fun V => f_X12_back V (am : Int) (xs (n + 1)).toInt) hq (fun V h => L_back h lw_NG) (by rw [lw_A0]; exact e1) g1 e2 f2
  exact lv_goto (tgt := 1239) hx hb dL_law_1200 (by decide) (kk u _ locs hJ2 hg.2)

set_option maxHeartbeats 4000000 in
set_option maxRecDepth 100000 in
theorem lw_c41 {p : Program} {e : Env} {s : State} {m : MethodId} {below : List Frame} {meth : Method} {c : Code} {Q : State → Prop} {G : th_G} {Γ : th_Ga} {ax am b L n : Nat} {xs : Nat → Int32} {ls : Array Slot} (l : Launch) (hE : lw_E p s m c b L xs G Γ ax am) (hL : L ≤ 384) (hn : n + 6 ≤ L) (hl : lv_has ls 4 [(3, .int (nI n)), (2, .ref am), (1, .ref ax), (0, .ref b)]) (hk : dv_U Γ ∧ lw_AR Γ ax) {u : Nat} {H : Heap} {locs : List Loc} (hJ : lw_J G Γ am s H locs u) (hq : RR (lw_A ax) (am : Int) (dv G Γ H) (dv G Γ H)) (kk : ∀ (u1 : Nat) (H1 : Heap) (locs1 : List Loc), lw_J G Γ am s H1 locs1 u1 → RR (lw_A ax) (am : Int) (dv G Γ H1) (dv G Γ H1) → W p l e room_1 s m #[Value.ref b] below meth c H1 locs1 (600000 - th_pc u1) (7302250 - th_pq u1) Q (F0 m 1239 ls [])) : W p l e room_1 s m #[Value.ref b] below meth c H locs (600000 - th_pc u) (7302250 - th_pq u) Q (F0 m 1203 ls []) := by
  have hx := hE.1.1
  have hb := hE.1.2.1
  have hax := hE.2.2.2.2.2.1
  have ham := hE.2.2.2.2.2.2.1
  have hU := hk.1
  have hA := hk.2
  refine lv_aload_n hx hb dL_law_1203 rfl (lv_at hl 2 rfl) ?_
  refine lw_ld (pc := 1204) (kn := 1) (pc' := 1209) hE hJ.2.2.2 hl hn hL dL_law_1204 rfl dL_law_1205 rfl dL_law_1206 (by decide) (by decide) rfl dL_law_1207 rfl dL_law_1208 rfl ?_
  refine lw_call (pc' := 1212) (k := 1) (P := (fun w K => ∃ r : Int32, w = .int r ∧ f_X11_count (dv G Γ H) (ax : Int) (xs (n + 1)).toInt = (r.toInt, ()) ∧ H = K)) hJ (th_runV (As := [.int (xs (n + 1))]) (rest := []) hE.1 mf_X11_count kl_184 im_X11_count se_X11_count (c_X11_count l G Γ H hJ.1 hU ax hax (xs (n + 1))) rfl rfl ⟨Nat.le_of_ble_eq_true rfl, Nat.le_of_ble_eq_true rfl⟩ hJ.1 hax ro_42 rfl rfl hl.1 rfl (Nat.le_of_ble_eq_true rfl) dL_law_1209 ⟨lw_f1 _, lw_f2 _⟩) (fun v K hp => by obtain ⟨r, rfl, hf1, rfl⟩ := hp; exact ⟨_, rfl, rfl, hJ.1, hJ.2.1, hJ.2.2.1, ⟨r, rfl, hf1, rfl⟩⟩) rfl (fun w1 H1 locs hc1 hJ1 hP1 => ?_)
  obtain ⟨r1, rfl, e1, eK1⟩ := hP1
  rw [eK1] at e1 hq
  refine lv_pop hx hb dL_law_1212 hc1 ?_
  refine lv_aload_n hx hb dL_law_1213 rfl (lv_at hl 1 rfl) ?_
  refine lw_ld (pc := 1214) (kn := 1) (pc' := 1219) hE hJ1.2.2.2 hl hn hL dL_law_1214 rfl dL_law_1215 rfl dL_law_1216 (by decide) (by decide) rfl dL_law_1217 rfl dL_law_1218 rfl ?_
  refine lw_call (pc' := 1222) (k := 1) (P := (fun w K => ∃ r : Int32, w = .int r ∧ f_X12_count (dv G Γ H1) (am : Int) (xs (n + 1)).toInt = (r.toInt, ()) ∧ H1 = K)) hJ1 (th_runV (As := [.int (xs (n + 1))]) (rest := []) hE.1 mf_X12_count kl_187 im_X12_count se_X12_count (c_X12_count l G Γ H1 hJ1.1 hU am ham (xs (n + 1))) rfl rfl ⟨Nat.le_of_ble_eq_true rfl, Nat.le_of_ble_eq_true rfl⟩ hJ1.1 ham ro_46 rfl rfl hl.1 rfl (Nat.le_of_ble_eq_true rfl) dL_law_1219 ⟨lw_f1 _, lw_f2 _⟩) (fun v K hp => by obtain ⟨r, rfl, hf1, rfl⟩ := hp; exact ⟨_, rfl, rfl, hJ1.1, hJ1.2.1, hJ1.2.2.1, ⟨r, rfl, hf1, rfl⟩⟩) rfl (fun w2 H2 locs hc2 hJ2 hP2 => ?_)
  obtain ⟨r2, rfl, e2, eK2⟩ := hP2
  refine lv_pop hx hb dL_law_1222 hc2 ?_
  rw [eK2] at hq
  exact lv_goto (tgt := 1239) hx hb dL_law_1223 (by decide) (kk u _ locs hJ2 hq)

set_option maxHeartbeats 4000000 in
set_option maxRecDepth 100000 in
theorem lw_c42 {p : Program} {e : Env} {s : State} {m : MethodId} {below : List Frame} {meth : Method} {c : Code} {Q : State → Prop} {G : th_G} {Γ : th_Ga} {ax am b L n : Nat} {xs : Nat → Int32} {ls : Array Slot} (l : Launch) (hE : lw_E p s m c b L xs G Γ ax am) (hL : L ≤ 384) (hn : n + 6 ≤ L) (hl : lv_has ls 4 [(3, .int (nI n)), (2, .ref am), (1, .ref ax), (0, .ref b)]) (hk : dv_U Γ ∧ lw_AR Γ ax) {u : Nat} {H : Heap} {locs : List Loc} (hJ : lw_J G Γ am s H locs u) (hq : RR (lw_A ax) (am : Int) (dv G Γ H) (dv G Γ H)) (kk : ∀ (u1 : Nat) (H1 : Heap) (locs1 : List Loc), lw_J G Γ am s H1 locs1 u1 → RR (lw_A ax) (am : Int) (dv G Γ H1) (dv G Γ H1) → W p l e room_1 s m #[Value.ref b] below meth c H1 locs1 (600000 - th_pc u1) (7302250 - th_pq u1) Q (F0 m 1239 ls [])) : W p l e room_1 s m #[Value.ref b] below meth c H locs (600000 - th_pc u) (7302250 - th_pq u) Q (F0 m 1226 ls []) := by
  have hx := hE.1.1
  have hb := hE.1.2.1
  have hax := hE.2.2.2.2.2.1
  have ham := hE.2.2.2.2.2.2.1
  have hU := hk.1
  have hA := hk.2
  refine lv_aload_n hx hb dL_law_1226 rfl (lv_at hl 2 rfl) ?_
  refine lw_call (pc' := 1230) (k := 1) (P := (fun w K => ∃ r : Int32, w = .int r ∧ f_X11_status (dv G Γ H) (ax : Int) = (r.toInt, ()) ∧ H = K)) hJ (th_runV (As := []) (rest := []) hE.1 mf_X11_status kl_188 im_X11_status se_X11_status (c_X11_status l G Γ H hJ.1 hU ax hax) rfl rfl ⟨Nat.le_of_ble_eq_true rfl, Nat.le_of_ble_eq_true rfl⟩ hJ.1 hax ro_42 rfl rfl hl.1 rfl (Nat.le_of_ble_eq_true rfl) dL_law_1227 ⟨lw_f1 _, lw_f2 _⟩) (fun v K hp => by obtain ⟨r, rfl, hf1, rfl⟩ := hp; exact ⟨_, rfl, rfl, hJ.1, hJ.2.1, hJ.2.2.1, ⟨r, rfl, hf1, rfl⟩⟩) rfl (fun w1 H1 locs hc1 hJ1 hP1 => ?_)
  obtain ⟨r1, rfl, e1, eK1⟩ := hP1
  rw [eK1] at e1 hq
  refine lv_pop hx hb dL_law_1230 hc1 ?_
  refine lv_aload_n hx hb dL_law_1231 rfl (lv_at hl 1 rfl) ?_
  refine lw_call (pc' := 1235) (k := 1) (P := (fun w K => ∃ r : Int32, w = .int r ∧ f_X12_status (dv G Γ H1) (am : Int) = (r.toInt, ()) ∧ H1 = K)) hJ1 (th_runV (As := []) (rest := []) hE.1 mf_X12_status kl_191 im_X12_status se_X12_status (c_X12_status l G Γ H1 hJ1.1 hU am ham) rfl rfl ⟨Nat.le_of_ble_eq_true rfl, Nat.le_of_ble_eq_true rfl⟩ hJ1.1 ham ro_46 rfl rfl hl.1 rfl (Nat.le_of_ble_eq_true rfl) dL_law_1232 ⟨lw_f1 _, lw_f2 _⟩) (fun v K hp => by obtain ⟨r, rfl, hf1, rfl⟩ := hp; exact ⟨_, rfl, rfl, hJ1.1, hJ1.2.1, hJ1.2.2.1, ⟨r, rfl, hf1, rfl⟩⟩) rfl (fun w2 H2 locs hc2 hJ2 hP2 => ?_)
  obtain ⟨r2, rfl, e2, eK2⟩ := hP2
  refine lv_pop hx hb dL_law_1235 hc2 ?_
  rw [eK2] at hq
  exact lv_goto (tgt := 1239) hx hb dL_law_1236 (by decide) (kk u _ locs hJ2 hq)
