set_option maxHeartbeats 4000000 in
set_option maxRecDepth 100000 in
theorem lw_c33 {p : Program} {e : Env} {s : State} {m : MethodId} {below : List Frame} {meth : Method} {c : Code} {Q : State → Prop} {G : th_G} {Γ : th_Ga} {ax am kr st s0 s1 im b L n : Nat} {xs : Nat → Int32} {ls : Array Slot} (l : Launch) (hE : lw_E p s m c b L xs G Γ ax am) (hL : L ≤ 384) (hn : n + 6 ≤ L) (hl : lv_has ls 4 [(3, .int (nI n)), (2, .ref am), (1, .ref ax), (0, .ref b)]) (hkr : Γ kr = (44, ax) ∧ Γ st = (32, 0) ∧ Γ s0 = (32, 0) ∧ Γ s1 = (32, 0) ∧ Γ im = (43, ax) ∧ st ≠ s0 ∧ st ≠ s1 ∧ s0 ≠ s1) {u : Nat} {vc vm : (Int → Int) × Int × Int × Int} {H : Heap} {locs : List Loc} (hJ : lw_J G Γ ax am kr st s0 s1 im s H locs u vc vm) (hq : lw_Cp vc vm) (kk : ∀ (u1 : Nat) (vc1 vm1 : (Int → Int) × Int × Int × Int) (H1 : Heap) (locs1 : List Loc), lw_J G Γ ax am kr st s0 s1 im s H1 locs1 u1 vc1 vm1 → lw_Cp vc1 vm1 → W p l e room_1 s m #[Value.ref b] below meth c H1 locs1 (600000 - th_pc u1) (7302250 - th_pq u1) Q (F0 m 1239 ls [])) : W p l e room_1 s m #[Value.ref b] below meth c H locs (600000 - th_pc u) (7302250 - th_pq u) Q (F0 m 999 ls []) := by
  have hx := hE.1.1
  have hb := hE.1.2.1
  have hax := hE.2.2.2.2.2.1
  have ham := hE.2.2.2.2.2.2.1
  have hV := hJ.2.2.2.2
  refine lv_aload_n hx hb dL_law_999 rfl (lv_at hl 2 rfl) ?_
  refine lw_callb (pc := 1000) (pc' := 1004) (vc1 := vc) (vm1 := vm) hx hb hJ (th_runV (As := []) (rest := []) hE.1 mf_X11_floors kl_151 im_X11_floors se_X11_floors (c_X11_floors l G Γ H hJ.1 hJ.2.1.1 ax hax u hJ.2.2.1) rfl rfl ⟨Nat.le_of_ble_eq_true rfl, Nat.le_of_ble_eq_true rfl⟩ hJ.1 hax ro_42 rfl rfl hl.1 rfl (Nat.le_of_ble_eq_true rfl) dL_law_1000 ⟨lw_f3 hJ.2.2.1.1, lw_f4 hJ.2.2.1.1⟩) (fun v H1 hp => by obtain ⟨r, rfl, hI1, hF1, hR1, hbp⟩ := hp; exact ⟨_, rfl, rfl, hI1, th_RN_c hR1 hJ.2.1 hI1 ham hF1 (by decide), hbp, lw_vF hV hI1 hF1 hax ham hkr (by decide)⟩) rfl dL_law_1003 rfl (fun u H locs hJ => ?_)
  have hV := hJ.2.2.2.2
  refine lv_aload_n hx hb dL_law_1004 rfl (lv_at hl 1 rfl) ?_
  refine lw_call1 (pc := 1005) (pc' := 1009) (vc1 := vc) (vm1 := vm) hx hb hJ (th_runV (As := []) (rest := []) hE.1 mf_X12_floors kl_154 im_X12_floors se_X12_floors (c_X12_floors l G Γ H hJ.1 am ham (th_NK hJ.2.1)) rfl rfl ⟨Nat.le_of_ble_eq_true rfl, Nat.le_of_ble_eq_true rfl⟩ hJ.1 ham ro_46 rfl rfl hl.1 rfl (Nat.le_of_ble_eq_true rfl) dL_law_1005 ⟨lw_f1 _, lw_f2 _⟩) (fun v H1 hp => by obtain ⟨r, rfl, hI1, hF1, hR1⟩ := hp; exact ⟨_, rfl, rfl, hI1, th_RN_c hR1.1 hJ.2.1 hI1 ham hF1 (by decide), th_bits_F hF1 hJ.2.2.1 (by decide), lw_vF hV hI1 hF1 hax ham hkr (by decide)⟩) rfl dL_law_1008 rfl (fun H locs hJ => ?_)
  have hV := hJ.2.2.2.2
  exact lv_goto (tgt := 1239) hx hb dL_law_1009 (by decide) (kk u _ _ H locs hJ hq)

set_option maxHeartbeats 4000000 in
set_option maxRecDepth 100000 in
theorem lw_c34 {p : Program} {e : Env} {s : State} {m : MethodId} {below : List Frame} {meth : Method} {c : Code} {Q : State → Prop} {G : th_G} {Γ : th_Ga} {ax am kr st s0 s1 im b L n : Nat} {xs : Nat → Int32} {ls : Array Slot} (l : Launch) (hE : lw_E p s m c b L xs G Γ ax am) (hL : L ≤ 384) (hn : n + 6 ≤ L) (hl : lv_has ls 4 [(3, .int (nI n)), (2, .ref am), (1, .ref ax), (0, .ref b)]) (hkr : Γ kr = (44, ax) ∧ Γ st = (32, 0) ∧ Γ s0 = (32, 0) ∧ Γ s1 = (32, 0) ∧ Γ im = (43, ax) ∧ st ≠ s0 ∧ st ≠ s1 ∧ s0 ≠ s1) {u : Nat} {vc vm : (Int → Int) × Int × Int × Int} {H : Heap} {locs : List Loc} (hJ : lw_J G Γ ax am kr st s0 s1 im s H locs u vc vm) (hq : lw_Cp vc vm) (kk : ∀ (u1 : Nat) (vc1 vm1 : (Int → Int) × Int × Int × Int) (H1 : Heap) (locs1 : List Loc), lw_J G Γ ax am kr st s0 s1 im s H1 locs1 u1 vc1 vm1 → lw_Cp vc1 vm1 → W p l e room_1 s m #[Value.ref b] below meth c H1 locs1 (600000 - th_pc u1) (7302250 - th_pq u1) Q (F0 m 1239 ls [])) : W p l e room_1 s m #[Value.ref b] below meth c H locs (600000 - th_pc u) (7302250 - th_pq u) Q (F0 m 1012 ls []) := by
  have hx := hE.1.1
  have hb := hE.1.2.1
  have hax := hE.2.2.2.2.2.1
  have ham := hE.2.2.2.2.2.2.1
  have hV := hJ.2.2.2.2
  refine lv_aload_n hx hb dL_law_1012 rfl (lv_at hl 2 rfl) ?_
  refine lw_ld (pc := 1013) (kn := 1) (pc' := 1018) hE hJ.2.2.2.1 hl hn hL dL_law_1013 rfl dL_law_1014 rfl dL_law_1015 (by decide) (by decide) rfl dL_law_1016 rfl dL_law_1017 rfl ?_
  refine lw_callb (pc := 1018) (pc' := 1022) (vc1 := vc) (vm1 := vm) hx hb hJ (th_runV (As := [.int (xs (n + 1))]) (rest := []) hE.1 mf_X11_look kl_155 im_X11_look se_X11_look (c_X11_look l G Γ H hJ.1 hJ.2.1.1 ax hax (xs (n + 1)) u hJ.2.2.1) rfl rfl ⟨Nat.le_of_ble_eq_true rfl, Nat.le_of_ble_eq_true rfl⟩ hJ.1 hax ro_42 rfl rfl hl.1 rfl (Nat.le_of_ble_eq_true rfl) dL_law_1018 ⟨lw_f3 hJ.2.2.1.1, lw_f4 hJ.2.2.1.1⟩) (fun v H1 hp => by obtain ⟨r, rfl, hI1, hF1, hR1, hbp⟩ := hp; exact ⟨_, rfl, rfl, hI1, th_RN_c hR1 hJ.2.1 hI1 ham hF1 (by decide), hbp, lw_vF hV hI1 hF1 hax ham hkr (by decide)⟩) rfl dL_law_1021 rfl (fun u H locs hJ => ?_)
  have hV := hJ.2.2.2.2
  refine lv_aload_n hx hb dL_law_1022 rfl (lv_at hl 1 rfl) ?_
  refine lw_ld (pc := 1023) (kn := 1) (pc' := 1028) hE hJ.2.2.2.1 hl hn hL dL_law_1023 rfl dL_law_1024 rfl dL_law_1025 (by decide) (by decide) rfl dL_law_1026 rfl dL_law_1027 rfl ?_
  refine lw_call1 (pc := 1028) (pc' := 1032) (vc1 := vc) (vm1 := vm) hx hb hJ (th_runV (As := [.int (xs (n + 1))]) (rest := []) hE.1 mf_X12_look kl_158 im_X12_look se_X12_look (c_X12_look l G Γ H hJ.1 am ham (th_NK hJ.2.1) (xs (n + 1))) rfl rfl ⟨Nat.le_of_ble_eq_true rfl, Nat.le_of_ble_eq_true rfl⟩ hJ.1 ham ro_46 rfl rfl hl.1 rfl (Nat.le_of_ble_eq_true rfl) dL_law_1028 ⟨lw_f1 _, lw_f2 _⟩) (fun v H1 hp => by obtain ⟨r, rfl, hI1, hF1, hR1⟩ := hp; exact ⟨_, rfl, rfl, hI1, th_RN_c hR1.1 hJ.2.1 hI1 ham hF1 (by decide), th_bits_F hF1 hJ.2.2.1 (by decide), lw_vF hV hI1 hF1 hax ham hkr (by decide)⟩) rfl dL_law_1031 rfl (fun H locs hJ => ?_)
  have hV := hJ.2.2.2.2
  exact lv_goto (tgt := 1239) hx hb dL_law_1032 (by decide) (kk u _ _ H locs hJ hq)

set_option maxHeartbeats 4000000 in
set_option maxRecDepth 100000 in
theorem lw_c35 {p : Program} {e : Env} {s : State} {m : MethodId} {below : List Frame} {meth : Method} {c : Code} {Q : State → Prop} {G : th_G} {Γ : th_Ga} {ax am kr st s0 s1 im b L n : Nat} {xs : Nat → Int32} {ls : Array Slot} (l : Launch) (hE : lw_E p s m c b L xs G Γ ax am) (hL : L ≤ 384) (hn : n + 6 ≤ L) (hl : lv_has ls 4 [(3, .int (nI n)), (2, .ref am), (1, .ref ax), (0, .ref b)]) (hkr : Γ kr = (44, ax) ∧ Γ st = (32, 0) ∧ Γ s0 = (32, 0) ∧ Γ s1 = (32, 0) ∧ Γ im = (43, ax) ∧ st ≠ s0 ∧ st ≠ s1 ∧ s0 ≠ s1) {u : Nat} {vc vm : (Int → Int) × Int × Int × Int} {H : Heap} {locs : List Loc} (hJ : lw_J G Γ ax am kr st s0 s1 im s H locs u vc vm) (hq : lw_Cp vc vm) (kk : ∀ (u1 : Nat) (vc1 vm1 : (Int → Int) × Int × Int × Int) (H1 : Heap) (locs1 : List Loc), lw_J G Γ ax am kr st s0 s1 im s H1 locs1 u1 vc1 vm1 → lw_Cp vc1 vm1 → W p l e room_1 s m #[Value.ref b] below meth c H1 locs1 (600000 - th_pc u1) (7302250 - th_pq u1) Q (F0 m 1239 ls [])) : W p l e room_1 s m #[Value.ref b] below meth c H locs (600000 - th_pc u) (7302250 - th_pq u) Q (F0 m 1035 ls []) := by
  have hx := hE.1.1
  have hb := hE.1.2.1
  have hax := hE.2.2.2.2.2.1
  have ham := hE.2.2.2.2.2.2.1
  have hV := hJ.2.2.2.2
  refine lv_aload_n hx hb dL_law_1035 rfl (lv_at hl 2 rfl) ?_
  refine lw_ld (pc := 1036) (kn := 1) (pc' := 1041) hE hJ.2.2.2.1 hl hn hL dL_law_1036 rfl dL_law_1037 rfl dL_law_1038 (by decide) (by decide) rfl dL_law_1039 rfl dL_law_1040 rfl ?_
  refine lw_ld (pc := 1041) (kn := 2) (pc' := 1046) hE hJ.2.2.2.1 hl hn hL dL_law_1041 rfl dL_law_1042 rfl dL_law_1043 (by decide) (by decide) rfl dL_law_1044 rfl dL_law_1045 rfl ?_
  refine lw_call2 (pc := 1046) (pc' := 1050) (vc1 := vc) (vm1 := vm) hx hb hJ (th_runV (As := [.int (xs (n + 1)), .int (xs (n + 2))]) (rest := []) hE.1 mf_X11_few kl_159 im_X11_few se_X11_few (c_X11_few l G Γ H hJ.1 hJ.2.1.1 ax hax (xs (n + 1)) (xs (n + 2))) rfl rfl ⟨Nat.le_of_ble_eq_true rfl, Nat.le_of_ble_eq_true rfl⟩ hJ.1 hax ro_42 rfl rfl hl.1 rfl (Nat.le_of_ble_eq_true rfl) dL_law_1046 ⟨lw_f1 _, lw_f2 _⟩) (fun v H1 hp => by obtain ⟨r, rfl, hI1, hF1, hR1⟩ := hp; exact ⟨_, rfl, rfl, hI1, th_RN_c hR1 hJ.2.1 hI1 ham hF1 (by decide), th_bits_F hF1 hJ.2.2.1 (by decide), lw_vF hV hI1 hF1 hax ham hkr (by decide)⟩) rfl dL_law_1049 rfl (fun H locs hJ => ?_)
  have hV := hJ.2.2.2.2
  refine lv_aload_n hx hb dL_law_1050 rfl (lv_at hl 1 rfl) ?_
  refine lw_ld (pc := 1051) (kn := 1) (pc' := 1056) hE hJ.2.2.2.1 hl hn hL dL_law_1051 rfl dL_law_1052 rfl dL_law_1053 (by decide) (by decide) rfl dL_law_1054 rfl dL_law_1055 rfl ?_
  refine lw_ld (pc := 1056) (kn := 2) (pc' := 1061) hE hJ.2.2.2.1 hl hn hL dL_law_1056 rfl dL_law_1057 rfl dL_law_1058 (by decide) (by decide) rfl dL_law_1059 rfl dL_law_1060 rfl ?_
  refine lw_call2 (pc := 1061) (pc' := 1065) (vc1 := vc) (vm1 := vm) hx hb hJ (th_runV (As := [.int (xs (n + 1)), .int (xs (n + 2))]) (rest := []) hE.1 mf_X12_few kl_163 im_X12_few se_X12_few (c_X12_few l G Γ H hJ.1 hJ.2.1.1 am ham (xs (n + 1)) (xs (n + 2))) rfl rfl ⟨Nat.le_of_ble_eq_true rfl, Nat.le_of_ble_eq_true rfl⟩ hJ.1 ham ro_46 rfl rfl hl.1 rfl (Nat.le_of_ble_eq_true rfl) dL_law_1061 ⟨lw_f1 _, lw_f2 _⟩) (fun v H1 hp => by obtain ⟨r, rfl, hI1, hF1, hR1⟩ := hp; exact ⟨_, rfl, rfl, hI1, th_RN_c hR1 hJ.2.1 hI1 ham hF1 (by decide), th_bits_F hF1 hJ.2.2.1 (by decide), lw_vF hV hI1 hF1 hax ham hkr (by decide)⟩) rfl dL_law_1064 rfl (fun H locs hJ => ?_)
  have hV := hJ.2.2.2.2
  exact lv_goto (tgt := 1239) hx hb dL_law_1065 (by decide) (kk u _ _ H locs hJ hq)

set_option maxHeartbeats 4000000 in
set_option maxRecDepth 100000 in
theorem lw_c36 {p : Program} {e : Env} {s : State} {m : MethodId} {below : List Frame} {meth : Method} {c : Code} {Q : State → Prop} {G : th_G} {Γ : th_Ga} {ax am kr st s0 s1 im b L n : Nat} {xs : Nat → Int32} {ls : Array Slot} (l : Launch) (hE : lw_E p s m c b L xs G Γ ax am) (hL : L ≤ 384) (hn : n + 6 ≤ L) (hl : lv_has ls 4 [(3, .int (nI n)), (2, .ref am), (1, .ref ax), (0, .ref b)]) (hkr : Γ kr = (44, ax) ∧ Γ st = (32, 0) ∧ Γ s0 = (32, 0) ∧ Γ s1 = (32, 0) ∧ Γ im = (43, ax) ∧ st ≠ s0 ∧ st ≠ s1 ∧ s0 ≠ s1) {u : Nat} {vc vm : (Int → Int) × Int × Int × Int} {H : Heap} {locs : List Loc} (hJ : lw_J G Γ ax am kr st s0 s1 im s H locs u vc vm) (hq : lw_Cp vc vm) (kk : ∀ (u1 : Nat) (vc1 vm1 : (Int → Int) × Int × Int × Int) (H1 : Heap) (locs1 : List Loc), lw_J G Γ ax am kr st s0 s1 im s H1 locs1 u1 vc1 vm1 → lw_Cp vc1 vm1 → W p l e room_1 s m #[Value.ref b] below meth c H1 locs1 (600000 - th_pc u1) (7302250 - th_pq u1) Q (F0 m 1239 ls [])) : W p l e room_1 s m #[Value.ref b] below meth c H locs (600000 - th_pc u) (7302250 - th_pq u) Q (F0 m 1068 ls []) := by
  have hx := hE.1.1
  have hb := hE.1.2.1
  have hax := hE.2.2.2.2.2.1
  have ham := hE.2.2.2.2.2.2.1
  have hV := hJ.2.2.2.2
  refine lv_aload_n hx hb dL_law_1068 rfl (lv_at hl 2 rfl) ?_
  refine lw_ld (pc := 1069) (kn := 1) (pc' := 1074) hE hJ.2.2.2.1 hl hn hL dL_law_1069 rfl dL_law_1070 rfl dL_law_1071 (by decide) (by decide) rfl dL_law_1072 rfl dL_law_1073 rfl ?_
  refine lw_callb (pc := 1074) (pc' := 1078) (vc1 := vc) (vm1 := vm) hx hb hJ (th_runV (As := [.int (xs (n + 1))]) (rest := []) hE.1 mf_X11_compare kl_164 im_X11_compare se_X11_compare (c_X11_compare l G Γ H hJ.1 hJ.2.1.1 ax hax (xs (n + 1)) u hJ.2.2.1) rfl rfl ⟨Nat.le_of_ble_eq_true rfl, Nat.le_of_ble_eq_true rfl⟩ hJ.1 hax ro_42 rfl rfl hl.1 rfl (Nat.le_of_ble_eq_true rfl) dL_law_1074 ⟨lw_f3 hJ.2.2.1.1, lw_f4 hJ.2.2.1.1⟩) (fun v H1 hp => by obtain ⟨r, rfl, hI1, hF1, hR1, hbp⟩ := hp; exact ⟨_, rfl, rfl, hI1, th_RN_c hR1 hJ.2.1 hI1 ham hF1 (by decide), hbp, lw_vF hV hI1 hF1 hax ham hkr (by decide)⟩) rfl dL_law_1077 rfl (fun u H locs hJ => ?_)
  have hV := hJ.2.2.2.2
  refine lv_aload_n hx hb dL_law_1078 rfl (lv_at hl 1 rfl) ?_
  refine lw_ld (pc := 1079) (kn := 1) (pc' := 1084) hE hJ.2.2.2.1 hl hn hL dL_law_1079 rfl dL_law_1080 rfl dL_law_1081 (by decide) (by decide) rfl dL_law_1082 rfl dL_law_1083 rfl ?_
  refine lw_call1 (pc := 1084) (pc' := 1088) (vc1 := vc) (vm1 := vm) hx hb hJ (th_runV (As := [.int (xs (n + 1))]) (rest := []) hE.1 mf_X12_compare kl_167 im_X12_compare se_X12_compare (c_X12_compare_q l G Γ H hJ.1 am ham hJ.2.1 (xs (n + 1))) rfl rfl ⟨Nat.le_of_ble_eq_true rfl, Nat.le_of_ble_eq_true rfl⟩ hJ.1 ham ro_46 rfl rfl hl.1 rfl (Nat.le_of_ble_eq_true rfl) dL_law_1084 ⟨lw_f1 _, lw_f2 _⟩) (fun v H1 hp => by obtain ⟨r, rfl, hI1, hF1, hR1, -, zz⟩ := hp; exact ⟨_, rfl, rfl, hI1, hR1, th_bits_F hF1 hJ.2.2.1 (by decide), lw_vG hV hF1 hax hkr (by decide) (lw_vC hV hF1 hkr (by decide)) (lw_vM7 hV hI1 hF1 ham (by decide) zz)⟩) rfl dL_law_1087 rfl (fun H locs hJ => ?_)
  have hV := hJ.2.2.2.2
  exact lv_goto (tgt := 1239) hx hb dL_law_1088 (by decide) (kk u _ _ H locs hJ hq)

set_option maxHeartbeats 4000000 in
set_option maxRecDepth 100000 in
theorem lw_c37 {p : Program} {e : Env} {s : State} {m : MethodId} {below : List Frame} {meth : Method} {c : Code} {Q : State → Prop} {G : th_G} {Γ : th_Ga} {ax am kr st s0 s1 im b L n : Nat} {xs : Nat → Int32} {ls : Array Slot} (l : Launch) (hE : lw_E p s m c b L xs G Γ ax am) (hL : L ≤ 384) (hn : n + 6 ≤ L) (hl : lv_has ls 4 [(3, .int (nI n)), (2, .ref am), (1, .ref ax), (0, .ref b)]) (hkr : Γ kr = (44, ax) ∧ Γ st = (32, 0) ∧ Γ s0 = (32, 0) ∧ Γ s1 = (32, 0) ∧ Γ im = (43, ax) ∧ st ≠ s0 ∧ st ≠ s1 ∧ s0 ≠ s1) {u : Nat} {vc vm : (Int → Int) × Int × Int × Int} {H : Heap} {locs : List Loc} (hJ : lw_J G Γ ax am kr st s0 s1 im s H locs u vc vm) (hq : lw_Cp vc vm) (kk : ∀ (u1 : Nat) (vc1 vm1 : (Int → Int) × Int × Int × Int) (H1 : Heap) (locs1 : List Loc), lw_J G Γ ax am kr st s0 s1 im s H1 locs1 u1 vc1 vm1 → lw_Cp vc1 vm1 → W p l e room_1 s m #[Value.ref b] below meth c H1 locs1 (600000 - th_pc u1) (7302250 - th_pq u1) Q (F0 m 1239 ls [])) : W p l e room_1 s m #[Value.ref b] below meth c H locs (600000 - th_pc u) (7302250 - th_pq u) Q (F0 m 1091 ls []) := by
  have hx := hE.1.1
  have hb := hE.1.2.1
  have hax := hE.2.2.2.2.2.1
  have ham := hE.2.2.2.2.2.2.1
  have hV := hJ.2.2.2.2
  refine lv_aload_n hx hb dL_law_1091 rfl (lv_at hl 2 rfl) ?_
  refine lw_ld (pc := 1092) (kn := 1) (pc' := 1097) hE hJ.2.2.2.1 hl hn hL dL_law_1092 rfl dL_law_1093 rfl dL_law_1094 (by decide) (by decide) rfl dL_law_1095 rfl dL_law_1096 rfl ?_
  refine lw_ld (pc := 1097) (kn := 2) (pc' := 1102) hE hJ.2.2.2.1 hl hn hL dL_law_1097 rfl dL_law_1098 rfl dL_law_1099 (by decide) (by decide) rfl dL_law_1100 rfl dL_law_1101 rfl ?_
  refine lw_call1 (pc := 1102) (pc' := 1106) (vc1 := vc) (vm1 := vm) hx hb hJ (th_runV (As := [.int (xs (n + 1)), .int (xs (n + 2))]) (rest := []) hE.1 mf_X11_years kl_168 im_X11_years se_X11_years (c_X11_years l G Γ H hJ.1 hJ.2.1.1 ax hax (xs (n + 1)) (xs (n + 2))) rfl rfl ⟨Nat.le_of_ble_eq_true rfl, Nat.le_of_ble_eq_true rfl⟩ hJ.1 hax ro_42 rfl rfl hl.1 rfl (Nat.le_of_ble_eq_true rfl) dL_law_1102 ⟨lw_f1 _, lw_f2 _⟩) (fun v H1 hp => by obtain ⟨r, rfl, hI1, hF1, hR1⟩ := hp; exact ⟨_, rfl, rfl, hI1, th_RN_c hR1 hJ.2.1 hI1 ham hF1 (by decide), th_bits_F hF1 hJ.2.2.1 (by decide), lw_vF hV hI1 hF1 hax ham hkr (by decide)⟩) rfl dL_law_1105 rfl (fun H locs hJ => ?_)
  have hV := hJ.2.2.2.2
  refine lv_aload_n hx hb dL_law_1106 rfl (lv_at hl 1 rfl) ?_
  refine lw_ld (pc := 1107) (kn := 1) (pc' := 1112) hE hJ.2.2.2.1 hl hn hL dL_law_1107 rfl dL_law_1108 rfl dL_law_1109 (by decide) (by decide) rfl dL_law_1110 rfl dL_law_1111 rfl ?_
  refine lw_ld (pc := 1112) (kn := 2) (pc' := 1117) hE hJ.2.2.2.1 hl hn hL dL_law_1112 rfl dL_law_1113 rfl dL_law_1114 (by decide) (by decide) rfl dL_law_1115 rfl dL_law_1116 rfl ?_
  refine lw_call1 (pc := 1117) (pc' := 1121) (vc1 := vc) (vm1 := vm) hx hb hJ (th_runV (As := [.int (xs (n + 1)), .int (xs (n + 2))]) (rest := []) hE.1 mf_X12_years kl_171 im_X12_years se_X12_years (c_X12_years_q l G Γ H hJ.1 am ham hJ.2.1 (xs (n + 1)) (xs (n + 2))) rfl rfl ⟨Nat.le_of_ble_eq_true rfl, Nat.le_of_ble_eq_true rfl⟩ hJ.1 ham ro_46 rfl rfl hl.1 rfl (Nat.le_of_ble_eq_true rfl) dL_law_1117 ⟨lw_f1 _, lw_f2 _⟩) (fun v H1 hp => by obtain ⟨r, rfl, hI1, hF1, hR1, -, zz⟩ := hp; exact ⟨_, rfl, rfl, hI1, hR1, th_bits_F hF1 hJ.2.2.1 (by decide), lw_vG hV hF1 hax hkr (by decide) (lw_vC hV hF1 hkr (by decide)) (lw_vM7 hV hI1 hF1 ham (by decide) zz)⟩) rfl dL_law_1120 rfl (fun H locs hJ => ?_)
  have hV := hJ.2.2.2.2
  exact lv_goto (tgt := 1239) hx hb dL_law_1121 (by decide) (kk u _ _ H locs hJ hq)

set_option maxHeartbeats 4000000 in
set_option maxRecDepth 100000 in
theorem lw_c38 {p : Program} {e : Env} {s : State} {m : MethodId} {below : List Frame} {meth : Method} {c : Code} {Q : State → Prop} {G : th_G} {Γ : th_Ga} {ax am kr st s0 s1 im b L n : Nat} {xs : Nat → Int32} {ls : Array Slot} (l : Launch) (hE : lw_E p s m c b L xs G Γ ax am) (hL : L ≤ 384) (hn : n + 6 ≤ L) (hl : lv_has ls 4 [(3, .int (nI n)), (2, .ref am), (1, .ref ax), (0, .ref b)]) (hkr : Γ kr = (44, ax) ∧ Γ st = (32, 0) ∧ Γ s0 = (32, 0) ∧ Γ s1 = (32, 0) ∧ Γ im = (43, ax) ∧ st ≠ s0 ∧ st ≠ s1 ∧ s0 ≠ s1) {u : Nat} {vc vm : (Int → Int) × Int × Int × Int} {H : Heap} {locs : List Loc} (hJ : lw_J G Γ ax am kr st s0 s1 im s H locs u vc vm) (hq : lw_Cp vc vm) (kk : ∀ (u1 : Nat) (vc1 vm1 : (Int → Int) × Int × Int × Int) (H1 : Heap) (locs1 : List Loc), lw_J G Γ ax am kr st s0 s1 im s H1 locs1 u1 vc1 vm1 → lw_Cp vc1 vm1 → W p l e room_1 s m #[Value.ref b] below meth c H1 locs1 (600000 - th_pc u1) (7302250 - th_pq u1) Q (F0 m 1239 ls [])) : W p l e room_1 s m #[Value.ref b] below meth c H locs (600000 - th_pc u) (7302250 - th_pq u) Q (F0 m 1124 ls []) := by
  have hx := hE.1.1
  have hb := hE.1.2.1
  have hax := hE.2.2.2.2.2.1
  have ham := hE.2.2.2.2.2.2.1
  have hV := hJ.2.2.2.2
  refine lv_aload_n hx hb dL_law_1124 rfl (lv_at hl 2 rfl) ?_
  refine lw_ld (pc := 1125) (kn := 1) (pc' := 1130) hE hJ.2.2.2.1 hl hn hL dL_law_1125 rfl dL_law_1126 rfl dL_law_1127 (by decide) (by decide) rfl dL_law_1128 rfl dL_law_1129 rfl ?_
  refine lw_ld (pc := 1130) (kn := 2) (pc' := 1135) hE hJ.2.2.2.1 hl hn hL dL_law_1130 rfl dL_law_1131 rfl dL_law_1132 (by decide) (by decide) rfl dL_law_1133 rfl dL_law_1134 rfl ?_
  refine lw_call1 (pc := 1135) (pc' := 1139) (vc1 := vc) (vm1 := vm) hx hb hJ (th_runV (As := [.int (xs (n + 1)), .int (xs (n + 2))]) (rest := []) hE.1 mf_X11_drawn kl_172 im_X11_drawn se_X11_drawn (c_X11_drawn l G Γ H hJ.1 ax hax (xs (n + 1)) (xs (n + 2))) rfl rfl ⟨Nat.le_of_ble_eq_true rfl, Nat.le_of_ble_eq_true rfl⟩ hJ.1 hax ro_42 rfl rfl hl.1 rfl (Nat.le_of_ble_eq_true rfl) dL_law_1135 ⟨lw_f1 _, lw_f2 _⟩) (fun v H1 hp => by obtain ⟨r, rfl, rfl⟩ := hp; exact ⟨_, rfl, rfl, hJ.1, hJ.2.1, hJ.2.2.1, hV⟩) rfl dL_law_1138 rfl (fun H locs hJ => ?_)
  have hV := hJ.2.2.2.2
  refine lv_aload_n hx hb dL_law_1139 rfl (lv_at hl 1 rfl) ?_
  refine lw_ld (pc := 1140) (kn := 1) (pc' := 1145) hE hJ.2.2.2.1 hl hn hL dL_law_1140 rfl dL_law_1141 rfl dL_law_1142 (by decide) (by decide) rfl dL_law_1143 rfl dL_law_1144 rfl ?_
  refine lw_ld (pc := 1145) (kn := 2) (pc' := 1150) hE hJ.2.2.2.1 hl hn hL dL_law_1145 rfl dL_law_1146 rfl dL_law_1147 (by decide) (by decide) rfl dL_law_1148 rfl dL_law_1149 rfl ?_
  refine lw_call1 (pc := 1150) (pc' := 1154) (vc1 := vc) (vm1 := vm) hx hb hJ (th_runV (As := [.int (xs (n + 1)), .int (xs (n + 2))]) (rest := []) hE.1 mf_X12_drawn kl_175 im_X12_drawn se_X12_drawn (c_X12_drawn l G Γ H hJ.1 am ham (xs (n + 1)) (xs (n + 2))) rfl rfl ⟨Nat.le_of_ble_eq_true rfl, Nat.le_of_ble_eq_true rfl⟩ hJ.1 ham ro_46 rfl rfl hl.1 rfl (Nat.le_of_ble_eq_true rfl) dL_law_1150 ⟨lw_f1 _, lw_f2 _⟩) (fun v H1 hp => by obtain ⟨r, rfl, rfl⟩ := hp; exact ⟨_, rfl, rfl, hJ.1, hJ.2.1, hJ.2.2.1, hV⟩) rfl dL_law_1153 rfl (fun H locs hJ => ?_)
  have hV := hJ.2.2.2.2
  exact lv_goto (tgt := 1239) hx hb dL_law_1154 (by decide) (kk u _ _ H locs hJ hq)

set_option maxHeartbeats 4000000 in
set_option maxRecDepth 100000 in
theorem lw_c39 {p : Program} {e : Env} {s : State} {m : MethodId} {below : List Frame} {meth : Method} {c : Code} {Q : State → Prop} {G : th_G} {Γ : th_Ga} {ax am kr st s0 s1 im b L n : Nat} {xs : Nat → Int32} {ls : Array Slot} (l : Launch) (hE : lw_E p s m c b L xs G Γ ax am) (hL : L ≤ 384) (hn : n + 6 ≤ L) (hl : lv_has ls 4 [(3, .int (nI n)), (2, .ref am), (1, .ref ax), (0, .ref b)]) (hkr : Γ kr = (44, ax) ∧ Γ st = (32, 0) ∧ Γ s0 = (32, 0) ∧ Γ s1 = (32, 0) ∧ Γ im = (43, ax) ∧ st ≠ s0 ∧ st ≠ s1 ∧ s0 ≠ s1) {u : Nat} {vc vm : (Int → Int) × Int × Int × Int} {H : Heap} {locs : List Loc} (hJ : lw_J G Γ ax am kr st s0 s1 im s H locs u vc vm) (hq : lw_Cp vc vm) (kk : ∀ (u1 : Nat) (vc1 vm1 : (Int → Int) × Int × Int × Int) (H1 : Heap) (locs1 : List Loc), lw_J G Γ ax am kr st s0 s1 im s H1 locs1 u1 vc1 vm1 → lw_Cp vc1 vm1 → W p l e room_1 s m #[Value.ref b] below meth c H1 locs1 (600000 - th_pc u1) (7302250 - th_pq u1) Q (F0 m 1239 ls [])) : W p l e room_1 s m #[Value.ref b] below meth c H locs (600000 - th_pc u) (7302250 - th_pq u) Q (F0 m 1157 ls []) := by
  have hx := hE.1.1
  have hb := hE.1.2.1
  have hax := hE.2.2.2.2.2.1
  have ham := hE.2.2.2.2.2.2.1
  have hV := hJ.2.2.2.2
  refine lv_aload_n hx hb dL_law_1157 rfl (lv_at hl 2 rfl) ?_
  refine lw_ld (pc := 1158) (kn := 1) (pc' := 1163) hE hJ.2.2.2.1 hl hn hL dL_law_1158 rfl dL_law_1159 rfl dL_law_1160 (by decide) (by decide) rfl dL_law_1161 rfl dL_law_1162 rfl ?_
  refine lw_call1 (pc := 1163) (pc' := 1167) (vc1 := ((if 0 ≤ (xs (n + 1)).toInt ∧ (xs (n + 1)).toInt ≤ 1 then mo_u vc.1 (xs (n + 1)).toInt 1 else vc.1), vc.2.1, (if (xs (n + 1)).toInt = 0 then vc.2.1 else vc.2.2.1), (if (xs (n + 1)).toInt = 1 then vc.2.1 else vc.2.2.2))) (vm1 := vm) hx hb hJ (th_runV (As := [.int (xs (n + 1))]) (rest := []) hE.1 mf_X11_image kl_176 im_X11_image se_X11_image (c_X11_image_s l G Γ H hJ.1 hJ.2.1.1 ax hax (xs (n + 1)) kr hkr.1 hV.1 st s0 s1 im hkr.2.1 hkr.2.2.1 hkr.2.2.2.1 hkr.2.2.2.2.1 hV.2.1 hV.2.2.1 hV.2.2.2.1 hV.2.2.2.2.1 hkr.2.2.2.2.2.1 hkr.2.2.2.2.2.2.1 hkr.2.2.2.2.2.2.2) rfl rfl ⟨Nat.le_of_ble_eq_true rfl, Nat.le_of_ble_eq_true rfl⟩ hJ.1 hax ro_42 rfl rfl hl.1 rfl (Nat.le_of_ble_eq_true rfl) dL_law_1163 ⟨lw_f1 _, lw_f2 _⟩) (fun v H1 hp => by obtain ⟨r, rfl, i0, i1, hI1, hF1, hR1, z0, z1, z2, z3⟩ := hp; exact ⟨_, rfl, rfl, hI1, th_RN_c hR1 hJ.2.1 hI1 ham hF1 (by decide), th_bits_F hF1 hJ.2.2.1 (by decide), lw_vG hV hF1 hax hkr (by decide) (by unfold lw_cv; rw [z0, z1, z2, z3, ← hV.2.2.2.2.2.1]; rfl) (lw_vM hV hI1 hF1 ham (by decide))⟩) rfl dL_law_1166 rfl (fun H locs hJ => ?_)
  have hV := hJ.2.2.2.2
  refine lv_aload_n hx hb dL_law_1167 rfl (lv_at hl 1 rfl) ?_
  refine lw_ld (pc := 1168) (kn := 1) (pc' := 1173) hE hJ.2.2.2.1 hl hn hL dL_law_1168 rfl dL_law_1169 rfl dL_law_1170 (by decide) (by decide) rfl dL_law_1171 rfl dL_law_1172 rfl ?_
  refine lw_call1 (pc := 1173) (pc' := 1177) (vc1 := ((if 0 ≤ (xs (n + 1)).toInt ∧ (xs (n + 1)).toInt ≤ 1 then mo_u vc.1 (xs (n + 1)).toInt 1 else vc.1), vc.2.1, (if (xs (n + 1)).toInt = 0 then vc.2.1 else vc.2.2.1), (if (xs (n + 1)).toInt = 1 then vc.2.1 else vc.2.2.2))) (vm1 := ((if 0 ≤ (xs (n + 1)).toInt ∧ (xs (n + 1)).toInt ≤ 1 then mo_u vm.1 (xs (n + 1)).toInt 1 else vm.1), vm.2.1, (if (xs (n + 1)).toInt = 0 then vm.2.1 else vm.2.2.1), (if (xs (n + 1)).toInt = 1 then vm.2.1 else vm.2.2.2))) hx hb hJ (th_runV (As := [.int (xs (n + 1))]) (rest := []) hE.1 mf_X12_image kl_179 im_X12_image se_X12_image (c_X12_image_q l G Γ H hJ.1 am ham hJ.2.1 (xs (n + 1))) rfl rfl ⟨Nat.le_of_ble_eq_true rfl, Nat.le_of_ble_eq_true rfl⟩ hJ.1 ham ro_46 rfl rfl hl.1 rfl (Nat.le_of_ble_eq_true rfl) dL_law_1173 ⟨lw_f1 _, lw_f2 _⟩) (fun v H1 hp => by obtain ⟨r, rfl, i0, i1, hI1, hF1, hR1, z0, z1⟩ := hp; exact ⟨_, rfl, rfl, hI1, hR1, th_bits_F hF1 hJ.2.2.1 (by decide), lw_vG hV hF1 hax hkr (by decide) (lw_vC hV hF1 hkr (by decide)) (by unfold lw_mv; rw [z1, mo_v_F (j := 2) (r := 48) hI1 hF1 ham rfl ro_48 (by decide) (by decide), z0 70, z0 5750, lw_i70, lw_i57, ← hV.2.2.2.2.2.2]; rfl)⟩) rfl dL_law_1176 rfl (fun H locs hJ => ?_)
  have hV := hJ.2.2.2.2
  have hq2 : (∀ z : Int, 0 ≤ z → z ≤ 1 → (((if 0 ≤ (xs (n + 1)).toInt ∧ (xs (n + 1)).toInt ≤ 1 then mo_u vc.1 (xs (n + 1)).toInt 1 else vc.1), vc.2.1, (if (xs (n + 1)).toInt = 0 then vc.2.1 else vc.2.2.1), (if (xs (n + 1)).toInt = 1 then vc.2.1 else vc.2.2.2)) : (Int → Int) × Int × Int × Int).1 z = (((if 0 ≤ (xs (n + 1)).toInt ∧ (xs (n + 1)).toInt ≤ 1 then mo_u vm.1 (xs (n + 1)).toInt 1 else vm.1), vm.2.1, (if (xs (n + 1)).toInt = 0 then vm.2.1 else vm.2.2.1), (if (xs (n + 1)).toInt = 1 then vm.2.1 else vm.2.2.2)) : (Int → Int) × Int × Int × Int).1 z) ∧ (((if 0 ≤ (xs (n + 1)).toInt ∧ (xs (n + 1)).toInt ≤ 1 then mo_u vc.1 (xs (n + 1)).toInt 1 else vc.1), vc.2.1, (if (xs (n + 1)).toInt = 0 then vc.2.1 else vc.2.2.1), (if (xs (n + 1)).toInt = 1 then vc.2.1 else vc.2.2.2)) : (Int → Int) × Int × Int × Int).2 = (((if 0 ≤ (xs (n + 1)).toInt ∧ (xs (n + 1)).toInt ≤ 1 then mo_u vm.1 (xs (n + 1)).toInt 1 else vm.1), vm.2.1, (if (xs (n + 1)).toInt = 0 then vm.2.1 else vm.2.2.1), (if (xs (n + 1)).toInt = 1 then vm.2.1 else vm.2.2.2)) : (Int → Int) × Int × Int × Int).2 := by
    refine ⟨fun z z0 z1 => ?_, ?_⟩
    · show (if 0 ≤ (xs (n + 1)).toInt ∧ (xs (n + 1)).toInt ≤ 1 then mo_u vc.1 (xs (n + 1)).toInt 1 else vc.1) z = (if 0 ≤ (xs (n + 1)).toInt ∧ (xs (n + 1)).toInt ≤ 1 then mo_u vm.1 (xs (n + 1)).toInt 1 else vm.1) z
      by_cases w : 0 ≤ (xs (n + 1)).toInt ∧ (xs (n + 1)).toInt ≤ 1
      · rw [if_pos w, if_pos w]
        by_cases q9 : z = (xs (n + 1)).toInt
        · rw [mo_us q9, mo_us q9]
        · rw [mo_un q9, mo_un q9]; exact hq.1 z z0 z1
      · rw [if_neg w, if_neg w]; exact hq.1 z z0 z1
    · have e2 : vc.2 = vm.2 := hq.2
      show (vc.2.1, _, _) = (vm.2.1, _, _)
      rw [e2]
  exact lv_goto (tgt := 1239) hx hb dL_law_1177 (by decide) (kk u _ _ H locs hJ hq2)

set_option maxHeartbeats 4000000 in
set_option maxRecDepth 100000 in
theorem lw_c40 {p : Program} {e : Env} {s : State} {m : MethodId} {below : List Frame} {meth : Method} {c : Code} {Q : State → Prop} {G : th_G} {Γ : th_Ga} {ax am kr st s0 s1 im b L n : Nat} {xs : Nat → Int32} {ls : Array Slot} (l : Launch) (hE : lw_E p s m c b L xs G Γ ax am) (hL : L ≤ 384) (hn : n + 6 ≤ L) (hl : lv_has ls 4 [(3, .int (nI n)), (2, .ref am), (1, .ref ax), (0, .ref b)]) (hkr : Γ kr = (44, ax) ∧ Γ st = (32, 0) ∧ Γ s0 = (32, 0) ∧ Γ s1 = (32, 0) ∧ Γ im = (43, ax) ∧ st ≠ s0 ∧ st ≠ s1 ∧ s0 ≠ s1) {u : Nat} {vc vm : (Int → Int) × Int × Int × Int} {H : Heap} {locs : List Loc} (hJ : lw_J G Γ ax am kr st s0 s1 im s H locs u vc vm) (hq : lw_Cp vc vm) (kk : ∀ (u1 : Nat) (vc1 vm1 : (Int → Int) × Int × Int × Int) (H1 : Heap) (locs1 : List Loc), lw_J G Γ ax am kr st s0 s1 im s H1 locs1 u1 vc1 vm1 → lw_Cp vc1 vm1 → W p l e room_1 s m #[Value.ref b] below meth c H1 locs1 (600000 - th_pc u1) (7302250 - th_pq u1) Q (F0 m 1239 ls [])) : W p l e room_1 s m #[Value.ref b] below meth c H locs (600000 - th_pc u) (7302250 - th_pq u) Q (F0 m 1180 ls []) := by
  have hx := hE.1.1
  have hb := hE.1.2.1
  have hax := hE.2.2.2.2.2.1
  have ham := hE.2.2.2.2.2.2.1
  have hV := hJ.2.2.2.2
  refine lv_aload_n hx hb dL_law_1180 rfl (lv_at hl 2 rfl) ?_
  refine lw_ld (pc := 1181) (kn := 1) (pc' := 1186) hE hJ.2.2.2.1 hl hn hL dL_law_1181 rfl dL_law_1182 rfl dL_law_1183 (by decide) (by decide) rfl dL_law_1184 rfl dL_law_1185 rfl ?_
  refine lw_call1 (pc := 1186) (pc' := 1190) (vc1 := (vc.1, (if (0 ≤ (xs (n + 1)).toInt ∧ (xs (n + 1)).toInt ≤ 1) ∧ vc.1 (xs (n + 1)).toInt ≠ 0 then (if (xs (n + 1)).toInt = 0 then vc.2.2.1 else vc.2.2.2) else vc.2.1), vc.2.2.1, vc.2.2.2)) (vm1 := vm) hx hb hJ (th_runV (As := [.int (xs (n + 1))]) (rest := []) hE.1 mf_X11_back kl_180 im_X11_back se_X11_back (c_X11_back_s l G Γ H hJ.1 hJ.2.1.1 ax hax (xs (n + 1)) kr hkr.1 hV.1 st s0 s1 im hkr.2.1 hkr.2.2.1 hkr.2.2.2.1 hkr.2.2.2.2.1 hV.2.1 hV.2.2.1 hV.2.2.2.1 hV.2.2.2.2.1 hkr.2.2.2.2.2.1 hkr.2.2.2.2.2.2.1 hkr.2.2.2.2.2.2.2) rfl rfl ⟨Nat.le_of_ble_eq_true rfl, Nat.le_of_ble_eq_true rfl⟩ hJ.1 hax ro_42 rfl rfl hl.1 rfl (Nat.le_of_ble_eq_true rfl) dL_law_1186 ⟨lw_f1 _, lw_f2 _⟩) (fun v H1 hp => by obtain ⟨r, rfl, hI1, hF1, hR1, z0, z1, z2⟩ := hp; exact ⟨_, rfl, rfl, hI1, th_RN_c hR1 hJ.2.1 hI1 ham hF1 (by decide), th_bits_F hF1 hJ.2.2.1 (by decide), lw_vG hV hF1 hax hkr (by decide) (by unfold lw_cv; rw [tv_v_F hF1 hkr.1 ro_44 (by decide), z0, z1, z2, ← hV.2.2.2.2.2.1]; rfl) (lw_vM hV hI1 hF1 ham (by decide))⟩) rfl dL_law_1189 rfl (fun H locs hJ => ?_)
  have hV := hJ.2.2.2.2
  refine lv_aload_n hx hb dL_law_1190 rfl (lv_at hl 1 rfl) ?_
  refine lw_ld (pc := 1191) (kn := 1) (pc' := 1196) hE hJ.2.2.2.1 hl hn hL dL_law_1191 rfl dL_law_1192 rfl dL_law_1193 (by decide) (by decide) rfl dL_law_1194 rfl dL_law_1195 rfl ?_
  refine lw_call1 (pc := 1196) (pc' := 1200) (vc1 := (vc.1, (if (0 ≤ (xs (n + 1)).toInt ∧ (xs (n + 1)).toInt ≤ 1) ∧ vc.1 (xs (n + 1)).toInt ≠ 0 then (if (xs (n + 1)).toInt = 0 then vc.2.2.1 else vc.2.2.2) else vc.2.1), vc.2.2.1, vc.2.2.2)) (vm1 := (vm.1, (if (0 ≤ (xs (n + 1)).toInt ∧ (xs (n + 1)).toInt ≤ 1) ∧ vm.1 (xs (n + 1)).toInt ≠ 0 then (if (xs (n + 1)).toInt = 0 then vm.2.2.1 else vm.2.2.2) else vm.2.1), vm.2.2.1, vm.2.2.2)) hx hb hJ (th_runV (As := [.int (xs (n + 1))]) (rest := []) hE.1 mf_X12_back kl_183 im_X12_back se_X12_back (c_X12_back_q l G Γ H hJ.1 am ham hJ.2.1 (xs (n + 1))) rfl rfl ⟨Nat.le_of_ble_eq_true rfl, Nat.le_of_ble_eq_true rfl⟩ hJ.1 ham ro_46 rfl rfl hl.1 rfl (Nat.le_of_ble_eq_true rfl) dL_law_1196 ⟨lw_f1 _, lw_f2 _⟩) (fun v H1 hp => by obtain ⟨r, rfl, hI1, hF1, hR1, z0⟩ := hp; exact ⟨_, rfl, rfl, hI1, hR1, th_bits_F hF1 hJ.2.2.1 (by decide), lw_vG hV hF1 hax hkr (by decide) (lw_vC hV hF1 hkr (by decide)) (by unfold lw_mv; rw [mo_v_F (j := 4) (r := 50) hI1 hF1 ham rfl ro_50 (by decide) (by decide), mo_v_F (j := 3) (r := 49) hI1 hF1 ham rfl ro_49 (by decide) (by decide), z0 70 (by decide) (by decide), lw_i58, ← hV.2.2.2.2.2.2]; rfl)⟩) rfl dL_law_1199 rfl (fun H locs hJ => ?_)
  have hV := hJ.2.2.2.2
  have hq2 : (∀ z : Int, 0 ≤ z → z ≤ 1 → ((vc.1, (if (0 ≤ (xs (n + 1)).toInt ∧ (xs (n + 1)).toInt ≤ 1) ∧ vc.1 (xs (n + 1)).toInt ≠ 0 then (if (xs (n + 1)).toInt = 0 then vc.2.2.1 else vc.2.2.2) else vc.2.1), vc.2.2.1, vc.2.2.2) : (Int → Int) × Int × Int × Int).1 z = ((vm.1, (if (0 ≤ (xs (n + 1)).toInt ∧ (xs (n + 1)).toInt ≤ 1) ∧ vm.1 (xs (n + 1)).toInt ≠ 0 then (if (xs (n + 1)).toInt = 0 then vm.2.2.1 else vm.2.2.2) else vm.2.1), vm.2.2.1, vm.2.2.2) : (Int → Int) × Int × Int × Int).1 z) ∧ ((vc.1, (if (0 ≤ (xs (n + 1)).toInt ∧ (xs (n + 1)).toInt ≤ 1) ∧ vc.1 (xs (n + 1)).toInt ≠ 0 then (if (xs (n + 1)).toInt = 0 then vc.2.2.1 else vc.2.2.2) else vc.2.1), vc.2.2.1, vc.2.2.2) : (Int → Int) × Int × Int × Int).2 = ((vm.1, (if (0 ≤ (xs (n + 1)).toInt ∧ (xs (n + 1)).toInt ≤ 1) ∧ vm.1 (xs (n + 1)).toInt ≠ 0 then (if (xs (n + 1)).toInt = 0 then vm.2.2.1 else vm.2.2.2) else vm.2.1), vm.2.2.1, vm.2.2.2) : (Int → Int) × Int × Int × Int).2 := by
    refine ⟨hq.1, ?_⟩
    have e2 : vc.2 = vm.2 := hq.2
    show ((if (0 ≤ (xs (n + 1)).toInt ∧ (xs (n + 1)).toInt ≤ 1) ∧ vc.1 (xs (n + 1)).toInt ≠ 0 then (if (xs (n + 1)).toInt = 0 then vc.2.2.1 else vc.2.2.2) else vc.2.1), vc.2.2.1, vc.2.2.2) = ((if (0 ≤ (xs (n + 1)).toInt ∧ (xs (n + 1)).toInt ≤ 1) ∧ vm.1 (xs (n + 1)).toInt ≠ 0 then (if (xs (n + 1)).toInt = 0 then vm.2.2.1 else vm.2.2.2) else vm.2.1), vm.2.2.1, vm.2.2.2)
    rw [e2]
    by_cases h : 0 ≤ (xs (n + 1)).toInt ∧ (xs (n + 1)).toInt ≤ 1
    · rw [hq.1 (xs (n + 1)).toInt h.1 h.2]
    · rw [if_neg (fun w => h w.1), if_neg (fun w => h w.1)]
  exact lv_goto (tgt := 1239) hx hb dL_law_1200 (by decide) (kk u _ _ H locs hJ hq2)

set_option maxHeartbeats 4000000 in
set_option maxRecDepth 100000 in
theorem lw_c41 {p : Program} {e : Env} {s : State} {m : MethodId} {below : List Frame} {meth : Method} {c : Code} {Q : State → Prop} {G : th_G} {Γ : th_Ga} {ax am kr st s0 s1 im b L n : Nat} {xs : Nat → Int32} {ls : Array Slot} (l : Launch) (hE : lw_E p s m c b L xs G Γ ax am) (hL : L ≤ 384) (hn : n + 6 ≤ L) (hl : lv_has ls 4 [(3, .int (nI n)), (2, .ref am), (1, .ref ax), (0, .ref b)]) (hkr : Γ kr = (44, ax) ∧ Γ st = (32, 0) ∧ Γ s0 = (32, 0) ∧ Γ s1 = (32, 0) ∧ Γ im = (43, ax) ∧ st ≠ s0 ∧ st ≠ s1 ∧ s0 ≠ s1) {u : Nat} {vc vm : (Int → Int) × Int × Int × Int} {H : Heap} {locs : List Loc} (hJ : lw_J G Γ ax am kr st s0 s1 im s H locs u vc vm) (hq : lw_Cp vc vm) (kk : ∀ (u1 : Nat) (vc1 vm1 : (Int → Int) × Int × Int × Int) (H1 : Heap) (locs1 : List Loc), lw_J G Γ ax am kr st s0 s1 im s H1 locs1 u1 vc1 vm1 → lw_Cp vc1 vm1 → W p l e room_1 s m #[Value.ref b] below meth c H1 locs1 (600000 - th_pc u1) (7302250 - th_pq u1) Q (F0 m 1239 ls [])) : W p l e room_1 s m #[Value.ref b] below meth c H locs (600000 - th_pc u) (7302250 - th_pq u) Q (F0 m 1203 ls []) := by
  have hx := hE.1.1
  have hb := hE.1.2.1
  have hax := hE.2.2.2.2.2.1
  have ham := hE.2.2.2.2.2.2.1
  have hV := hJ.2.2.2.2
  refine lv_aload_n hx hb dL_law_1203 rfl (lv_at hl 2 rfl) ?_
  refine lw_ld (pc := 1204) (kn := 1) (pc' := 1209) hE hJ.2.2.2.1 hl hn hL dL_law_1204 rfl dL_law_1205 rfl dL_law_1206 (by decide) (by decide) rfl dL_law_1207 rfl dL_law_1208 rfl ?_
  refine lw_call1 (pc := 1209) (pc' := 1213) (vc1 := vc) (vm1 := vm) hx hb hJ (th_runV (As := [.int (xs (n + 1))]) (rest := []) hE.1 mf_X11_count kl_184 im_X11_count se_X11_count (c_X11_count l G Γ H hJ.1 ax hax (xs (n + 1))) rfl rfl ⟨Nat.le_of_ble_eq_true rfl, Nat.le_of_ble_eq_true rfl⟩ hJ.1 hax ro_42 rfl rfl hl.1 rfl (Nat.le_of_ble_eq_true rfl) dL_law_1209 ⟨lw_f1 _, lw_f2 _⟩) (fun v H1 hp => by obtain ⟨r, rfl, rfl⟩ := hp; exact ⟨_, rfl, rfl, hJ.1, hJ.2.1, hJ.2.2.1, hV⟩) rfl dL_law_1212 rfl (fun H locs hJ => ?_)
  have hV := hJ.2.2.2.2
  refine lv_aload_n hx hb dL_law_1213 rfl (lv_at hl 1 rfl) ?_
  refine lw_ld (pc := 1214) (kn := 1) (pc' := 1219) hE hJ.2.2.2.1 hl hn hL dL_law_1214 rfl dL_law_1215 rfl dL_law_1216 (by decide) (by decide) rfl dL_law_1217 rfl dL_law_1218 rfl ?_
  refine lw_call1 (pc := 1219) (pc' := 1223) (vc1 := vc) (vm1 := vm) hx hb hJ (th_runV (As := [.int (xs (n + 1))]) (rest := []) hE.1 mf_X12_count kl_187 im_X12_count se_X12_count (c_X12_count l G Γ H hJ.1 am ham (xs (n + 1))) rfl rfl ⟨Nat.le_of_ble_eq_true rfl, Nat.le_of_ble_eq_true rfl⟩ hJ.1 ham ro_46 rfl rfl hl.1 rfl (Nat.le_of_ble_eq_true rfl) dL_law_1219 ⟨lw_f1 _, lw_f2 _⟩) (fun v H1 hp => by obtain ⟨r, rfl, rfl⟩ := hp; exact ⟨_, rfl, rfl, hJ.1, hJ.2.1, hJ.2.2.1, hV⟩) rfl dL_law_1222 rfl (fun H locs hJ => ?_)
  have hV := hJ.2.2.2.2
  exact lv_goto (tgt := 1239) hx hb dL_law_1223 (by decide) (kk u _ _ H locs hJ hq)

set_option maxHeartbeats 4000000 in
set_option maxRecDepth 100000 in
theorem lw_c42 {p : Program} {e : Env} {s : State} {m : MethodId} {below : List Frame} {meth : Method} {c : Code} {Q : State → Prop} {G : th_G} {Γ : th_Ga} {ax am kr st s0 s1 im b L n : Nat} {xs : Nat → Int32} {ls : Array Slot} (l : Launch) (hE : lw_E p s m c b L xs G Γ ax am) (hL : L ≤ 384) (hn : n + 6 ≤ L) (hl : lv_has ls 4 [(3, .int (nI n)), (2, .ref am), (1, .ref ax), (0, .ref b)]) (hkr : Γ kr = (44, ax) ∧ Γ st = (32, 0) ∧ Γ s0 = (32, 0) ∧ Γ s1 = (32, 0) ∧ Γ im = (43, ax) ∧ st ≠ s0 ∧ st ≠ s1 ∧ s0 ≠ s1) {u : Nat} {vc vm : (Int → Int) × Int × Int × Int} {H : Heap} {locs : List Loc} (hJ : lw_J G Γ ax am kr st s0 s1 im s H locs u vc vm) (hq : lw_Cp vc vm) (kk : ∀ (u1 : Nat) (vc1 vm1 : (Int → Int) × Int × Int × Int) (H1 : Heap) (locs1 : List Loc), lw_J G Γ ax am kr st s0 s1 im s H1 locs1 u1 vc1 vm1 → lw_Cp vc1 vm1 → W p l e room_1 s m #[Value.ref b] below meth c H1 locs1 (600000 - th_pc u1) (7302250 - th_pq u1) Q (F0 m 1239 ls [])) : W p l e room_1 s m #[Value.ref b] below meth c H locs (600000 - th_pc u) (7302250 - th_pq u) Q (F0 m 1226 ls []) := by
  have hx := hE.1.1
  have hb := hE.1.2.1
  have hax := hE.2.2.2.2.2.1
  have ham := hE.2.2.2.2.2.2.1
  have hV := hJ.2.2.2.2
  refine lv_aload_n hx hb dL_law_1226 rfl (lv_at hl 2 rfl) ?_
  refine lw_call1 (pc := 1227) (pc' := 1231) (vc1 := vc) (vm1 := vm) hx hb hJ (th_runV (As := []) (rest := []) hE.1 mf_X11_status kl_188 im_X11_status se_X11_status (c_X11_status l G Γ H hJ.1 ax hax) rfl rfl ⟨Nat.le_of_ble_eq_true rfl, Nat.le_of_ble_eq_true rfl⟩ hJ.1 hax ro_42 rfl rfl hl.1 rfl (Nat.le_of_ble_eq_true rfl) dL_law_1227 ⟨lw_f1 _, lw_f2 _⟩) (fun v H1 hp => by obtain ⟨r, rfl, rfl⟩ := hp; exact ⟨_, rfl, rfl, hJ.1, hJ.2.1, hJ.2.2.1, hV⟩) rfl dL_law_1230 rfl (fun H locs hJ => ?_)
  have hV := hJ.2.2.2.2
  refine lv_aload_n hx hb dL_law_1231 rfl (lv_at hl 1 rfl) ?_
  refine lw_call1 (pc := 1232) (pc' := 1236) (vc1 := vc) (vm1 := vm) hx hb hJ (th_runV (As := []) (rest := []) hE.1 mf_X12_status kl_191 im_X12_status se_X12_status (c_X12_status l G Γ H hJ.1 am ham) rfl rfl ⟨Nat.le_of_ble_eq_true rfl, Nat.le_of_ble_eq_true rfl⟩ hJ.1 ham ro_46 rfl rfl hl.1 rfl (Nat.le_of_ble_eq_true rfl) dL_law_1232 ⟨lw_f1 _, lw_f2 _⟩) (fun v H1 hp => by obtain ⟨r, rfl, rfl⟩ := hp; exact ⟨_, rfl, rfl, hJ.1, hJ.2.1, hJ.2.2.1, hV⟩) rfl dL_law_1235 rfl (fun H locs hJ => ?_)
  have hV := hJ.2.2.2.2
  exact lv_goto (tgt := 1239) hx hb dL_law_1236 (by decide) (kk u _ _ H locs hJ hq)
