set_option maxHeartbeats 4000000 in
set_option maxRecDepth 100000 in
theorem lw_c22 {p : Program} {e : Env} {s : State} {m : MethodId} {below : List Frame} {meth : Method} {c : Code} {Q : State → Prop} {G : th_G} {Γ : th_Ga} {ax am kr st s0 s1 im b L n : Nat} {xs : Nat → Int32} {ls : Array Slot} (l : Launch) (hE : lw_E p s m c b L xs G Γ ax am) (hL : L ≤ 384) (hn : n + 6 ≤ L) (hl : lv_has ls 4 [(3, .int (nI n)), (2, .ref am), (1, .ref ax), (0, .ref b)]) (hkr : Γ kr = (44, ax) ∧ Γ st = (32, 0) ∧ Γ s0 = (32, 0) ∧ Γ s1 = (32, 0) ∧ Γ im = (43, ax) ∧ st ≠ s0 ∧ st ≠ s1 ∧ s0 ≠ s1) {u : Nat} {vc vm : (Int → Int) × Int × Int × Int} {H : Heap} {locs : List Loc} (hJ : lw_J G Γ ax am kr st s0 s1 im s H locs u vc vm) (hq : lw_Cp vc vm) (kk : ∀ (u1 : Nat) (vc1 vm1 : (Int → Int) × Int × Int × Int) (H1 : Heap) (locs1 : List Loc), lw_J G Γ ax am kr st s0 s1 im s H1 locs1 u1 vc1 vm1 → lw_Cp vc1 vm1 → W p l e room_1 s m #[Value.ref b] below meth c H1 locs1 (600000 - th_pc u1) (7302250 - th_pq u1) Q (F0 m 1239 ls [])) : W p l e room_1 s m #[Value.ref b] below meth c H locs (600000 - th_pc u) (7302250 - th_pq u) Q (F0 m 786 ls []) := by
  have hx := hE.1.1
  have hb := hE.1.2.1
  have hax := hE.2.2.2.2.2.1
  have ham := hE.2.2.2.2.2.2.1
  have hV := hJ.2.2.2.2
  refine lv_aload_n hx hb dL_law_786 rfl (lv_at hl 2 rfl) ?_
  refine lw_callb (pc := 787) (pc' := 791) (vc1 := vc) (vm1 := vm) hx hb hJ (th_runV (As := []) (rest := []) hE.1 mf_X11_ways kl_107 im_X11_ways se_X11_ways (c_X11_ways l G Γ H hJ.1 hJ.2.1.1 ax hax u hJ.2.2.1) rfl rfl ⟨Nat.le_of_ble_eq_true rfl, Nat.le_of_ble_eq_true rfl⟩ hJ.1 hax ro_42 rfl rfl hl.1 rfl (Nat.le_of_ble_eq_true rfl) dL_law_787 ⟨lw_f3 hJ.2.2.1.1, lw_f4 hJ.2.2.1.1⟩) (fun v H1 hp => by obtain ⟨r, rfl, hI1, hF1, hR1, hbp⟩ := hp; exact ⟨_, rfl, rfl, hI1, th_RN_c hR1 hJ.2.1 hI1 ham hF1 (by decide), hbp, lw_vF hV hI1 hF1 hax ham hkr (by decide)⟩) rfl dL_law_790 rfl (fun u H locs hJ => ?_)
  have hV := hJ.2.2.2.2
  refine lv_aload_n hx hb dL_law_791 rfl (lv_at hl 1 rfl) ?_
  refine lw_call1 (pc := 792) (pc' := 796) (vc1 := vc) (vm1 := vm) hx hb hJ (th_runV (As := []) (rest := []) hE.1 mf_X12_ways kl_110 im_X12_ways se_X12_ways (c_X12_ways l G Γ H hJ.1 am ham (th_NK hJ.2.1)) rfl rfl ⟨Nat.le_of_ble_eq_true rfl, Nat.le_of_ble_eq_true rfl⟩ hJ.1 ham ro_46 rfl rfl hl.1 rfl (Nat.le_of_ble_eq_true rfl) dL_law_792 ⟨lw_f1 _, lw_f2 _⟩) (fun v H1 hp => by obtain ⟨r, rfl, hI1, hF1, hR1⟩ := hp; exact ⟨_, rfl, rfl, hI1, th_RN_c hR1.1 hJ.2.1 hI1 ham hF1 (by decide), th_bits_F hF1 hJ.2.2.1 (by decide), lw_vF hV hI1 hF1 hax ham hkr (by decide)⟩) rfl dL_law_795 rfl (fun H locs hJ => ?_)
  have hV := hJ.2.2.2.2
  exact lv_goto (tgt := 1239) hx hb dL_law_796 (by decide) (kk u _ _ H locs hJ hq)

set_option maxHeartbeats 4000000 in
set_option maxRecDepth 100000 in
theorem lw_c23 {p : Program} {e : Env} {s : State} {m : MethodId} {below : List Frame} {meth : Method} {c : Code} {Q : State → Prop} {G : th_G} {Γ : th_Ga} {ax am kr st s0 s1 im b L n : Nat} {xs : Nat → Int32} {ls : Array Slot} (l : Launch) (hE : lw_E p s m c b L xs G Γ ax am) (hL : L ≤ 384) (hn : n + 6 ≤ L) (hl : lv_has ls 4 [(3, .int (nI n)), (2, .ref am), (1, .ref ax), (0, .ref b)]) (hkr : Γ kr = (44, ax) ∧ Γ st = (32, 0) ∧ Γ s0 = (32, 0) ∧ Γ s1 = (32, 0) ∧ Γ im = (43, ax) ∧ st ≠ s0 ∧ st ≠ s1 ∧ s0 ≠ s1) {u : Nat} {vc vm : (Int → Int) × Int × Int × Int} {H : Heap} {locs : List Loc} (hJ : lw_J G Γ ax am kr st s0 s1 im s H locs u vc vm) (hq : lw_Cp vc vm) (kk : ∀ (u1 : Nat) (vc1 vm1 : (Int → Int) × Int × Int × Int) (H1 : Heap) (locs1 : List Loc), lw_J G Γ ax am kr st s0 s1 im s H1 locs1 u1 vc1 vm1 → lw_Cp vc1 vm1 → W p l e room_1 s m #[Value.ref b] below meth c H1 locs1 (600000 - th_pc u1) (7302250 - th_pq u1) Q (F0 m 1239 ls [])) : W p l e room_1 s m #[Value.ref b] below meth c H locs (600000 - th_pc u) (7302250 - th_pq u) Q (F0 m 799 ls []) := by
  have hx := hE.1.1
  have hb := hE.1.2.1
  have hax := hE.2.2.2.2.2.1
  have ham := hE.2.2.2.2.2.2.1
  have hV := hJ.2.2.2.2
  refine lv_aload_n hx hb dL_law_799 rfl (lv_at hl 2 rfl) ?_
  refine lw_callb (pc := 800) (pc' := 804) (vc1 := vc) (vm1 := vm) hx hb hJ (th_runV (As := []) (rest := []) hE.1 mf_X11_cheapest kl_111 im_X11_cheapest se_X11_cheapest (c_X11_cheapest l G Γ H hJ.1 hJ.2.1.1 ax hax u hJ.2.2.1) rfl rfl ⟨Nat.le_of_ble_eq_true rfl, Nat.le_of_ble_eq_true rfl⟩ hJ.1 hax ro_42 rfl rfl hl.1 rfl (Nat.le_of_ble_eq_true rfl) dL_law_800 ⟨lw_f3 hJ.2.2.1.1, lw_f4 hJ.2.2.1.1⟩) (fun v H1 hp => by obtain ⟨r, rfl, hI1, hF1, hR1, hbp⟩ := hp; exact ⟨_, rfl, rfl, hI1, th_RN_c hR1 hJ.2.1 hI1 ham hF1 (by decide), hbp, lw_vF hV hI1 hF1 hax ham hkr (by decide)⟩) rfl dL_law_803 rfl (fun u H locs hJ => ?_)
  have hV := hJ.2.2.2.2
  refine lv_aload_n hx hb dL_law_804 rfl (lv_at hl 1 rfl) ?_
  refine lw_call1 (pc := 805) (pc' := 809) (vc1 := vc) (vm1 := vm) hx hb hJ (th_runV (As := []) (rest := []) hE.1 mf_X12_cheapest kl_114 im_X12_cheapest se_X12_cheapest (c_X12_cheapest l G Γ H hJ.1 am ham (th_NK hJ.2.1)) rfl rfl ⟨Nat.le_of_ble_eq_true rfl, Nat.le_of_ble_eq_true rfl⟩ hJ.1 ham ro_46 rfl rfl hl.1 rfl (Nat.le_of_ble_eq_true rfl) dL_law_805 ⟨lw_f1 _, lw_f2 _⟩) (fun v H1 hp => by obtain ⟨r, rfl, hI1, hF1, hR1⟩ := hp; exact ⟨_, rfl, rfl, hI1, th_RN_c hR1.1 hJ.2.1 hI1 ham hF1 (by decide), th_bits_F hF1 hJ.2.2.1 (by decide), lw_vF hV hI1 hF1 hax ham hkr (by decide)⟩) rfl dL_law_808 rfl (fun H locs hJ => ?_)
  have hV := hJ.2.2.2.2
  exact lv_goto (tgt := 1239) hx hb dL_law_809 (by decide) (kk u _ _ H locs hJ hq)

set_option maxHeartbeats 4000000 in
set_option maxRecDepth 100000 in
theorem lw_c24 {p : Program} {e : Env} {s : State} {m : MethodId} {below : List Frame} {meth : Method} {c : Code} {Q : State → Prop} {G : th_G} {Γ : th_Ga} {ax am kr st s0 s1 im b L n : Nat} {xs : Nat → Int32} {ls : Array Slot} (l : Launch) (hE : lw_E p s m c b L xs G Γ ax am) (hL : L ≤ 384) (hn : n + 6 ≤ L) (hl : lv_has ls 4 [(3, .int (nI n)), (2, .ref am), (1, .ref ax), (0, .ref b)]) (hkr : Γ kr = (44, ax) ∧ Γ st = (32, 0) ∧ Γ s0 = (32, 0) ∧ Γ s1 = (32, 0) ∧ Γ im = (43, ax) ∧ st ≠ s0 ∧ st ≠ s1 ∧ s0 ≠ s1) {u : Nat} {vc vm : (Int → Int) × Int × Int × Int} {H : Heap} {locs : List Loc} (hJ : lw_J G Γ ax am kr st s0 s1 im s H locs u vc vm) (hq : lw_Cp vc vm) (kk : ∀ (u1 : Nat) (vc1 vm1 : (Int → Int) × Int × Int × Int) (H1 : Heap) (locs1 : List Loc), lw_J G Γ ax am kr st s0 s1 im s H1 locs1 u1 vc1 vm1 → lw_Cp vc1 vm1 → W p l e room_1 s m #[Value.ref b] below meth c H1 locs1 (600000 - th_pc u1) (7302250 - th_pq u1) Q (F0 m 1239 ls [])) : W p l e room_1 s m #[Value.ref b] below meth c H locs (600000 - th_pc u) (7302250 - th_pq u) Q (F0 m 812 ls []) := by
  have hx := hE.1.1
  have hb := hE.1.2.1
  have hax := hE.2.2.2.2.2.1
  have ham := hE.2.2.2.2.2.2.1
  have hV := hJ.2.2.2.2
  refine lv_aload_n hx hb dL_law_812 rfl (lv_at hl 2 rfl) ?_
  refine lw_ld (pc := 813) (kn := 1) (pc' := 818) hE hJ.2.2.2.1 hl hn hL dL_law_813 rfl dL_law_814 rfl dL_law_815 (by decide) (by decide) rfl dL_law_816 rfl dL_law_817 rfl ?_
  refine lw_callb (pc := 818) (pc' := 822) (vc1 := vc) (vm1 := vm) hx hb hJ (th_runV (As := [.int (xs (n + 1))]) (rest := []) hE.1 mf_X11_halls kl_115 im_X11_halls se_X11_halls (c_X11_halls l G Γ H hJ.1 hJ.2.1.1 ax hax (xs (n + 1)) u hJ.2.2.1) rfl rfl ⟨Nat.le_of_ble_eq_true rfl, Nat.le_of_ble_eq_true rfl⟩ hJ.1 hax ro_42 rfl rfl hl.1 rfl (Nat.le_of_ble_eq_true rfl) dL_law_818 ⟨lw_f3 hJ.2.2.1.1, lw_f4 hJ.2.2.1.1⟩) (fun v H1 hp => by obtain ⟨r, rfl, hI1, hF1, hR1, hbp⟩ := hp; exact ⟨_, rfl, rfl, hI1, th_RN_c hR1 hJ.2.1 hI1 ham hF1 (by decide), hbp, lw_vF hV hI1 hF1 hax ham hkr (by decide)⟩) rfl dL_law_821 rfl (fun u H locs hJ => ?_)
  have hV := hJ.2.2.2.2
  refine lv_aload_n hx hb dL_law_822 rfl (lv_at hl 1 rfl) ?_
  refine lw_ld (pc := 823) (kn := 1) (pc' := 828) hE hJ.2.2.2.1 hl hn hL dL_law_823 rfl dL_law_824 rfl dL_law_825 (by decide) (by decide) rfl dL_law_826 rfl dL_law_827 rfl ?_
  refine lw_call1 (pc := 828) (pc' := 832) (vc1 := vc) (vm1 := vm) hx hb hJ (th_runV (As := [.int (xs (n + 1))]) (rest := []) hE.1 mf_X12_halls kl_118 im_X12_halls se_X12_halls (c_X12_halls l G Γ H hJ.1 am ham (th_NK hJ.2.1) (xs (n + 1))) rfl rfl ⟨Nat.le_of_ble_eq_true rfl, Nat.le_of_ble_eq_true rfl⟩ hJ.1 ham ro_46 rfl rfl hl.1 rfl (Nat.le_of_ble_eq_true rfl) dL_law_828 ⟨lw_f1 _, lw_f2 _⟩) (fun v H1 hp => by obtain ⟨r, rfl, hI1, hF1, hR1⟩ := hp; exact ⟨_, rfl, rfl, hI1, th_RN_c hR1.1 hJ.2.1 hI1 ham hF1 (by decide), th_bits_F hF1 hJ.2.2.1 (by decide), lw_vF hV hI1 hF1 hax ham hkr (by decide)⟩) rfl dL_law_831 rfl (fun H locs hJ => ?_)
  have hV := hJ.2.2.2.2
  exact lv_goto (tgt := 1239) hx hb dL_law_832 (by decide) (kk u _ _ H locs hJ hq)

set_option maxHeartbeats 4000000 in
set_option maxRecDepth 100000 in
theorem lw_c25 {p : Program} {e : Env} {s : State} {m : MethodId} {below : List Frame} {meth : Method} {c : Code} {Q : State → Prop} {G : th_G} {Γ : th_Ga} {ax am kr st s0 s1 im b L n : Nat} {xs : Nat → Int32} {ls : Array Slot} (l : Launch) (hE : lw_E p s m c b L xs G Γ ax am) (hL : L ≤ 384) (hn : n + 6 ≤ L) (hl : lv_has ls 4 [(3, .int (nI n)), (2, .ref am), (1, .ref ax), (0, .ref b)]) (hkr : Γ kr = (44, ax) ∧ Γ st = (32, 0) ∧ Γ s0 = (32, 0) ∧ Γ s1 = (32, 0) ∧ Γ im = (43, ax) ∧ st ≠ s0 ∧ st ≠ s1 ∧ s0 ≠ s1) {u : Nat} {vc vm : (Int → Int) × Int × Int × Int} {H : Heap} {locs : List Loc} (hJ : lw_J G Γ ax am kr st s0 s1 im s H locs u vc vm) (hq : lw_Cp vc vm) (kk : ∀ (u1 : Nat) (vc1 vm1 : (Int → Int) × Int × Int × Int) (H1 : Heap) (locs1 : List Loc), lw_J G Γ ax am kr st s0 s1 im s H1 locs1 u1 vc1 vm1 → lw_Cp vc1 vm1 → W p l e room_1 s m #[Value.ref b] below meth c H1 locs1 (600000 - th_pc u1) (7302250 - th_pq u1) Q (F0 m 1239 ls [])) : W p l e room_1 s m #[Value.ref b] below meth c H locs (600000 - th_pc u) (7302250 - th_pq u) Q (F0 m 835 ls []) := by
  have hx := hE.1.1
  have hb := hE.1.2.1
  have hax := hE.2.2.2.2.2.1
  have ham := hE.2.2.2.2.2.2.1
  have hV := hJ.2.2.2.2
  refine lv_aload_n hx hb dL_law_835 rfl (lv_at hl 2 rfl) ?_
  refine lw_call1 (pc := 836) (pc' := 840) (vc1 := vc) (vm1 := vm) hx hb hJ (th_runV (As := []) (rest := []) hE.1 mf_X11_inner kl_119 im_X11_inner se_X11_inner (c_X11_inner l G Γ H hJ.1 ax hax) rfl rfl ⟨Nat.le_of_ble_eq_true rfl, Nat.le_of_ble_eq_true rfl⟩ hJ.1 hax ro_42 rfl rfl hl.1 rfl (Nat.le_of_ble_eq_true rfl) dL_law_836 ⟨lw_f1 _, lw_f2 _⟩) (fun v H1 hp => by obtain ⟨r, rfl, rfl⟩ := hp; exact ⟨_, rfl, rfl, hJ.1, hJ.2.1, hJ.2.2.1, hV⟩) rfl dL_law_839 rfl (fun H locs hJ => ?_)
  have hV := hJ.2.2.2.2
  refine lv_aload_n hx hb dL_law_840 rfl (lv_at hl 1 rfl) ?_
  refine lw_call1 (pc := 841) (pc' := 845) (vc1 := vc) (vm1 := vm) hx hb hJ (th_runV (As := []) (rest := []) hE.1 mf_X12_inner kl_122 im_X12_inner se_X12_inner (c_X12_inner l G Γ H hJ.1 am ham) rfl rfl ⟨Nat.le_of_ble_eq_true rfl, Nat.le_of_ble_eq_true rfl⟩ hJ.1 ham ro_46 rfl rfl hl.1 rfl (Nat.le_of_ble_eq_true rfl) dL_law_841 ⟨lw_f1 _, lw_f2 _⟩) (fun v H1 hp => by obtain ⟨r, rfl, rfl⟩ := hp; exact ⟨_, rfl, rfl, hJ.1, hJ.2.1, hJ.2.2.1, hV⟩) rfl dL_law_844 rfl (fun H locs hJ => ?_)
  have hV := hJ.2.2.2.2
  exact lv_goto (tgt := 1239) hx hb dL_law_845 (by decide) (kk u _ _ H locs hJ hq)

set_option maxHeartbeats 4000000 in
set_option maxRecDepth 100000 in
theorem lw_c26 {p : Program} {e : Env} {s : State} {m : MethodId} {below : List Frame} {meth : Method} {c : Code} {Q : State → Prop} {G : th_G} {Γ : th_Ga} {ax am kr st s0 s1 im b L n : Nat} {xs : Nat → Int32} {ls : Array Slot} (l : Launch) (hE : lw_E p s m c b L xs G Γ ax am) (hL : L ≤ 384) (hn : n + 6 ≤ L) (hl : lv_has ls 4 [(3, .int (nI n)), (2, .ref am), (1, .ref ax), (0, .ref b)]) (hkr : Γ kr = (44, ax) ∧ Γ st = (32, 0) ∧ Γ s0 = (32, 0) ∧ Γ s1 = (32, 0) ∧ Γ im = (43, ax) ∧ st ≠ s0 ∧ st ≠ s1 ∧ s0 ≠ s1) {u : Nat} {vc vm : (Int → Int) × Int × Int × Int} {H : Heap} {locs : List Loc} (hJ : lw_J G Γ ax am kr st s0 s1 im s H locs u vc vm) (hq : lw_Cp vc vm) (kk : ∀ (u1 : Nat) (vc1 vm1 : (Int → Int) × Int × Int × Int) (H1 : Heap) (locs1 : List Loc), lw_J G Γ ax am kr st s0 s1 im s H1 locs1 u1 vc1 vm1 → lw_Cp vc1 vm1 → W p l e room_1 s m #[Value.ref b] below meth c H1 locs1 (600000 - th_pc u1) (7302250 - th_pq u1) Q (F0 m 1239 ls [])) : W p l e room_1 s m #[Value.ref b] below meth c H locs (600000 - th_pc u) (7302250 - th_pq u) Q (F0 m 848 ls []) := by
  have hx := hE.1.1
  have hb := hE.1.2.1
  have hax := hE.2.2.2.2.2.1
  have ham := hE.2.2.2.2.2.2.1
  have hV := hJ.2.2.2.2
  refine lv_aload_n hx hb dL_law_848 rfl (lv_at hl 2 rfl) ?_
  refine lw_call1 (pc := 849) (pc' := 853) (vc1 := vc) (vm1 := vm) hx hb hJ (th_runV (As := []) (rest := []) hE.1 mf_X11_crosses kl_123 im_X11_crosses se_X11_crosses (c_X11_crosses l G Γ H hJ.1 ax hax) rfl rfl ⟨Nat.le_of_ble_eq_true rfl, Nat.le_of_ble_eq_true rfl⟩ hJ.1 hax ro_42 rfl rfl hl.1 rfl (Nat.le_of_ble_eq_true rfl) dL_law_849 ⟨lw_f1 _, lw_f2 _⟩) (fun v H1 hp => by obtain ⟨r, rfl, rfl⟩ := hp; exact ⟨_, rfl, rfl, hJ.1, hJ.2.1, hJ.2.2.1, hV⟩) rfl dL_law_852 rfl (fun H locs hJ => ?_)
  have hV := hJ.2.2.2.2
  refine lv_aload_n hx hb dL_law_853 rfl (lv_at hl 1 rfl) ?_
  refine lw_call1 (pc := 854) (pc' := 858) (vc1 := vc) (vm1 := vm) hx hb hJ (th_runV (As := []) (rest := []) hE.1 mf_X12_crosses kl_126 im_X12_crosses se_X12_crosses (c_X12_crosses l G Γ H hJ.1 am ham) rfl rfl ⟨Nat.le_of_ble_eq_true rfl, Nat.le_of_ble_eq_true rfl⟩ hJ.1 ham ro_46 rfl rfl hl.1 rfl (Nat.le_of_ble_eq_true rfl) dL_law_854 ⟨lw_f1 _, lw_f2 _⟩) (fun v H1 hp => by obtain ⟨r, rfl, rfl⟩ := hp; exact ⟨_, rfl, rfl, hJ.1, hJ.2.1, hJ.2.2.1, hV⟩) rfl dL_law_857 rfl (fun H locs hJ => ?_)
  have hV := hJ.2.2.2.2
  exact lv_goto (tgt := 1239) hx hb dL_law_858 (by decide) (kk u _ _ H locs hJ hq)

set_option maxHeartbeats 4000000 in
set_option maxRecDepth 100000 in
theorem lw_c27 {p : Program} {e : Env} {s : State} {m : MethodId} {below : List Frame} {meth : Method} {c : Code} {Q : State → Prop} {G : th_G} {Γ : th_Ga} {ax am kr st s0 s1 im b L n : Nat} {xs : Nat → Int32} {ls : Array Slot} (l : Launch) (hE : lw_E p s m c b L xs G Γ ax am) (hL : L ≤ 384) (hn : n + 6 ≤ L) (hl : lv_has ls 4 [(3, .int (nI n)), (2, .ref am), (1, .ref ax), (0, .ref b)]) (hkr : Γ kr = (44, ax) ∧ Γ st = (32, 0) ∧ Γ s0 = (32, 0) ∧ Γ s1 = (32, 0) ∧ Γ im = (43, ax) ∧ st ≠ s0 ∧ st ≠ s1 ∧ s0 ≠ s1) {u : Nat} {vc vm : (Int → Int) × Int × Int × Int} {H : Heap} {locs : List Loc} (hJ : lw_J G Γ ax am kr st s0 s1 im s H locs u vc vm) (hq : lw_Cp vc vm) (kk : ∀ (u1 : Nat) (vc1 vm1 : (Int → Int) × Int × Int × Int) (H1 : Heap) (locs1 : List Loc), lw_J G Γ ax am kr st s0 s1 im s H1 locs1 u1 vc1 vm1 → lw_Cp vc1 vm1 → W p l e room_1 s m #[Value.ref b] below meth c H1 locs1 (600000 - th_pc u1) (7302250 - th_pq u1) Q (F0 m 1239 ls [])) : W p l e room_1 s m #[Value.ref b] below meth c H locs (600000 - th_pc u) (7302250 - th_pq u) Q (F0 m 861 ls []) := by
  have hx := hE.1.1
  have hb := hE.1.2.1
  have hax := hE.2.2.2.2.2.1
  have ham := hE.2.2.2.2.2.2.1
  have hV := hJ.2.2.2.2
  refine lv_aload_n hx hb dL_law_861 rfl (lv_at hl 2 rfl) ?_
  refine lw_ld (pc := 862) (kn := 1) (pc' := 867) hE hJ.2.2.2.1 hl hn hL dL_law_862 rfl dL_law_863 rfl dL_law_864 (by decide) (by decide) rfl dL_law_865 rfl dL_law_866 rfl ?_
  refine lw_ld (pc := 867) (kn := 2) (pc' := 872) hE hJ.2.2.2.1 hl hn hL dL_law_867 rfl dL_law_868 rfl dL_law_869 (by decide) (by decide) rfl dL_law_870 rfl dL_law_871 rfl ?_
  refine lw_call1 (pc := 872) (pc' := 876) (vc1 := vc) (vm1 := vm) hx hb hJ (th_runV (As := [.int (xs (n + 1)), .int (xs (n + 2))]) (rest := []) hE.1 mf_X11_currents kl_127 im_X11_currents se_X11_currents (c_X11_currents l G Γ H hJ.1 ax hax (xs (n + 1)) (xs (n + 2))) rfl rfl ⟨Nat.le_of_ble_eq_true rfl, Nat.le_of_ble_eq_true rfl⟩ hJ.1 hax ro_42 rfl rfl hl.1 rfl (Nat.le_of_ble_eq_true rfl) dL_law_872 ⟨lw_f1 _, lw_f2 _⟩) (fun v H1 hp => by obtain ⟨r, rfl, rfl⟩ := hp; exact ⟨_, rfl, rfl, hJ.1, hJ.2.1, hJ.2.2.1, hV⟩) rfl dL_law_875 rfl (fun H locs hJ => ?_)
  have hV := hJ.2.2.2.2
  refine lv_aload_n hx hb dL_law_876 rfl (lv_at hl 1 rfl) ?_
  refine lw_ld (pc := 877) (kn := 1) (pc' := 882) hE hJ.2.2.2.1 hl hn hL dL_law_877 rfl dL_law_878 rfl dL_law_879 (by decide) (by decide) rfl dL_law_880 rfl dL_law_881 rfl ?_
  refine lw_ld (pc := 882) (kn := 2) (pc' := 887) hE hJ.2.2.2.1 hl hn hL dL_law_882 rfl dL_law_883 rfl dL_law_884 (by decide) (by decide) rfl dL_law_885 rfl dL_law_886 rfl ?_
  refine lw_call1 (pc := 887) (pc' := 891) (vc1 := vc) (vm1 := vm) hx hb hJ (th_runV (As := [.int (xs (n + 1)), .int (xs (n + 2))]) (rest := []) hE.1 mf_X12_currents kl_130 im_X12_currents se_X12_currents (c_X12_currents l G Γ H hJ.1 am ham (xs (n + 1)) (xs (n + 2))) rfl rfl ⟨Nat.le_of_ble_eq_true rfl, Nat.le_of_ble_eq_true rfl⟩ hJ.1 ham ro_46 rfl rfl hl.1 rfl (Nat.le_of_ble_eq_true rfl) dL_law_887 ⟨lw_f1 _, lw_f2 _⟩) (fun v H1 hp => by obtain ⟨r, rfl, rfl⟩ := hp; exact ⟨_, rfl, rfl, hJ.1, hJ.2.1, hJ.2.2.1, hV⟩) rfl dL_law_890 rfl (fun H locs hJ => ?_)
  have hV := hJ.2.2.2.2
  exact lv_goto (tgt := 1239) hx hb dL_law_891 (by decide) (kk u _ _ H locs hJ hq)

set_option maxHeartbeats 4000000 in
set_option maxRecDepth 100000 in
theorem lw_c28 {p : Program} {e : Env} {s : State} {m : MethodId} {below : List Frame} {meth : Method} {c : Code} {Q : State → Prop} {G : th_G} {Γ : th_Ga} {ax am kr st s0 s1 im b L n : Nat} {xs : Nat → Int32} {ls : Array Slot} (l : Launch) (hE : lw_E p s m c b L xs G Γ ax am) (hL : L ≤ 384) (hn : n + 6 ≤ L) (hl : lv_has ls 4 [(3, .int (nI n)), (2, .ref am), (1, .ref ax), (0, .ref b)]) (hkr : Γ kr = (44, ax) ∧ Γ st = (32, 0) ∧ Γ s0 = (32, 0) ∧ Γ s1 = (32, 0) ∧ Γ im = (43, ax) ∧ st ≠ s0 ∧ st ≠ s1 ∧ s0 ≠ s1) {u : Nat} {vc vm : (Int → Int) × Int × Int × Int} {H : Heap} {locs : List Loc} (hJ : lw_J G Γ ax am kr st s0 s1 im s H locs u vc vm) (hq : lw_Cp vc vm) (kk : ∀ (u1 : Nat) (vc1 vm1 : (Int → Int) × Int × Int × Int) (H1 : Heap) (locs1 : List Loc), lw_J G Γ ax am kr st s0 s1 im s H1 locs1 u1 vc1 vm1 → lw_Cp vc1 vm1 → W p l e room_1 s m #[Value.ref b] below meth c H1 locs1 (600000 - th_pc u1) (7302250 - th_pq u1) Q (F0 m 1239 ls [])) : W p l e room_1 s m #[Value.ref b] below meth c H locs (600000 - th_pc u) (7302250 - th_pq u) Q (F0 m 894 ls []) := by
  have hx := hE.1.1
  have hb := hE.1.2.1
  have hax := hE.2.2.2.2.2.1
  have ham := hE.2.2.2.2.2.2.1
  have hV := hJ.2.2.2.2
  refine lv_aload_n hx hb dL_law_894 rfl (lv_at hl 2 rfl) ?_
  refine lw_ld (pc := 895) (kn := 1) (pc' := 900) hE hJ.2.2.2.1 hl hn hL dL_law_895 rfl dL_law_896 rfl dL_law_897 (by decide) (by decide) rfl dL_law_898 rfl dL_law_899 rfl ?_
  refine lw_call1 (pc := 900) (pc' := 904) (vc1 := vc) (vm1 := vm) hx hb hJ (th_runV (As := [.int (xs (n + 1))]) (rest := []) hE.1 mf_X11_fitting kl_131 im_X11_fitting se_X11_fitting (c_X11_fitting l G Γ H hJ.1 hJ.2.1.1 ax hax (xs (n + 1))) rfl rfl ⟨Nat.le_of_ble_eq_true rfl, Nat.le_of_ble_eq_true rfl⟩ hJ.1 hax ro_42 rfl rfl hl.1 rfl (Nat.le_of_ble_eq_true rfl) dL_law_900 ⟨lw_f1 _, lw_f2 _⟩) (fun v H1 hp => by obtain ⟨r, rfl, hI1, hF1, hR1⟩ := hp; exact ⟨_, rfl, rfl, hI1, th_RN_c hR1 hJ.2.1 hI1 ham hF1 (by decide), th_bits_F hF1 hJ.2.2.1 (by decide), lw_vF hV hI1 hF1 hax ham hkr (by decide)⟩) rfl dL_law_903 rfl (fun H locs hJ => ?_)
  have hV := hJ.2.2.2.2
  refine lv_aload_n hx hb dL_law_904 rfl (lv_at hl 1 rfl) ?_
  refine lw_ld (pc := 905) (kn := 1) (pc' := 910) hE hJ.2.2.2.1 hl hn hL dL_law_905 rfl dL_law_906 rfl dL_law_907 (by decide) (by decide) rfl dL_law_908 rfl dL_law_909 rfl ?_
  refine lw_call1 (pc := 910) (pc' := 914) (vc1 := vc) (vm1 := vm) hx hb hJ (th_runV (As := [.int (xs (n + 1))]) (rest := []) hE.1 mf_X12_fitting kl_134 im_X12_fitting se_X12_fitting (c_X12_fitting l G Γ H hJ.1 am ham (th_NK hJ.2.1) (xs (n + 1))) rfl rfl ⟨Nat.le_of_ble_eq_true rfl, Nat.le_of_ble_eq_true rfl⟩ hJ.1 ham ro_46 rfl rfl hl.1 rfl (Nat.le_of_ble_eq_true rfl) dL_law_910 ⟨lw_f1 _, lw_f2 _⟩) (fun v H1 hp => by obtain ⟨r, rfl, hI1, hF1, hR1⟩ := hp; exact ⟨_, rfl, rfl, hI1, th_RN_c hR1.1 hJ.2.1 hI1 ham hF1 (by decide), th_bits_F hF1 hJ.2.2.1 (by decide), lw_vF hV hI1 hF1 hax ham hkr (by decide)⟩) rfl dL_law_913 rfl (fun H locs hJ => ?_)
  have hV := hJ.2.2.2.2
  exact lv_goto (tgt := 1239) hx hb dL_law_914 (by decide) (kk u _ _ H locs hJ hq)

set_option maxHeartbeats 4000000 in
set_option maxRecDepth 100000 in
theorem lw_c29 {p : Program} {e : Env} {s : State} {m : MethodId} {below : List Frame} {meth : Method} {c : Code} {Q : State → Prop} {G : th_G} {Γ : th_Ga} {ax am kr st s0 s1 im b L n : Nat} {xs : Nat → Int32} {ls : Array Slot} (l : Launch) (hE : lw_E p s m c b L xs G Γ ax am) (hL : L ≤ 384) (hn : n + 6 ≤ L) (hl : lv_has ls 4 [(3, .int (nI n)), (2, .ref am), (1, .ref ax), (0, .ref b)]) (hkr : Γ kr = (44, ax) ∧ Γ st = (32, 0) ∧ Γ s0 = (32, 0) ∧ Γ s1 = (32, 0) ∧ Γ im = (43, ax) ∧ st ≠ s0 ∧ st ≠ s1 ∧ s0 ≠ s1) {u : Nat} {vc vm : (Int → Int) × Int × Int × Int} {H : Heap} {locs : List Loc} (hJ : lw_J G Γ ax am kr st s0 s1 im s H locs u vc vm) (hq : lw_Cp vc vm) (kk : ∀ (u1 : Nat) (vc1 vm1 : (Int → Int) × Int × Int × Int) (H1 : Heap) (locs1 : List Loc), lw_J G Γ ax am kr st s0 s1 im s H1 locs1 u1 vc1 vm1 → lw_Cp vc1 vm1 → W p l e room_1 s m #[Value.ref b] below meth c H1 locs1 (600000 - th_pc u1) (7302250 - th_pq u1) Q (F0 m 1239 ls [])) : W p l e room_1 s m #[Value.ref b] below meth c H locs (600000 - th_pc u) (7302250 - th_pq u) Q (F0 m 917 ls []) := by
  have hx := hE.1.1
  have hb := hE.1.2.1
  have hax := hE.2.2.2.2.2.1
  have ham := hE.2.2.2.2.2.2.1
  have hV := hJ.2.2.2.2
  refine lv_aload_n hx hb dL_law_917 rfl (lv_at hl 2 rfl) ?_
  refine lw_call1 (pc := 918) (pc' := 922) (vc1 := vc) (vm1 := vm) hx hb hJ (th_runV (As := []) (rest := []) hE.1 mf_X11_alike kl_135 im_X11_alike se_X11_alike (c_X11_alike l G Γ H hJ.1 ax hax) rfl rfl ⟨Nat.le_of_ble_eq_true rfl, Nat.le_of_ble_eq_true rfl⟩ hJ.1 hax ro_42 rfl rfl hl.1 rfl (Nat.le_of_ble_eq_true rfl) dL_law_918 ⟨lw_f1 _, lw_f2 _⟩) (fun v H1 hp => by obtain ⟨r, rfl, rfl⟩ := hp; exact ⟨_, rfl, rfl, hJ.1, hJ.2.1, hJ.2.2.1, hV⟩) rfl dL_law_921 rfl (fun H locs hJ => ?_)
  have hV := hJ.2.2.2.2
  refine lv_aload_n hx hb dL_law_922 rfl (lv_at hl 1 rfl) ?_
  refine lw_call1 (pc := 923) (pc' := 927) (vc1 := vc) (vm1 := vm) hx hb hJ (th_runV (As := []) (rest := []) hE.1 mf_X12_alike kl_138 im_X12_alike se_X12_alike (c_X12_alike l G Γ H hJ.1 am ham) rfl rfl ⟨Nat.le_of_ble_eq_true rfl, Nat.le_of_ble_eq_true rfl⟩ hJ.1 ham ro_46 rfl rfl hl.1 rfl (Nat.le_of_ble_eq_true rfl) dL_law_923 ⟨lw_f1 _, lw_f2 _⟩) (fun v H1 hp => by obtain ⟨r, rfl, rfl⟩ := hp; exact ⟨_, rfl, rfl, hJ.1, hJ.2.1, hJ.2.2.1, hV⟩) rfl dL_law_926 rfl (fun H locs hJ => ?_)
  have hV := hJ.2.2.2.2
  exact lv_goto (tgt := 1239) hx hb dL_law_927 (by decide) (kk u _ _ H locs hJ hq)

set_option maxHeartbeats 4000000 in
set_option maxRecDepth 100000 in
theorem lw_c30 {p : Program} {e : Env} {s : State} {m : MethodId} {below : List Frame} {meth : Method} {c : Code} {Q : State → Prop} {G : th_G} {Γ : th_Ga} {ax am kr st s0 s1 im b L n : Nat} {xs : Nat → Int32} {ls : Array Slot} (l : Launch) (hE : lw_E p s m c b L xs G Γ ax am) (hL : L ≤ 384) (hn : n + 6 ≤ L) (hl : lv_has ls 4 [(3, .int (nI n)), (2, .ref am), (1, .ref ax), (0, .ref b)]) (hkr : Γ kr = (44, ax) ∧ Γ st = (32, 0) ∧ Γ s0 = (32, 0) ∧ Γ s1 = (32, 0) ∧ Γ im = (43, ax) ∧ st ≠ s0 ∧ st ≠ s1 ∧ s0 ≠ s1) {u : Nat} {vc vm : (Int → Int) × Int × Int × Int} {H : Heap} {locs : List Loc} (hJ : lw_J G Γ ax am kr st s0 s1 im s H locs u vc vm) (hq : lw_Cp vc vm) (kk : ∀ (u1 : Nat) (vc1 vm1 : (Int → Int) × Int × Int × Int) (H1 : Heap) (locs1 : List Loc), lw_J G Γ ax am kr st s0 s1 im s H1 locs1 u1 vc1 vm1 → lw_Cp vc1 vm1 → W p l e room_1 s m #[Value.ref b] below meth c H1 locs1 (600000 - th_pc u1) (7302250 - th_pq u1) Q (F0 m 1239 ls [])) : W p l e room_1 s m #[Value.ref b] below meth c H locs (600000 - th_pc u) (7302250 - th_pq u) Q (F0 m 930 ls []) := by
  have hx := hE.1.1
  have hb := hE.1.2.1
  have hax := hE.2.2.2.2.2.1
  have ham := hE.2.2.2.2.2.2.1
  have hV := hJ.2.2.2.2
  refine lv_aload_n hx hb dL_law_930 rfl (lv_at hl 2 rfl) ?_
  refine lw_callb (pc := 931) (pc' := 935) (vc1 := vc) (vm1 := vm) hx hb hJ (th_runV (As := []) (rest := []) hE.1 mf_X11_free kl_139 im_X11_free se_X11_free (c_X11_free l G Γ H hJ.1 hJ.2.1.1 ax hax u hJ.2.2.1) rfl rfl ⟨Nat.le_of_ble_eq_true rfl, Nat.le_of_ble_eq_true rfl⟩ hJ.1 hax ro_42 rfl rfl hl.1 rfl (Nat.le_of_ble_eq_true rfl) dL_law_931 ⟨lw_f3 hJ.2.2.1.1, lw_f4 hJ.2.2.1.1⟩) (fun v H1 hp => by obtain ⟨r, rfl, hI1, hF1, hR1, hbp⟩ := hp; exact ⟨_, rfl, rfl, hI1, th_RN_c hR1 hJ.2.1 hI1 ham hF1 (by decide), hbp, lw_vF hV hI1 hF1 hax ham hkr (by decide)⟩) rfl dL_law_934 rfl (fun u H locs hJ => ?_)
  have hV := hJ.2.2.2.2
  refine lv_aload_n hx hb dL_law_935 rfl (lv_at hl 1 rfl) ?_
  refine lw_call1 (pc := 936) (pc' := 940) (vc1 := vc) (vm1 := vm) hx hb hJ (th_runV (As := []) (rest := []) hE.1 mf_X12_free kl_142 im_X12_free se_X12_free (c_X12_free_q l G Γ H hJ.1 am ham hJ.2.1) rfl rfl ⟨Nat.le_of_ble_eq_true rfl, Nat.le_of_ble_eq_true rfl⟩ hJ.1 ham ro_46 rfl rfl hl.1 rfl (Nat.le_of_ble_eq_true rfl) dL_law_936 ⟨lw_f1 _, lw_f2 _⟩) (fun v H1 hp => by obtain ⟨r, rfl, hI1, hF1, hR1, -, zz⟩ := hp; exact ⟨_, rfl, rfl, hI1, hR1, th_bits_F hF1 hJ.2.2.1 (by decide), lw_vG hV hF1 hax hkr (by decide) (lw_vC hV hF1 hkr (by decide)) (lw_vM7 hV hI1 hF1 ham (by decide) zz)⟩) rfl dL_law_939 rfl (fun H locs hJ => ?_)
  have hV := hJ.2.2.2.2
  exact lv_goto (tgt := 1239) hx hb dL_law_940 (by decide) (kk u _ _ H locs hJ hq)

set_option maxHeartbeats 4000000 in
set_option maxRecDepth 100000 in
theorem lw_c31 {p : Program} {e : Env} {s : State} {m : MethodId} {below : List Frame} {meth : Method} {c : Code} {Q : State → Prop} {G : th_G} {Γ : th_Ga} {ax am kr st s0 s1 im b L n : Nat} {xs : Nat → Int32} {ls : Array Slot} (l : Launch) (hE : lw_E p s m c b L xs G Γ ax am) (hL : L ≤ 384) (hn : n + 6 ≤ L) (hl : lv_has ls 4 [(3, .int (nI n)), (2, .ref am), (1, .ref ax), (0, .ref b)]) (hkr : Γ kr = (44, ax) ∧ Γ st = (32, 0) ∧ Γ s0 = (32, 0) ∧ Γ s1 = (32, 0) ∧ Γ im = (43, ax) ∧ st ≠ s0 ∧ st ≠ s1 ∧ s0 ≠ s1) {u : Nat} {vc vm : (Int → Int) × Int × Int × Int} {H : Heap} {locs : List Loc} (hJ : lw_J G Γ ax am kr st s0 s1 im s H locs u vc vm) (hq : lw_Cp vc vm) (kk : ∀ (u1 : Nat) (vc1 vm1 : (Int → Int) × Int × Int × Int) (H1 : Heap) (locs1 : List Loc), lw_J G Γ ax am kr st s0 s1 im s H1 locs1 u1 vc1 vm1 → lw_Cp vc1 vm1 → W p l e room_1 s m #[Value.ref b] below meth c H1 locs1 (600000 - th_pc u1) (7302250 - th_pq u1) Q (F0 m 1239 ls [])) : W p l e room_1 s m #[Value.ref b] below meth c H locs (600000 - th_pc u) (7302250 - th_pq u) Q (F0 m 943 ls []) := by
  have hx := hE.1.1
  have hb := hE.1.2.1
  have hax := hE.2.2.2.2.2.1
  have ham := hE.2.2.2.2.2.2.1
  have hV := hJ.2.2.2.2
  refine lv_aload_n hx hb dL_law_943 rfl (lv_at hl 2 rfl) ?_
  refine lw_ld (pc := 944) (kn := 1) (pc' := 949) hE hJ.2.2.2.1 hl hn hL dL_law_944 rfl dL_law_945 rfl dL_law_946 (by decide) (by decide) rfl dL_law_947 rfl dL_law_948 rfl ?_
  refine lw_ld (pc := 949) (kn := 2) (pc' := 954) hE hJ.2.2.2.1 hl hn hL dL_law_949 rfl dL_law_950 rfl dL_law_951 (by decide) (by decide) rfl dL_law_952 rfl dL_law_953 rfl ?_
  refine lw_ld (pc := 954) (kn := 3) (pc' := 959) hE hJ.2.2.2.1 hl hn hL dL_law_954 rfl dL_law_955 rfl dL_law_956 (by decide) (by decide) rfl dL_law_957 rfl dL_law_958 rfl ?_
  refine lw_call1 (pc := 959) (pc' := 963) (vc1 := (vc.1, (if (0 ≤ (xs (n + 1)).toInt ∧ (xs (n + 1)).toInt ≤ 11 ∧ 0 ≤ (xs (n + 2)).toInt ∧ (xs (n + 2)).toInt ≤ 11 ∧ 1 ≤ (xs (n + 3)).toInt ∧ (xs (n + 3)).toInt ≤ 12) ∧ vc.2.1 < 6 then vc.2.1 + 1 else vc.2.1), vc.2.2.1, vc.2.2.2)) (vm1 := vm) hx hb hJ (th_runV (As := [.int (xs (n + 1)), .int (xs (n + 2)), .int (xs (n + 3))]) (rest := []) hE.1 mf_X11_seen kl_143 im_X11_seen se_X11_seen (c_X11_seen_s l G Γ H hJ.1 hJ.2.1.1 ax hax (xs (n + 1)) (xs (n + 2)) (xs (n + 3)) st s0 s1 im hkr.2.1 hkr.2.2.1 hkr.2.2.2.1 hkr.2.2.2.2.1 hV.2.1 hV.2.2.1 hV.2.2.2.1 hV.2.2.2.2.1 hkr.2.2.2.2.2.1 hkr.2.2.2.2.2.2.1 hkr.2.2.2.2.2.2.2) rfl rfl ⟨Nat.le_of_ble_eq_true rfl, Nat.le_of_ble_eq_true rfl⟩ hJ.1 hax ro_42 rfl rfl hl.1 rfl (Nat.le_of_ble_eq_true rfl) dL_law_959 ⟨lw_f1 _, lw_f2 _⟩) (fun v H1 hp => by obtain ⟨r, rfl, i0, i1, i2, i3, hI1, hF1, hR1, z0, z1, z2⟩ := hp; exact ⟨_, rfl, rfl, hI1, th_RN_c hR1 hJ.2.1 hI1 ham hF1 (by decide), th_bits_F hF1 hJ.2.2.1 (by decide), lw_vG hV hF1 hax hkr (by decide) (by unfold lw_cv; rw [tv_v_F hF1 hkr.1 ro_44 (by decide), z0, z1, z2, ← hV.2.2.2.2.2.1]; rfl) (lw_vM hV hI1 hF1 ham (by decide))⟩) rfl dL_law_962 rfl (fun H locs hJ => ?_)
  have hV := hJ.2.2.2.2
  refine lv_aload_n hx hb dL_law_963 rfl (lv_at hl 1 rfl) ?_
  refine lw_ld (pc := 964) (kn := 1) (pc' := 969) hE hJ.2.2.2.1 hl hn hL dL_law_964 rfl dL_law_965 rfl dL_law_966 (by decide) (by decide) rfl dL_law_967 rfl dL_law_968 rfl ?_
  refine lw_ld (pc := 969) (kn := 2) (pc' := 974) hE hJ.2.2.2.1 hl hn hL dL_law_969 rfl dL_law_970 rfl dL_law_971 (by decide) (by decide) rfl dL_law_972 rfl dL_law_973 rfl ?_
  refine lw_ld (pc := 974) (kn := 3) (pc' := 979) hE hJ.2.2.2.1 hl hn hL dL_law_974 rfl dL_law_975 rfl dL_law_976 (by decide) (by decide) rfl dL_law_977 rfl dL_law_978 rfl ?_
  refine lw_call1 (pc := 979) (pc' := 983) (vc1 := (vc.1, (if (0 ≤ (xs (n + 1)).toInt ∧ (xs (n + 1)).toInt ≤ 11 ∧ 0 ≤ (xs (n + 2)).toInt ∧ (xs (n + 2)).toInt ≤ 11 ∧ 1 ≤ (xs (n + 3)).toInt ∧ (xs (n + 3)).toInt ≤ 12) ∧ vc.2.1 < 6 then vc.2.1 + 1 else vc.2.1), vc.2.2.1, vc.2.2.2)) (vm1 := (vm.1, (if (0 ≤ (xs (n + 1)).toInt ∧ (xs (n + 1)).toInt ≤ 11 ∧ 0 ≤ (xs (n + 2)).toInt ∧ (xs (n + 2)).toInt ≤ 11 ∧ 1 ≤ (xs (n + 3)).toInt ∧ (xs (n + 3)).toInt ≤ 12) ∧ vm.2.1 < 6 then vm.2.1 + 1 else vm.2.1), vm.2.2.1, vm.2.2.2)) hx hb hJ (th_runV (As := [.int (xs (n + 1)), .int (xs (n + 2)), .int (xs (n + 3))]) (rest := []) hE.1 mf_X12_seen kl_146 im_X12_seen se_X12_seen (c_X12_seen_q l G Γ H hJ.1 am ham hJ.2.1 (xs (n + 1)) (xs (n + 2)) (xs (n + 3))) rfl rfl ⟨Nat.le_of_ble_eq_true rfl, Nat.le_of_ble_eq_true rfl⟩ hJ.1 ham ro_46 rfl rfl hl.1 rfl (Nat.le_of_ble_eq_true rfl) dL_law_979 ⟨lw_f1 _, lw_f2 _⟩) (fun v H1 hp => by obtain ⟨r, rfl, i0, i1, i2, hI1, hF1, hR1, z0⟩ := hp; exact ⟨_, rfl, rfl, hI1, hR1, th_bits_F hF1 hJ.2.2.1 (by decide), lw_vG hV hF1 hax hkr (by decide) (lw_vC hV hF1 hkr (by decide)) (by unfold lw_mv; rw [mo_v_F (j := 4) (r := 50) hI1 hF1 ham rfl ro_50 (by decide) (by decide), mo_v_F (j := 3) (r := 49) hI1 hF1 ham rfl ro_49 (by decide) (by decide), z0, ← hV.2.2.2.2.2.2]; rfl)⟩) rfl dL_law_982 rfl (fun H locs hJ => ?_)
  have hV := hJ.2.2.2.2
  have hq2 : (∀ z : Int, 0 ≤ z → z ≤ 1 → ((vc.1, (if (0 ≤ (xs (n + 1)).toInt ∧ (xs (n + 1)).toInt ≤ 11 ∧ 0 ≤ (xs (n + 2)).toInt ∧ (xs (n + 2)).toInt ≤ 11 ∧ 1 ≤ (xs (n + 3)).toInt ∧ (xs (n + 3)).toInt ≤ 12) ∧ vc.2.1 < 6 then vc.2.1 + 1 else vc.2.1), vc.2.2.1, vc.2.2.2) : (Int → Int) × Int × Int × Int).1 z = ((vm.1, (if (0 ≤ (xs (n + 1)).toInt ∧ (xs (n + 1)).toInt ≤ 11 ∧ 0 ≤ (xs (n + 2)).toInt ∧ (xs (n + 2)).toInt ≤ 11 ∧ 1 ≤ (xs (n + 3)).toInt ∧ (xs (n + 3)).toInt ≤ 12) ∧ vm.2.1 < 6 then vm.2.1 + 1 else vm.2.1), vm.2.2.1, vm.2.2.2) : (Int → Int) × Int × Int × Int).1 z) ∧ ((vc.1, (if (0 ≤ (xs (n + 1)).toInt ∧ (xs (n + 1)).toInt ≤ 11 ∧ 0 ≤ (xs (n + 2)).toInt ∧ (xs (n + 2)).toInt ≤ 11 ∧ 1 ≤ (xs (n + 3)).toInt ∧ (xs (n + 3)).toInt ≤ 12) ∧ vc.2.1 < 6 then vc.2.1 + 1 else vc.2.1), vc.2.2.1, vc.2.2.2) : (Int → Int) × Int × Int × Int).2 = ((vm.1, (if (0 ≤ (xs (n + 1)).toInt ∧ (xs (n + 1)).toInt ≤ 11 ∧ 0 ≤ (xs (n + 2)).toInt ∧ (xs (n + 2)).toInt ≤ 11 ∧ 1 ≤ (xs (n + 3)).toInt ∧ (xs (n + 3)).toInt ≤ 12) ∧ vm.2.1 < 6 then vm.2.1 + 1 else vm.2.1), vm.2.2.1, vm.2.2.2) : (Int → Int) × Int × Int × Int).2 := by
    refine ⟨hq.1, ?_⟩
    have e2 : vc.2 = vm.2 := hq.2
    show ((if (0 ≤ (xs (n + 1)).toInt ∧ (xs (n + 1)).toInt ≤ 11 ∧ 0 ≤ (xs (n + 2)).toInt ∧ (xs (n + 2)).toInt ≤ 11 ∧ 1 ≤ (xs (n + 3)).toInt ∧ (xs (n + 3)).toInt ≤ 12) ∧ vc.2.1 < 6 then vc.2.1 + 1 else vc.2.1), vc.2.2.1, vc.2.2.2) = ((if (0 ≤ (xs (n + 1)).toInt ∧ (xs (n + 1)).toInt ≤ 11 ∧ 0 ≤ (xs (n + 2)).toInt ∧ (xs (n + 2)).toInt ≤ 11 ∧ 1 ≤ (xs (n + 3)).toInt ∧ (xs (n + 3)).toInt ≤ 12) ∧ vm.2.1 < 6 then vm.2.1 + 1 else vm.2.1), vm.2.2.1, vm.2.2.2)
    rw [e2]
  exact lv_goto (tgt := 1239) hx hb dL_law_983 (by decide) (kk u _ _ H locs hJ hq2)

set_option maxHeartbeats 4000000 in
set_option maxRecDepth 100000 in
theorem lw_c32 {p : Program} {e : Env} {s : State} {m : MethodId} {below : List Frame} {meth : Method} {c : Code} {Q : State → Prop} {G : th_G} {Γ : th_Ga} {ax am kr st s0 s1 im b L n : Nat} {xs : Nat → Int32} {ls : Array Slot} (l : Launch) (hE : lw_E p s m c b L xs G Γ ax am) (hL : L ≤ 384) (hn : n + 6 ≤ L) (hl : lv_has ls 4 [(3, .int (nI n)), (2, .ref am), (1, .ref ax), (0, .ref b)]) (hkr : Γ kr = (44, ax) ∧ Γ st = (32, 0) ∧ Γ s0 = (32, 0) ∧ Γ s1 = (32, 0) ∧ Γ im = (43, ax) ∧ st ≠ s0 ∧ st ≠ s1 ∧ s0 ≠ s1) {u : Nat} {vc vm : (Int → Int) × Int × Int × Int} {H : Heap} {locs : List Loc} (hJ : lw_J G Γ ax am kr st s0 s1 im s H locs u vc vm) (hq : lw_Cp vc vm) (kk : ∀ (u1 : Nat) (vc1 vm1 : (Int → Int) × Int × Int × Int) (H1 : Heap) (locs1 : List Loc), lw_J G Γ ax am kr st s0 s1 im s H1 locs1 u1 vc1 vm1 → lw_Cp vc1 vm1 → W p l e room_1 s m #[Value.ref b] below meth c H1 locs1 (600000 - th_pc u1) (7302250 - th_pq u1) Q (F0 m 1239 ls [])) : W p l e room_1 s m #[Value.ref b] below meth c H locs (600000 - th_pc u) (7302250 - th_pq u) Q (F0 m 986 ls []) := by
  have hx := hE.1.1
  have hb := hE.1.2.1
  have hax := hE.2.2.2.2.2.1
  have ham := hE.2.2.2.2.2.2.1
  have hV := hJ.2.2.2.2
  refine lv_aload_n hx hb dL_law_986 rfl (lv_at hl 2 rfl) ?_
  refine lw_call (pc' := 990) (k := 1) (A := (fun w => ∃ r : Int32, w = .int r ∧ (r.toInt = vc.2.1))) (vc1 := (vc.1, (0 : Int), vc.2.2.1, vc.2.2.2)) (vm1 := vm) hJ (th_runV (As := []) (rest := []) hE.1 mf_X11_forget kl_147 im_X11_forget se_X11_forget (c_X11_forget_s l G Γ H hJ.1 hJ.2.1.1 ax hax st s0 s1 im hkr.2.1 hkr.2.2.1 hkr.2.2.2.1 hkr.2.2.2.2.1 hV.2.1 hV.2.2.1 hV.2.2.2.1 hV.2.2.2.2.1 hkr.2.2.2.2.2.1 hkr.2.2.2.2.2.2.1 hkr.2.2.2.2.2.2.2) rfl rfl ⟨Nat.le_of_ble_eq_true rfl, Nat.le_of_ble_eq_true rfl⟩ hJ.1 hax ro_42 rfl rfl hl.1 rfl (Nat.le_of_ble_eq_true rfl) dL_law_987 ⟨lw_f1 _, lw_f2 _⟩) (fun v H1 hp => by obtain ⟨r, rfl, i0, hI1, hF1, hR1, z0, z1, z2⟩ := hp; rw [show tv_f G H st 8 7 = vc.2.1 from congrArg (fun q => q.2.1) hV.2.2.2.2.2.1] at i0; exact ⟨_, rfl, rfl, ⟨r, rfl, i0⟩, hI1, th_RN_c hR1 hJ.2.1 hI1 ham hF1 (by decide), th_bits_F hF1 hJ.2.2.1 (by decide), lw_vG hV hF1 hax hkr (by decide) (by unfold lw_cv; rw [tv_v_F hF1 hkr.1 ro_44 (by decide), z0, z1, z2, ← hV.2.2.2.2.2.1]; rfl) (lw_vM hV hI1 hF1 ham (by decide))⟩) rfl (fun w1 H locs hc1 hA1 hJ => ?_)
  obtain ⟨r1, rfl, i1a⟩ := hA1
  have hV := hJ.2.2.2.2
  refine lv_aload_n hx hb dL_law_990 rfl (lv_at hl 1 rfl) ?_
  refine lw_call (pc' := 994) (k := 1) (A := (fun w => ∃ r : Int32, w = .int r ∧ (r.toInt = vm.2.1))) (vc1 := (vc.1, (0 : Int), vc.2.2.1, vc.2.2.2)) (vm1 := (vm.1, (0 : Int), vm.2.2.1, vm.2.2.2)) hJ (th_runV (As := []) (rest := [.int r1]) hE.1 mf_X12_forget kl_150 im_X12_forget se_X12_forget (c_X12_forget_q l G Γ H hJ.1 am ham hJ.2.1) rfl rfl ⟨Nat.le_of_ble_eq_true rfl, Nat.le_of_ble_eq_true rfl⟩ hJ.1 ham ro_46 rfl rfl hl.1 rfl (Nat.le_of_ble_eq_true rfl) dL_law_991 ⟨lw_f1 _, lw_f2 _⟩) (fun v H1 hp => by obtain ⟨r, rfl, i0, hI1, hF1, hR1, z0⟩ := hp; rw [show mo_v G H am 2 70 = vm.2.1 from congrArg (fun q => q.2.1) hV.2.2.2.2.2.2] at i0; exact ⟨_, rfl, rfl, ⟨r, rfl, i0⟩, hI1, hR1, th_bits_F hF1 hJ.2.2.1 (by decide), lw_vG hV hF1 hax hkr (by decide) (lw_vC hV hF1 hkr (by decide)) (by unfold lw_mv; rw [mo_v_F (j := 4) (r := 50) hI1 hF1 ham rfl ro_50 (by decide) (by decide), mo_v_F (j := 3) (r := 49) hI1 hF1 ham rfl ro_49 (by decide) (by decide), z0, ← hV.2.2.2.2.2.2]; rfl)⟩) rfl (fun w2 H locs hc2 hA2 hJ => ?_)
  obtain ⟨r2, rfl, i2a⟩ := hA2
  have hV := hJ.2.2.2.2
  have hq2 : (∀ z : Int, 0 ≤ z → z ≤ 1 → ((vc.1, (0 : Int), vc.2.2.1, vc.2.2.2) : (Int → Int) × Int × Int × Int).1 z = ((vm.1, (0 : Int), vm.2.2.1, vm.2.2.2) : (Int → Int) × Int × Int × Int).1 z) ∧ ((vc.1, (0 : Int), vc.2.2.1, vc.2.2.2) : (Int → Int) × Int × Int × Int).2 = ((vm.1, (0 : Int), vm.2.2.1, vm.2.2.2) : (Int → Int) × Int × Int × Int).2 := by
    refine ⟨hq.1, ?_⟩
    have e2 : vc.2 = vm.2 := hq.2
    show ((0 : Int), vc.2.2.1, vc.2.2.2) = ((0 : Int), vm.2.2.1, vm.2.2.2)
    rw [e2]
  refine tr_icmp_eq (tgt := 1239) hx hb dL_law_994 (by decide) rfl rfl (fun _ => kk u _ _ H locs hJ hq2) (fun w => absurd ?_ w)
  have e1 : vc.2.1 = vm.2.1 := by rw [show vc.2 = vm.2 from hq.2]
  omega
