set_option maxHeartbeats 4000000 in
set_option maxRecDepth 100000 in
theorem lw_c11 {p : Program} {e : Env} {s : State} {m : MethodId} {below : List Frame} {meth : Method} {c : Code} {Q : State → Prop} {G : th_G} {Γ : th_Ga} {ax am b L n : Nat} {xs : Nat → Int32} {ls : Array Slot} (l : Launch) (hE : lw_E p s m c b L xs G Γ ax am) (hL : L ≤ 384) (hn : n + 6 ≤ L) (hl : lv_has ls 4 [(3, .int (nI n)), (2, .ref am), (1, .ref ax), (0, .ref b)]) (hk : dv_U Γ ∧ lw_AR Γ ax) {u : Nat} {H : Heap} {locs : List Loc} (hJ : lw_J G Γ am s H locs u) (hq : RR (lw_A ax) (am : Int) (dv G Γ H) (dv G Γ H)) (kk : ∀ (u1 : Nat) (H1 : Heap) (locs1 : List Loc), lw_J G Γ am s H1 locs1 u1 → RR (lw_A ax) (am : Int) (dv G Γ H1) (dv G Γ H1) → W p l e room_1 s m #[Value.ref b] below meth c H1 locs1 (600000 - th_pc u1) (7302250 - th_pq u1) Q (F0 m 1239 ls [])) : W p l e room_1 s m #[Value.ref b] below meth c H locs (600000 - th_pc u) (7302250 - th_pq u) Q (F0 m 573 ls []) := by
  have hx := hE.1.1
  have hb := hE.1.2.1
  have hax := hE.2.2.2.2.2.1
  have ham := hE.2.2.2.2.2.2.1
  have hU := hk.1
  have hA := hk.2
  refine lv_aload_n hx hb dL_law_573 rfl (lv_at hl 2 rfl) ?_
  refine lw_call (pc' := 577) (k := 1) (P := (fun w K => ∃ r : Int32, w = .int r ∧ f_X11_orders (dv G Γ H) (ax : Int) = ((dv G Γ K), r.toInt) ∧ wf (am : Int) nW (dv G Γ H) (dv G Γ K))) hJ (th_runVX (As := []) (rest := []) th_mvZ (th_Z_k hE.2.2.1 hJ.2.2.2) hE.1 mf_X11_orders kl_63 im_X11_orders se_X11_orders (c_X11_orders l G Γ H hJ.1 hJ.2.1.1 hU ax hax hE.2.2.2.2.2.2.2) rfl rfl ⟨Nat.le_of_ble_eq_true rfl, Nat.le_of_ble_eq_true rfl⟩ hJ.1 hax ro_42 rfl rfl hl.1 rfl (Nat.le_of_ble_eq_true rfl) dL_law_574 ⟨lw_f1 _, lw_f2 _⟩) (fun v K hp => by obtain ⟨r, rfl, hI1, hF1, hR1, hf1⟩ := hp; exact ⟨_, rfl, rfl, hI1, th_RN_c hR1 hJ.2.1 hI1 ham hF1 (by decide), th_bits_F hF1 hJ.2.2.1 (by decide), ⟨r, rfl, hf1, lw_wf hJ.1 hI1 hF1 ham (by decide +kernel)⟩⟩) rfl (fun w1 H1 locs hc1 hJ1 hP1 => ?_)
  obtain ⟨r1, rfl, e1, g1⟩ := hP1
  refine lv_pop hx hb dL_law_577 hc1 ?_
  refine lv_aload_n hx hb dL_law_578 rfl (lv_at hl 1 rfl) ?_
  refine lw_call (pc' := 582) (k := 1) (P := (fun w K => ∃ r : Int32, w = .int r ∧ f_X12_orders (dv G Γ H1) (am : Int) = ((dv G Γ K), r.toInt) ∧ cf (lw_A ax) nV (dv G Γ H1) (dv G Γ K))) hJ1 (th_runV (As := []) (rest := []) hE.1 mf_X12_orders kl_66 im_X12_orders se_X12_orders (c_X12_orders l G Γ H1 hJ1.1 hU am ham hJ1.2.1) rfl rfl ⟨Nat.le_of_ble_eq_true rfl, Nat.le_of_ble_eq_true rfl⟩ hJ1.1 ham ro_46 rfl rfl hl.1 rfl (Nat.le_of_ble_eq_true rfl) dL_law_579 ⟨lw_f1 _, lw_f2 _⟩) (fun v K hp => by obtain ⟨r, rfl, hI1, hF1, hR1, hf1⟩ := hp; exact ⟨_, rfl, rfl, hI1, hR1, th_bits_F hF1 hJ1.2.2.1 (by decide), ⟨r, rfl, hf1, lw_cf hJ1.1 hI1 hF1 hA (by decide +kernel)⟩⟩) rfl (fun w2 H2 locs hc2 hJ2 hP2 => ?_)
  obtain ⟨r2, rfl, e2, f2⟩ := hP2
  refine lv_pop hx hb dL_law_582 hc2 ?_
  have hg := glue (r1 := r1.toInt) (r2 := r2.toInt) (fV := fun V => f_X11_orders V (lw_A ax 0)) (fW := fun V => f_X12_orders V (am : Int)) hq (fun V h => L_orders h) (by rw [lw_A0]; exact e1) g1 e2 f2
  exact lv_goto (tgt := 1239) hx hb dL_law_583 (by decide) (kk u _ locs hJ2 hg.2)

set_option maxHeartbeats 4000000 in
set_option maxRecDepth 100000 in
theorem lw_c12 {p : Program} {e : Env} {s : State} {m : MethodId} {below : List Frame} {meth : Method} {c : Code} {Q : State → Prop} {G : th_G} {Γ : th_Ga} {ax am b L n : Nat} {xs : Nat → Int32} {ls : Array Slot} (l : Launch) (hE : lw_E p s m c b L xs G Γ ax am) (hL : L ≤ 384) (hn : n + 6 ≤ L) (hl : lv_has ls 4 [(3, .int (nI n)), (2, .ref am), (1, .ref ax), (0, .ref b)]) (hk : dv_U Γ ∧ lw_AR Γ ax) {u : Nat} {H : Heap} {locs : List Loc} (hJ : lw_J G Γ am s H locs u) (hq : RR (lw_A ax) (am : Int) (dv G Γ H) (dv G Γ H)) (kk : ∀ (u1 : Nat) (H1 : Heap) (locs1 : List Loc), lw_J G Γ am s H1 locs1 u1 → RR (lw_A ax) (am : Int) (dv G Γ H1) (dv G Γ H1) → W p l e room_1 s m #[Value.ref b] below meth c H1 locs1 (600000 - th_pc u1) (7302250 - th_pq u1) Q (F0 m 1239 ls [])) : W p l e room_1 s m #[Value.ref b] below meth c H locs (600000 - th_pc u) (7302250 - th_pq u) Q (F0 m 586 ls []) := by
  have hx := hE.1.1
  have hb := hE.1.2.1
  have hax := hE.2.2.2.2.2.1
  have ham := hE.2.2.2.2.2.2.1
  have hU := hk.1
  have hA := hk.2
  refine lv_aload_n hx hb dL_law_586 rfl (lv_at hl 2 rfl) ?_
  refine lw_call (pc' := 590) (k := 1) (P := (fun w K => ∃ r : Int32, w = .int r ∧ f_X11_fault (dv G Γ H) (ax : Int) = (r.toInt, ()) ∧ H = K)) hJ (th_runV (As := []) (rest := []) hE.1 mf_X11_fault kl_67 im_X11_fault se_X11_fault (c_X11_fault l G Γ H hJ.1 hU ax hax) rfl rfl ⟨Nat.le_of_ble_eq_true rfl, Nat.le_of_ble_eq_true rfl⟩ hJ.1 hax ro_42 rfl rfl hl.1 rfl (Nat.le_of_ble_eq_true rfl) dL_law_587 ⟨lw_f1 _, lw_f2 _⟩) (fun v K hp => by obtain ⟨r, rfl, hf1, rfl⟩ := hp; exact ⟨_, rfl, rfl, hJ.1, hJ.2.1, hJ.2.2.1, ⟨r, rfl, hf1, rfl⟩⟩) rfl (fun w1 H1 locs hc1 hJ1 hP1 => ?_)
  obtain ⟨r1, rfl, e1, eK1⟩ := hP1
  rw [eK1] at e1 hq
  refine lv_pop hx hb dL_law_590 hc1 ?_
  refine lv_aload_n hx hb dL_law_591 rfl (lv_at hl 1 rfl) ?_
  refine lw_call (pc' := 595) (k := 1) (P := (fun w K => ∃ r : Int32, w = .int r ∧ f_X12_fault (dv G Γ H1) (am : Int) = (r.toInt, ()) ∧ H1 = K)) hJ1 (th_runV (As := []) (rest := []) hE.1 mf_X12_fault kl_70 im_X12_fault se_X12_fault (c_X12_fault l G Γ H1 hJ1.1 hU am ham) rfl rfl ⟨Nat.le_of_ble_eq_true rfl, Nat.le_of_ble_eq_true rfl⟩ hJ1.1 ham ro_46 rfl rfl hl.1 rfl (Nat.le_of_ble_eq_true rfl) dL_law_592 ⟨lw_f1 _, lw_f2 _⟩) (fun v K hp => by obtain ⟨r, rfl, hf1, rfl⟩ := hp; exact ⟨_, rfl, rfl, hJ1.1, hJ1.2.1, hJ1.2.2.1, ⟨r, rfl, hf1, rfl⟩⟩) rfl (fun w2 H2 locs hc2 hJ2 hP2 => ?_)
  obtain ⟨r2, rfl, e2, eK2⟩ := hP2
  refine lv_pop hx hb dL_law_595 hc2 ?_
  rw [eK2] at hq
  exact lv_goto (tgt := 1239) hx hb dL_law_596 (by decide) (kk u _ locs hJ2 hq)

set_option maxHeartbeats 4000000 in
set_option maxRecDepth 100000 in
theorem lw_c13 {p : Program} {e : Env} {s : State} {m : MethodId} {below : List Frame} {meth : Method} {c : Code} {Q : State → Prop} {G : th_G} {Γ : th_Ga} {ax am b L n : Nat} {xs : Nat → Int32} {ls : Array Slot} (l : Launch) (hE : lw_E p s m c b L xs G Γ ax am) (hL : L ≤ 384) (hn : n + 6 ≤ L) (hl : lv_has ls 4 [(3, .int (nI n)), (2, .ref am), (1, .ref ax), (0, .ref b)]) (hk : dv_U Γ ∧ lw_AR Γ ax) {u : Nat} {H : Heap} {locs : List Loc} (hJ : lw_J G Γ am s H locs u) (hq : RR (lw_A ax) (am : Int) (dv G Γ H) (dv G Γ H)) (kk : ∀ (u1 : Nat) (H1 : Heap) (locs1 : List Loc), lw_J G Γ am s H1 locs1 u1 → RR (lw_A ax) (am : Int) (dv G Γ H1) (dv G Γ H1) → W p l e room_1 s m #[Value.ref b] below meth c H1 locs1 (600000 - th_pc u1) (7302250 - th_pq u1) Q (F0 m 1239 ls [])) : W p l e room_1 s m #[Value.ref b] below meth c H locs (600000 - th_pc u) (7302250 - th_pq u) Q (F0 m 599 ls []) := by
  have hx := hE.1.1
  have hb := hE.1.2.1
  have hax := hE.2.2.2.2.2.1
  have ham := hE.2.2.2.2.2.2.1
  have hU := hk.1
  have hA := hk.2
  refine lv_aload_n hx hb dL_law_599 rfl (lv_at hl 2 rfl) ?_
  refine lw_call (pc' := 603) (k := 1) (P := (fun w K => ∃ r : Int32, w = .int r ∧ f_X11_stopped (dv G Γ H) (ax : Int) = (r.toInt, ()) ∧ H = K)) hJ (th_runV (As := []) (rest := []) hE.1 mf_X11_stopped kl_71 im_X11_stopped se_X11_stopped (c_X11_stopped l G Γ H hJ.1 hU ax hax) rfl rfl ⟨Nat.le_of_ble_eq_true rfl, Nat.le_of_ble_eq_true rfl⟩ hJ.1 hax ro_42 rfl rfl hl.1 rfl (Nat.le_of_ble_eq_true rfl) dL_law_600 ⟨lw_f1 _, lw_f2 _⟩) (fun v K hp => by obtain ⟨r, rfl, hf1, rfl⟩ := hp; exact ⟨_, rfl, rfl, hJ.1, hJ.2.1, hJ.2.2.1, ⟨r, rfl, hf1, rfl⟩⟩) rfl (fun w1 H1 locs hc1 hJ1 hP1 => ?_)
  obtain ⟨r1, rfl, e1, eK1⟩ := hP1
  rw [eK1] at e1 hq
  refine lv_pop hx hb dL_law_603 hc1 ?_
  refine lv_aload_n hx hb dL_law_604 rfl (lv_at hl 1 rfl) ?_
  refine lw_call (pc' := 608) (k := 1) (P := (fun w K => ∃ r : Int32, w = .int r ∧ f_X12_stopped (dv G Γ H1) (am : Int) = (r.toInt, ()) ∧ H1 = K)) hJ1 (th_runV (As := []) (rest := []) hE.1 mf_X12_stopped kl_74 im_X12_stopped se_X12_stopped (c_X12_stopped l G Γ H1 hJ1.1 hU am ham) rfl rfl ⟨Nat.le_of_ble_eq_true rfl, Nat.le_of_ble_eq_true rfl⟩ hJ1.1 ham ro_46 rfl rfl hl.1 rfl (Nat.le_of_ble_eq_true rfl) dL_law_605 ⟨lw_f1 _, lw_f2 _⟩) (fun v K hp => by obtain ⟨r, rfl, hf1, rfl⟩ := hp; exact ⟨_, rfl, rfl, hJ1.1, hJ1.2.1, hJ1.2.2.1, ⟨r, rfl, hf1, rfl⟩⟩) rfl (fun w2 H2 locs hc2 hJ2 hP2 => ?_)
  obtain ⟨r2, rfl, e2, eK2⟩ := hP2
  refine lv_pop hx hb dL_law_608 hc2 ?_
  rw [eK2] at hq
  exact lv_goto (tgt := 1239) hx hb dL_law_609 (by decide) (kk u _ locs hJ2 hq)

set_option maxHeartbeats 4000000 in
set_option maxRecDepth 100000 in
theorem lw_c14 {p : Program} {e : Env} {s : State} {m : MethodId} {below : List Frame} {meth : Method} {c : Code} {Q : State → Prop} {G : th_G} {Γ : th_Ga} {ax am b L n : Nat} {xs : Nat → Int32} {ls : Array Slot} (l : Launch) (hE : lw_E p s m c b L xs G Γ ax am) (hL : L ≤ 384) (hn : n + 6 ≤ L) (hl : lv_has ls 4 [(3, .int (nI n)), (2, .ref am), (1, .ref ax), (0, .ref b)]) (hk : dv_U Γ ∧ lw_AR Γ ax) {u : Nat} {H : Heap} {locs : List Loc} (hJ : lw_J G Γ am s H locs u) (hq : RR (lw_A ax) (am : Int) (dv G Γ H) (dv G Γ H)) (kk : ∀ (u1 : Nat) (H1 : Heap) (locs1 : List Loc), lw_J G Γ am s H1 locs1 u1 → RR (lw_A ax) (am : Int) (dv G Γ H1) (dv G Γ H1) → W p l e room_1 s m #[Value.ref b] below meth c H1 locs1 (600000 - th_pc u1) (7302250 - th_pq u1) Q (F0 m 1239 ls [])) : W p l e room_1 s m #[Value.ref b] below meth c H locs (600000 - th_pc u) (7302250 - th_pq u) Q (F0 m 612 ls []) := by
  have hx := hE.1.1
  have hb := hE.1.2.1
  have hax := hE.2.2.2.2.2.1
  have ham := hE.2.2.2.2.2.2.1
  have hU := hk.1
  have hA := hk.2
  refine lv_aload_n hx hb dL_law_612 rfl (lv_at hl 2 rfl) ?_
  refine lw_ld (pc := 613) (kn := 1) (pc' := 618) hE hJ.2.2.2 hl hn hL dL_law_613 rfl dL_law_614 rfl dL_law_615 (by decide) (by decide) rfl dL_law_616 rfl dL_law_617 rfl ?_
  refine lw_call (pc' := 621) (k := 1) (P := (fun w K => ∃ r : Int32, w = .int r ∧ f_X11_force (dv G Γ H) (ax : Int) (xs (n + 1)).toInt = ((dv G Γ K), r.toInt) ∧ wf (am : Int) nW (dv G Γ H) (dv G Γ K))) hJ (th_runV (As := [.int (xs (n + 1))]) (rest := []) hE.1 mf_X11_force kl_75 im_X11_force se_X11_force (c_X11_force l G Γ H hJ.1 hJ.2.1.1 hU ax hax (xs (n + 1))) rfl rfl ⟨Nat.le_of_ble_eq_true rfl, Nat.le_of_ble_eq_true rfl⟩ hJ.1 hax ro_42 rfl rfl hl.1 rfl (Nat.le_of_ble_eq_true rfl) dL_law_618 ⟨lw_f1 _, lw_f2 _⟩) (fun v K hp => by obtain ⟨r, rfl, hI1, hF1, hR1, hf1⟩ := hp; exact ⟨_, rfl, rfl, hI1, th_RN_c hR1 hJ.2.1 hI1 ham hF1 (by decide), th_bits_F hF1 hJ.2.2.1 (by decide), ⟨r, rfl, hf1, lw_wf hJ.1 hI1 hF1 ham (by decide +kernel)⟩⟩) rfl (fun w1 H1 locs hc1 hJ1 hP1 => ?_)
  obtain ⟨r1, rfl, e1, g1⟩ := hP1
  refine lv_pop hx hb dL_law_621 hc1 ?_
  refine lv_aload_n hx hb dL_law_622 rfl (lv_at hl 1 rfl) ?_
  refine lw_ld (pc := 623) (kn := 1) (pc' := 628) hE hJ1.2.2.2 hl hn hL dL_law_623 rfl dL_law_624 rfl dL_law_625 (by decide) (by decide) rfl dL_law_626 rfl dL_law_627 rfl ?_
  refine lw_call (pc' := 631) (k := 1) (P := (fun w K => ∃ r : Int32, w = .int r ∧ f_X12_force (dv G Γ H1) (am : Int) (xs (n + 1)).toInt = ((dv G Γ K), r.toInt) ∧ cf (lw_A ax) nV (dv G Γ H1) (dv G Γ K))) hJ1 (th_runV (As := [.int (xs (n + 1))]) (rest := []) hE.1 mf_X12_force kl_78 im_X12_force se_X12_force (c_X12_force l G Γ H1 hJ1.1 hU am ham hJ1.2.1 (xs (n + 1))) rfl rfl ⟨Nat.le_of_ble_eq_true rfl, Nat.le_of_ble_eq_true rfl⟩ hJ1.1 ham ro_46 rfl rfl hl.1 rfl (Nat.le_of_ble_eq_true rfl) dL_law_628 ⟨lw_f1 _, lw_f2 _⟩) (fun v K hp => by obtain ⟨r, rfl, hI1, hF1, hR1, hf1⟩ := hp; exact ⟨_, rfl, rfl, hI1, hR1, th_bits_F hF1 hJ1.2.2.1 (by decide), ⟨r, rfl, hf1, lw_cf hJ1.1 hI1 hF1 hA (by decide +kernel)⟩⟩) rfl (fun w2 H2 locs hc2 hJ2 hP2 => ?_)
  obtain ⟨r2, rfl, e2, f2⟩ := hP2
  refine lv_pop hx hb dL_law_631 hc2 ?_
  have hg := glue (r1 := r1.toInt) (r2 := r2.toInt) (fV := fun V => f_X11_force V (lw_A ax 0) (xs (n + 1)).toInt) (fW := fun V => f_X12_force V (am : Int) (xs (n + 1)).toInt) hq (fun V h => L_force h) (by rw [lw_A0]; exact e1) g1 e2 f2
  exact lv_goto (tgt := 1239) hx hb dL_law_632 (by decide) (kk u _ locs hJ2 hg.2)

set_option maxHeartbeats 4000000 in
set_option maxRecDepth 100000 in
theorem lw_c15 {p : Program} {e : Env} {s : State} {m : MethodId} {below : List Frame} {meth : Method} {c : Code} {Q : State → Prop} {G : th_G} {Γ : th_Ga} {ax am b L n : Nat} {xs : Nat → Int32} {ls : Array Slot} (l : Launch) (hE : lw_E p s m c b L xs G Γ ax am) (hL : L ≤ 384) (hn : n + 6 ≤ L) (hl : lv_has ls 4 [(3, .int (nI n)), (2, .ref am), (1, .ref ax), (0, .ref b)]) (hk : dv_U Γ ∧ lw_AR Γ ax) {u : Nat} {H : Heap} {locs : List Loc} (hJ : lw_J G Γ am s H locs u) (hq : RR (lw_A ax) (am : Int) (dv G Γ H) (dv G Γ H)) (kk : ∀ (u1 : Nat) (H1 : Heap) (locs1 : List Loc), lw_J G Γ am s H1 locs1 u1 → RR (lw_A ax) (am : Int) (dv G Γ H1) (dv G Γ H1) → W p l e room_1 s m #[Value.ref b] below meth c H1 locs1 (600000 - th_pc u1) (7302250 - th_pq u1) Q (F0 m 1239 ls [])) : W p l e room_1 s m #[Value.ref b] below meth c H locs (600000 - th_pc u) (7302250 - th_pq u) Q (F0 m 635 ls []) := by
  have hx := hE.1.1
  have hb := hE.1.2.1
  have hax := hE.2.2.2.2.2.1
  have ham := hE.2.2.2.2.2.2.1
  have hU := hk.1
  have hA := hk.2
  refine lv_aload_n hx hb dL_law_635 rfl (lv_at hl 2 rfl) ?_
  refine lw_ld (pc := 636) (kn := 1) (pc' := 641) hE hJ.2.2.2 hl hn hL dL_law_636 rfl dL_law_637 rfl dL_law_638 (by decide) (by decide) rfl dL_law_639 rfl dL_law_640 rfl ?_
  refine lw_ld (pc := 641) (kn := 2) (pc' := 646) hE hJ.2.2.2 hl hn hL dL_law_641 rfl dL_law_642 rfl dL_law_643 (by decide) (by decide) rfl dL_law_644 rfl dL_law_645 rfl ?_
  refine lw_ld (pc := 646) (kn := 3) (pc' := 651) hE hJ.2.2.2 hl hn hL dL_law_646 rfl dL_law_647 rfl dL_law_648 (by decide) (by decide) rfl dL_law_649 rfl dL_law_650 rfl ?_
  refine lw_call (pc' := 654) (k := 1) (P := (fun w K => ∃ r : Int32, w = .int r ∧ f_X11_lay (dv G Γ H) (ax : Int) (xs (n + 1)).toInt (xs (n + 2)).toInt (xs (n + 3)).toInt = ((dv G Γ K), r.toInt) ∧ wf (am : Int) nW (dv G Γ H) (dv G Γ K))) hJ (th_runV (As := [.int (xs (n + 1)), .int (xs (n + 2)), .int (xs (n + 3))]) (rest := []) hE.1 mf_X11_lay kl_79 im_X11_lay se_X11_lay (c_X11_lay l G Γ H hJ.1 hJ.2.1.1 hU ax hax (xs (n + 1)) (xs (n + 2)) (xs (n + 3))) rfl rfl ⟨Nat.le_of_ble_eq_true rfl, Nat.le_of_ble_eq_true rfl⟩ hJ.1 hax ro_42 rfl rfl hl.1 rfl (Nat.le_of_ble_eq_true rfl) dL_law_651 ⟨lw_f1 _, lw_f2 _⟩) (fun v K hp => by obtain ⟨r, rfl, hI1, hF1, hR1, hf1⟩ := hp; exact ⟨_, rfl, rfl, hI1, th_RN_c hR1 hJ.2.1 hI1 ham hF1 (by decide), th_bits_F hF1 hJ.2.2.1 (by decide), ⟨r, rfl, hf1, lw_wf hJ.1 hI1 hF1 ham (by decide +kernel)⟩⟩) rfl (fun w1 H1 locs hc1 hJ1 hP1 => ?_)
  obtain ⟨r1, rfl, e1, g1⟩ := hP1
  refine lv_pop hx hb dL_law_654 hc1 ?_
  refine lv_aload_n hx hb dL_law_655 rfl (lv_at hl 1 rfl) ?_
  refine lw_ld (pc := 656) (kn := 1) (pc' := 661) hE hJ1.2.2.2 hl hn hL dL_law_656 rfl dL_law_657 rfl dL_law_658 (by decide) (by decide) rfl dL_law_659 rfl dL_law_660 rfl ?_
  refine lw_ld (pc := 661) (kn := 2) (pc' := 666) hE hJ1.2.2.2 hl hn hL dL_law_661 rfl dL_law_662 rfl dL_law_663 (by decide) (by decide) rfl dL_law_664 rfl dL_law_665 rfl ?_
  refine lw_ld (pc := 666) (kn := 3) (pc' := 671) hE hJ1.2.2.2 hl hn hL dL_law_666 rfl dL_law_667 rfl dL_law_668 (by decide) (by decide) rfl dL_law_669 rfl dL_law_670 rfl ?_
  refine lw_call (pc' := 674) (k := 1) (P := (fun w K => ∃ r : Int32, w = .int r ∧ f_X12_lay (dv G Γ H1) (am : Int) (xs (n + 1)).toInt (xs (n + 2)).toInt (xs (n + 3)).toInt = ((dv G Γ K), r.toInt) ∧ cf (lw_A ax) nV (dv G Γ H1) (dv G Γ K))) hJ1 (th_runV (As := [.int (xs (n + 1)), .int (xs (n + 2)), .int (xs (n + 3))]) (rest := []) hE.1 mf_X12_lay kl_82 im_X12_lay se_X12_lay (c_X12_lay l G Γ H1 hJ1.1 hU am ham hJ1.2.1 (xs (n + 1)) (xs (n + 2)) (xs (n + 3))) rfl rfl ⟨Nat.le_of_ble_eq_true rfl, Nat.le_of_ble_eq_true rfl⟩ hJ1.1 ham ro_46 rfl rfl hl.1 rfl (Nat.le_of_ble_eq_true rfl) dL_law_671 ⟨lw_f1 _, lw_f2 _⟩) (fun v K hp => by obtain ⟨r, rfl, hI1, hF1, hR1, hf1⟩ := hp; exact ⟨_, rfl, rfl, hI1, hR1, th_bits_F hF1 hJ1.2.2.1 (by decide), ⟨r, rfl, hf1, lw_cf hJ1.1 hI1 hF1 hA (by decide +kernel)⟩⟩) rfl (fun w2 H2 locs hc2 hJ2 hP2 => ?_)
  obtain ⟨r2, rfl, e2, f2⟩ := hP2
  refine lv_pop hx hb dL_law_674 hc2 ?_
  have hg := glue (r1 := r1.toInt) (r2 := r2.toInt) (fV := fun V => f_X11_lay V (lw_A ax 0) (xs (n + 1)).toInt (xs (n + 2)).toInt (xs (n + 3)).toInt) (fW := fun V => f_X12_lay V (am : Int) (xs (n + 1)).toInt (xs (n + 2)).toInt (xs (n + 3)).toInt) hq (fun V h => L_lay h) (by rw [lw_A0]; exact e1) g1 e2 f2
  exact lv_goto (tgt := 1239) hx hb dL_law_675 (by decide) (kk u _ locs hJ2 hg.2)

set_option maxHeartbeats 4000000 in
set_option maxRecDepth 100000 in
theorem lw_c16 {p : Program} {e : Env} {s : State} {m : MethodId} {below : List Frame} {meth : Method} {c : Code} {Q : State → Prop} {G : th_G} {Γ : th_Ga} {ax am b L n : Nat} {xs : Nat → Int32} {ls : Array Slot} (l : Launch) (hE : lw_E p s m c b L xs G Γ ax am) (hL : L ≤ 384) (hn : n + 6 ≤ L) (hl : lv_has ls 4 [(3, .int (nI n)), (2, .ref am), (1, .ref ax), (0, .ref b)]) (hk : dv_U Γ ∧ lw_AR Γ ax) {u : Nat} {H : Heap} {locs : List Loc} (hJ : lw_J G Γ am s H locs u) (hq : RR (lw_A ax) (am : Int) (dv G Γ H) (dv G Γ H)) (kk : ∀ (u1 : Nat) (H1 : Heap) (locs1 : List Loc), lw_J G Γ am s H1 locs1 u1 → RR (lw_A ax) (am : Int) (dv G Γ H1) (dv G Γ H1) → W p l e room_1 s m #[Value.ref b] below meth c H1 locs1 (600000 - th_pc u1) (7302250 - th_pq u1) Q (F0 m 1239 ls [])) : W p l e room_1 s m #[Value.ref b] below meth c H locs (600000 - th_pc u) (7302250 - th_pq u) Q (F0 m 678 ls []) := by
  have hx := hE.1.1
  have hb := hE.1.2.1
  have hax := hE.2.2.2.2.2.1
  have ham := hE.2.2.2.2.2.2.1
  have hU := hk.1
  have hA := hk.2
  refine lv_aload_n hx hb dL_law_678 rfl (lv_at hl 2 rfl) ?_
  refine lw_ld (pc := 679) (kn := 1) (pc' := 684) hE hJ.2.2.2 hl hn hL dL_law_679 rfl dL_law_680 rfl dL_law_681 (by decide) (by decide) rfl dL_law_682 rfl dL_law_683 rfl ?_
  refine lw_call (pc' := 687) (k := 1) (P := (fun w K => ∃ r : Int32, w = .int r ∧ f_X11_roll (dv G Γ H) (ax : Int) (xs (n + 1)).toInt = ((dv G Γ K), r.toInt) ∧ wf (am : Int) nW (dv G Γ H) (dv G Γ K))) hJ (th_runV (As := [.int (xs (n + 1))]) (rest := []) hE.1 mf_X11_roll kl_83 im_X11_roll se_X11_roll (c_X11_roll l G Γ H hJ.1 hJ.2.1.1 hU ax hax (xs (n + 1))) rfl rfl ⟨Nat.le_of_ble_eq_true rfl, Nat.le_of_ble_eq_true rfl⟩ hJ.1 hax ro_42 rfl rfl hl.1 rfl (Nat.le_of_ble_eq_true rfl) dL_law_684 ⟨lw_f1 _, lw_f2 _⟩) (fun v K hp => by obtain ⟨r, rfl, hI1, hF1, hR1, hf1⟩ := hp; exact ⟨_, rfl, rfl, hI1, th_RN_c hR1 hJ.2.1 hI1 ham hF1 (by decide), th_bits_F hF1 hJ.2.2.1 (by decide), ⟨r, rfl, hf1, lw_wf hJ.1 hI1 hF1 ham (by decide +kernel)⟩⟩) rfl (fun w1 H1 locs hc1 hJ1 hP1 => ?_)
  obtain ⟨r1, rfl, e1, g1⟩ := hP1
  refine lv_pop hx hb dL_law_687 hc1 ?_
  refine lv_aload_n hx hb dL_law_688 rfl (lv_at hl 1 rfl) ?_
  refine lw_ld (pc := 689) (kn := 1) (pc' := 694) hE hJ1.2.2.2 hl hn hL dL_law_689 rfl dL_law_690 rfl dL_law_691 (by decide) (by decide) rfl dL_law_692 rfl dL_law_693 rfl ?_
  refine lw_call (pc' := 697) (k := 1) (P := (fun w K => ∃ r : Int32, w = .int r ∧ f_X12_roll (dv G Γ H1) (am : Int) (xs (n + 1)).toInt = ((dv G Γ K), r.toInt) ∧ cf (lw_A ax) nV (dv G Γ H1) (dv G Γ K))) hJ1 (th_runV (As := [.int (xs (n + 1))]) (rest := []) hE.1 mf_X12_roll kl_86 im_X12_roll se_X12_roll (c_X12_roll l G Γ H1 hJ1.1 hU am ham hJ1.2.1 (xs (n + 1))) rfl rfl ⟨Nat.le_of_ble_eq_true rfl, Nat.le_of_ble_eq_true rfl⟩ hJ1.1 ham ro_46 rfl rfl hl.1 rfl (Nat.le_of_ble_eq_true rfl) dL_law_694 ⟨lw_f1 _, lw_f2 _⟩) (fun v K hp => by obtain ⟨r, rfl, hI1, hF1, hR1, hf1⟩ := hp; exact ⟨_, rfl, rfl, hI1, hR1, th_bits_F hF1 hJ1.2.2.1 (by decide), ⟨r, rfl, hf1, lw_cf hJ1.1 hI1 hF1 hA (by decide +kernel)⟩⟩) rfl (fun w2 H2 locs hc2 hJ2 hP2 => ?_)
  obtain ⟨r2, rfl, e2, f2⟩ := hP2
  refine lv_pop hx hb dL_law_697 hc2 ?_
  have hg := glue (r1 := r1.toInt) (r2 := r2.toInt) (fV := fun V => f_X11_roll V (lw_A ax 0) (xs (n + 1)).toInt) (fW := fun V => f_X12_roll V (am : Int) (xs (n + 1)).toInt) hq (fun V h => L_roll h) (by rw [lw_A0]; exact e1) g1 e2 f2
  exact lv_goto (tgt := 1239) hx hb dL_law_698 (by decide) (kk u _ locs hJ2 hg.2)

set_option maxHeartbeats 4000000 in
set_option maxRecDepth 100000 in
theorem lw_c17 {p : Program} {e : Env} {s : State} {m : MethodId} {below : List Frame} {meth : Method} {c : Code} {Q : State → Prop} {G : th_G} {Γ : th_Ga} {ax am b L n : Nat} {xs : Nat → Int32} {ls : Array Slot} (l : Launch) (hE : lw_E p s m c b L xs G Γ ax am) (hL : L ≤ 384) (hn : n + 6 ≤ L) (hl : lv_has ls 4 [(3, .int (nI n)), (2, .ref am), (1, .ref ax), (0, .ref b)]) (hk : dv_U Γ ∧ lw_AR Γ ax) {u : Nat} {H : Heap} {locs : List Loc} (hJ : lw_J G Γ am s H locs u) (hq : RR (lw_A ax) (am : Int) (dv G Γ H) (dv G Γ H)) (kk : ∀ (u1 : Nat) (H1 : Heap) (locs1 : List Loc), lw_J G Γ am s H1 locs1 u1 → RR (lw_A ax) (am : Int) (dv G Γ H1) (dv G Γ H1) → W p l e room_1 s m #[Value.ref b] below meth c H1 locs1 (600000 - th_pc u1) (7302250 - th_pq u1) Q (F0 m 1239 ls [])) : W p l e room_1 s m #[Value.ref b] below meth c H locs (600000 - th_pc u) (7302250 - th_pq u) Q (F0 m 701 ls []) := by
  have hx := hE.1.1
  have hb := hE.1.2.1
  have hax := hE.2.2.2.2.2.1
  have ham := hE.2.2.2.2.2.2.1
  have hU := hk.1
  have hA := hk.2
  refine lv_aload_n hx hb dL_law_701 rfl (lv_at hl 2 rfl) ?_
  refine lw_call (pc' := 705) (k := 1) (P := (fun w K => ∃ r : Int32, w = .int r ∧ f_X11_mirror (dv G Γ H) (ax : Int) = ((dv G Γ K), r.toInt) ∧ wf (am : Int) nW (dv G Γ H) (dv G Γ K))) hJ (th_runV (As := []) (rest := []) hE.1 mf_X11_mirror kl_87 im_X11_mirror se_X11_mirror (c_X11_mirror l G Γ H hJ.1 hJ.2.1.1 hU ax hax) rfl rfl ⟨Nat.le_of_ble_eq_true rfl, Nat.le_of_ble_eq_true rfl⟩ hJ.1 hax ro_42 rfl rfl hl.1 rfl (Nat.le_of_ble_eq_true rfl) dL_law_702 ⟨lw_f1 _, lw_f2 _⟩) (fun v K hp => by obtain ⟨r, rfl, hI1, hF1, hR1, hf1⟩ := hp; exact ⟨_, rfl, rfl, hI1, th_RN_c hR1 hJ.2.1 hI1 ham hF1 (by decide), th_bits_F hF1 hJ.2.2.1 (by decide), ⟨r, rfl, hf1, lw_wf hJ.1 hI1 hF1 ham (by decide +kernel)⟩⟩) rfl (fun w1 H1 locs hc1 hJ1 hP1 => ?_)
  obtain ⟨r1, rfl, e1, g1⟩ := hP1
  refine lv_pop hx hb dL_law_705 hc1 ?_
  refine lv_aload_n hx hb dL_law_706 rfl (lv_at hl 1 rfl) ?_
  refine lw_call (pc' := 710) (k := 1) (P := (fun w K => ∃ r : Int32, w = .int r ∧ f_X12_mirror (dv G Γ H1) (am : Int) = ((dv G Γ K), r.toInt) ∧ cf (lw_A ax) nV (dv G Γ H1) (dv G Γ K))) hJ1 (th_runV (As := []) (rest := []) hE.1 mf_X12_mirror kl_90 im_X12_mirror se_X12_mirror (c_X12_mirror l G Γ H1 hJ1.1 hU am ham hJ1.2.1) rfl rfl ⟨Nat.le_of_ble_eq_true rfl, Nat.le_of_ble_eq_true rfl⟩ hJ1.1 ham ro_46 rfl rfl hl.1 rfl (Nat.le_of_ble_eq_true rfl) dL_law_707 ⟨lw_f1 _, lw_f2 _⟩) (fun v K hp => by obtain ⟨r, rfl, hI1, hF1, hR1, hf1⟩ := hp; exact ⟨_, rfl, rfl, hI1, hR1, th_bits_F hF1 hJ1.2.2.1 (by decide), ⟨r, rfl, hf1, lw_cf hJ1.1 hI1 hF1 hA (by decide +kernel)⟩⟩) rfl (fun w2 H2 locs hc2 hJ2 hP2 => ?_)
  obtain ⟨r2, rfl, e2, f2⟩ := hP2
  refine lv_pop hx hb dL_law_710 hc2 ?_
  have hg := glue (r1 := r1.toInt) (r2 := r2.toInt) (fV := fun V => f_X11_mirror V (lw_A ax 0)) (fW := fun V => f_X12_mirror V (am : Int)) hq (fun V h => L_mirror h) (by rw [lw_A0]; exact e1) g1 e2 f2
  exact lv_goto (tgt := 1239) hx hb dL_law_711 (by decide) (kk u _ locs hJ2 hg.2)

set_option maxHeartbeats 4000000 in
set_option maxRecDepth 100000 in
theorem lw_c18 {p : Program} {e : Env} {s : State} {m : MethodId} {below : List Frame} {meth : Method} {c : Code} {Q : State → Prop} {G : th_G} {Γ : th_Ga} {ax am b L n : Nat} {xs : Nat → Int32} {ls : Array Slot} (l : Launch) (hE : lw_E p s m c b L xs G Γ ax am) (hL : L ≤ 384) (hn : n + 6 ≤ L) (hl : lv_has ls 4 [(3, .int (nI n)), (2, .ref am), (1, .ref ax), (0, .ref b)]) (hk : dv_U Γ ∧ lw_AR Γ ax) {u : Nat} {H : Heap} {locs : List Loc} (hJ : lw_J G Γ am s H locs u) (hq : RR (lw_A ax) (am : Int) (dv G Γ H) (dv G Γ H)) (kk : ∀ (u1 : Nat) (H1 : Heap) (locs1 : List Loc), lw_J G Γ am s H1 locs1 u1 → RR (lw_A ax) (am : Int) (dv G Γ H1) (dv G Γ H1) → W p l e room_1 s m #[Value.ref b] below meth c H1 locs1 (600000 - th_pc u1) (7302250 - th_pq u1) Q (F0 m 1239 ls [])) : W p l e room_1 s m #[Value.ref b] below meth c H locs (600000 - th_pc u) (7302250 - th_pq u) Q (F0 m 714 ls []) := by
  have hx := hE.1.1
  have hb := hE.1.2.1
  have hax := hE.2.2.2.2.2.1
  have ham := hE.2.2.2.2.2.2.1
  have hU := hk.1
  have hA := hk.2
  refine lv_aload_n hx hb dL_law_714 rfl (lv_at hl 2 rfl) ?_
  refine lw_call (pc' := 718) (k := 1) (P := (fun w K => ∃ r : Int32, w = .int r ∧ f_X11_pass (dv G Γ H) (ax : Int) = ((dv G Γ K), r.toInt) ∧ wf (am : Int) nW (dv G Γ H) (dv G Γ K))) hJ (th_runV (As := []) (rest := []) hE.1 mf_X11_pass kl_91 im_X11_pass se_X11_pass (c_X11_pass l G Γ H hJ.1 hJ.2.1.1 hU ax hax) rfl rfl ⟨Nat.le_of_ble_eq_true rfl, Nat.le_of_ble_eq_true rfl⟩ hJ.1 hax ro_42 rfl rfl hl.1 rfl (Nat.le_of_ble_eq_true rfl) dL_law_715 ⟨lw_f1 _, lw_f2 _⟩) (fun v K hp => by obtain ⟨r, rfl, hI1, hF1, hR1, hf1⟩ := hp; exact ⟨_, rfl, rfl, hI1, th_RN_c hR1 hJ.2.1 hI1 ham hF1 (by decide), th_bits_F hF1 hJ.2.2.1 (by decide), ⟨r, rfl, hf1, lw_wf hJ.1 hI1 hF1 ham (by decide +kernel)⟩⟩) rfl (fun w1 H1 locs hc1 hJ1 hP1 => ?_)
  obtain ⟨r1, rfl, e1, g1⟩ := hP1
  refine lv_pop hx hb dL_law_718 hc1 ?_
  refine lv_aload_n hx hb dL_law_719 rfl (lv_at hl 1 rfl) ?_
  refine lw_call (pc' := 723) (k := 1) (P := (fun w K => ∃ r : Int32, w = .int r ∧ f_X12_pass (dv G Γ H1) (am : Int) = ((dv G Γ K), r.toInt) ∧ cf (lw_A ax) nV (dv G Γ H1) (dv G Γ K))) hJ1 (th_runV (As := []) (rest := []) hE.1 mf_X12_pass kl_94 im_X12_pass se_X12_pass (c_X12_pass l G Γ H1 hJ1.1 hU am ham hJ1.2.1) rfl rfl ⟨Nat.le_of_ble_eq_true rfl, Nat.le_of_ble_eq_true rfl⟩ hJ1.1 ham ro_46 rfl rfl hl.1 rfl (Nat.le_of_ble_eq_true rfl) dL_law_720 ⟨lw_f1 _, lw_f2 _⟩) (fun v K hp => by obtain ⟨r, rfl, hI1, hF1, hR1, hf1⟩ := hp; exact ⟨_, rfl, rfl, hI1, hR1, th_bits_F hF1 hJ1.2.2.1 (by decide), ⟨r, rfl, hf1, lw_cf hJ1.1 hI1 hF1 hA (by decide +kernel)⟩⟩) rfl (fun w2 H2 locs hc2 hJ2 hP2 => ?_)
  obtain ⟨r2, rfl, e2, f2⟩ := hP2
  refine lv_pop hx hb dL_law_723 hc2 ?_
  have hg := glue (r1 := r1.toInt) (r2 := r2.toInt) (fV := fun V => f_X11_pass V (lw_A ax 0)) (fW := fun V => f_X12_pass V (am : Int)) hq (fun V h => L_pass h) (by rw [lw_A0]; exact e1) g1 e2 f2
  exact lv_goto (tgt := 1239) hx hb dL_law_724 (by decide) (kk u _ locs hJ2 hg.2)

set_option maxHeartbeats 4000000 in
set_option maxRecDepth 100000 in
theorem lw_c19 {p : Program} {e : Env} {s : State} {m : MethodId} {below : List Frame} {meth : Method} {c : Code} {Q : State → Prop} {G : th_G} {Γ : th_Ga} {ax am b L n : Nat} {xs : Nat → Int32} {ls : Array Slot} (l : Launch) (hE : lw_E p s m c b L xs G Γ ax am) (hL : L ≤ 384) (hn : n + 6 ≤ L) (hl : lv_has ls 4 [(3, .int (nI n)), (2, .ref am), (1, .ref ax), (0, .ref b)]) (hk : dv_U Γ ∧ lw_AR Γ ax) {u : Nat} {H : Heap} {locs : List Loc} (hJ : lw_J G Γ am s H locs u) (hq : RR (lw_A ax) (am : Int) (dv G Γ H) (dv G Γ H)) (kk : ∀ (u1 : Nat) (H1 : Heap) (locs1 : List Loc), lw_J G Γ am s H1 locs1 u1 → RR (lw_A ax) (am : Int) (dv G Γ H1) (dv G Γ H1) → W p l e room_1 s m #[Value.ref b] below meth c H1 locs1 (600000 - th_pc u1) (7302250 - th_pq u1) Q (F0 m 1239 ls [])) : W p l e room_1 s m #[Value.ref b] below meth c H locs (600000 - th_pc u) (7302250 - th_pq u) Q (F0 m 727 ls []) := by
  have hx := hE.1.1
  have hb := hE.1.2.1
  have hax := hE.2.2.2.2.2.1
  have ham := hE.2.2.2.2.2.2.1
  have hU := hk.1
  have hA := hk.2
  refine lv_aload_n hx hb dL_law_727 rfl (lv_at hl 2 rfl) ?_
  refine lw_call (pc' := 731) (k := 1) (P := (fun w K => ∃ r : Int32, w = .int r ∧ f_X11_undo (dv G Γ H) (ax : Int) = ((dv G Γ K), r.toInt) ∧ wf (am : Int) nW (dv G Γ H) (dv G Γ K))) hJ (th_runV (As := []) (rest := []) hE.1 mf_X11_undo kl_95 im_X11_undo se_X11_undo (c_X11_undo l G Γ H hJ.1 hJ.2.1.1 hU ax hax) rfl rfl ⟨Nat.le_of_ble_eq_true rfl, Nat.le_of_ble_eq_true rfl⟩ hJ.1 hax ro_42 rfl rfl hl.1 rfl (Nat.le_of_ble_eq_true rfl) dL_law_728 ⟨lw_f1 _, lw_f2 _⟩) (fun v K hp => by obtain ⟨r, rfl, hI1, hF1, hR1, hf1⟩ := hp; exact ⟨_, rfl, rfl, hI1, th_RN_c hR1 hJ.2.1 hI1 ham hF1 (by decide), th_bits_F hF1 hJ.2.2.1 (by decide), ⟨r, rfl, hf1, lw_wf hJ.1 hI1 hF1 ham (by decide +kernel)⟩⟩) rfl (fun w1 H1 locs hc1 hJ1 hP1 => ?_)
  obtain ⟨r1, rfl, e1, g1⟩ := hP1
  refine lv_pop hx hb dL_law_731 hc1 ?_
  refine lv_aload_n hx hb dL_law_732 rfl (lv_at hl 1 rfl) ?_
  refine lw_call (pc' := 736) (k := 1) (P := (fun w K => ∃ r : Int32, w = .int r ∧ f_X12_undo (dv G Γ H1) (am : Int) = ((dv G Γ K), r.toInt) ∧ cf (lw_A ax) nV (dv G Γ H1) (dv G Γ K))) hJ1 (th_runV (As := []) (rest := []) hE.1 mf_X12_undo kl_98 im_X12_undo se_X12_undo (c_X12_undo l G Γ H1 hJ1.1 hU am ham hJ1.2.1) rfl rfl ⟨Nat.le_of_ble_eq_true rfl, Nat.le_of_ble_eq_true rfl⟩ hJ1.1 ham ro_46 rfl rfl hl.1 rfl (Nat.le_of_ble_eq_true rfl) dL_law_733 ⟨lw_f1 _, lw_f2 _⟩) (fun v K hp => by obtain ⟨r, rfl, hI1, hF1, hR1, hf1⟩ := hp; exact ⟨_, rfl, rfl, hI1, hR1, th_bits_F hF1 hJ1.2.2.1 (by decide), ⟨r, rfl, hf1, lw_cf hJ1.1 hI1 hF1 hA (by decide +kernel)⟩⟩) rfl (fun w2 H2 locs hc2 hJ2 hP2 => ?_)
  obtain ⟨r2, rfl, e2, f2⟩ := hP2
  refine lv_pop hx hb dL_law_736 hc2 ?_
  have hg := glue (r1 := r1.toInt) (r2 := r2.toInt) (fV := fun V => f_X11_undo V (lw_A ax 0)) (fW := fun V => f_X12_undo V (am : Int)) hq (fun V h => L_undo h) (by rw [lw_A0]; exact e1) g1 e2 f2
  exact lv_goto (tgt := 1239) hx hb dL_law_737 (by decide) (kk u _ locs hJ2 hg.2)

set_option maxHeartbeats 4000000 in
set_option maxRecDepth 100000 in
theorem lw_c20 {p : Program} {e : Env} {s : State} {m : MethodId} {below : List Frame} {meth : Method} {c : Code} {Q : State → Prop} {G : th_G} {Γ : th_Ga} {ax am b L n : Nat} {xs : Nat → Int32} {ls : Array Slot} (l : Launch) (hE : lw_E p s m c b L xs G Γ ax am) (hL : L ≤ 384) (hn : n + 6 ≤ L) (hl : lv_has ls 4 [(3, .int (nI n)), (2, .ref am), (1, .ref ax), (0, .ref b)]) (hk : dv_U Γ ∧ lw_AR Γ ax) {u : Nat} {H : Heap} {locs : List Loc} (hJ : lw_J G Γ am s H locs u) (hq : RR (lw_A ax) (am : Int) (dv G Γ H) (dv G Γ H)) (kk : ∀ (u1 : Nat) (H1 : Heap) (locs1 : List Loc), lw_J G Γ am s H1 locs1 u1 → RR (lw_A ax) (am : Int) (dv G Γ H1) (dv G Γ H1) → W p l e room_1 s m #[Value.ref b] below meth c H1 locs1 (600000 - th_pc u1) (7302250 - th_pq u1) Q (F0 m 1239 ls [])) : W p l e room_1 s m #[Value.ref b] below meth c H locs (600000 - th_pc u) (7302250 - th_pq u) Q (F0 m 740 ls []) := by
  have hx := hE.1.1
  have hb := hE.1.2.1
  have hax := hE.2.2.2.2.2.1
  have ham := hE.2.2.2.2.2.2.1
  have hU := hk.1
  have hA := hk.2
  refine lv_aload_n hx hb dL_law_740 rfl (lv_at hl 2 rfl) ?_
  refine lw_ld (pc := 741) (kn := 1) (pc' := 746) hE hJ.2.2.2 hl hn hL dL_law_741 rfl dL_law_742 rfl dL_law_743 (by decide) (by decide) rfl dL_law_744 rfl dL_law_745 rfl ?_
  refine lw_call (pc' := 749) (k := 1) (P := (fun w K => ∃ r : Int32, w = .int r ∧ f_X11_bare (dv G Γ H) (ax : Int) (xs (n + 1)).toInt = ((dv G Γ K), r.toInt) ∧ cf (lw_A ax) cs_L (dv G Γ H) (dv G Γ K) ∧ wf (am : Int) nW (dv G Γ H) (dv G Γ K))) hJ (th_runV (As := [.int (xs (n + 1))]) (rest := []) hE.1 mf_X11_bare kl_99 im_X11_bare se_X11_bare (c_X11_bare l G Γ H hJ.1 hJ.2.1.1 hU ax hax (xs (n + 1))) rfl rfl ⟨Nat.le_of_ble_eq_true rfl, Nat.le_of_ble_eq_true rfl⟩ hJ.1 hax ro_42 rfl rfl hl.1 rfl (Nat.le_of_ble_eq_true rfl) dL_law_746 ⟨lw_f1 _, lw_f2 _⟩) (fun v K hp => by obtain ⟨r, rfl, hI1, hF1, hR1, hf1⟩ := hp; exact ⟨_, rfl, rfl, hI1, th_RN_c hR1 hJ.2.1 hI1 ham hF1 (by decide), th_bits_F hF1 hJ.2.2.1 (by decide), ⟨r, rfl, hf1, lw_cf hJ.1 hI1 hF1 hA (by decide +kernel), lw_wf hJ.1 hI1 hF1 ham (by decide +kernel)⟩⟩) rfl (fun w1 H1 locs hc1 hJ1 hP1 => ?_)
  obtain ⟨r1, rfl, e1, f1, g1⟩ := hP1
  refine lv_pop hx hb dL_law_749 hc1 ?_
  refine lv_aload_n hx hb dL_law_750 rfl (lv_at hl 1 rfl) ?_
  refine lw_ld (pc := 751) (kn := 1) (pc' := 756) hE hJ1.2.2.2 hl hn hL dL_law_751 rfl dL_law_752 rfl dL_law_753 (by decide) (by decide) rfl dL_law_754 rfl dL_law_755 rfl ?_
  refine lw_call (pc' := 759) (k := 1) (P := (fun w K => ∃ r : Int32, w = .int r ∧ f_X12_bare (dv G Γ H1) (am : Int) (xs (n + 1)).toInt = ((dv G Γ K), r.toInt) ∧ cf (lw_A ax) nV (dv G Γ H1) (dv G Γ K))) hJ1 (th_runV (As := [.int (xs (n + 1))]) (rest := []) hE.1 mf_X12_bare kl_102 im_X12_bare se_X12_bare (c_X12_bare l G Γ H1 hJ1.1 hU am ham (th_NK hJ1.2.1) (xs (n + 1))) rfl rfl ⟨Nat.le_of_ble_eq_true rfl, Nat.le_of_ble_eq_true rfl⟩ hJ1.1 ham ro_46 rfl rfl hl.1 rfl (Nat.le_of_ble_eq_true rfl) dL_law_756 ⟨lw_f1 _, lw_f2 _⟩) (fun v K hp => by obtain ⟨r, rfl, hI1, hF1, hR1, hf1⟩ := hp; exact ⟨_, rfl, rfl, hI1, th_RN_c hR1.1 hJ1.2.1 hI1 ham hF1 (by decide), th_bits_F hF1 hJ1.2.2.1 (by decide), ⟨r, rfl, hf1, lw_cf hJ1.1 hI1 hF1 hA (by decide +kernel)⟩⟩) rfl (fun w2 H2 locs hc2 hJ2 hP2 => ?_)
  obtain ⟨r2, rfl, e2, f2⟩ := hP2
  refine lv_pop hx hb dL_law_759 hc2 ?_
  have hq1 := glue_C hq f1 (lw_kwA hJ1.1 hA) g1
  have hg := glue_S (fW := fun V => f_X12_bare V (am : Int) (xs (n + 1)).toInt) hq1 (sk_of (fW := fun V => f_X12_bare V (am : Int) (xs (n + 1)).toInt) (F_bare (RR_JX hq1))) e2 f2
  exact lv_goto (tgt := 1239) hx hb dL_law_760 (by decide) (kk u _ locs hJ2 hg)

set_option maxHeartbeats 4000000 in
set_option maxRecDepth 100000 in
theorem lw_c21 {p : Program} {e : Env} {s : State} {m : MethodId} {below : List Frame} {meth : Method} {c : Code} {Q : State → Prop} {G : th_G} {Γ : th_Ga} {ax am b L n : Nat} {xs : Nat → Int32} {ls : Array Slot} (l : Launch) (hE : lw_E p s m c b L xs G Γ ax am) (hL : L ≤ 384) (hn : n + 6 ≤ L) (hl : lv_has ls 4 [(3, .int (nI n)), (2, .ref am), (1, .ref ax), (0, .ref b)]) (hk : dv_U Γ ∧ lw_AR Γ ax) {u : Nat} {H : Heap} {locs : List Loc} (hJ : lw_J G Γ am s H locs u) (hq : RR (lw_A ax) (am : Int) (dv G Γ H) (dv G Γ H)) (kk : ∀ (u1 : Nat) (H1 : Heap) (locs1 : List Loc), lw_J G Γ am s H1 locs1 u1 → RR (lw_A ax) (am : Int) (dv G Γ H1) (dv G Γ H1) → W p l e room_1 s m #[Value.ref b] below meth c H1 locs1 (600000 - th_pc u1) (7302250 - th_pq u1) Q (F0 m 1239 ls [])) : W p l e room_1 s m #[Value.ref b] below meth c H locs (600000 - th_pc u) (7302250 - th_pq u) Q (F0 m 763 ls []) := by
  have hx := hE.1.1
  have hb := hE.1.2.1
  have hax := hE.2.2.2.2.2.1
  have ham := hE.2.2.2.2.2.2.1
  have hU := hk.1
  have hA := hk.2
  refine lv_aload_n hx hb dL_law_763 rfl (lv_at hl 2 rfl) ?_
  refine lw_ld (pc := 764) (kn := 1) (pc' := 769) hE hJ.2.2.2 hl hn hL dL_law_764 rfl dL_law_765 rfl dL_law_766 (by decide) (by decide) rfl dL_law_767 rfl dL_law_768 rfl ?_
  refine lw_callb (pc' := 772) (k := 1) (P := (fun w K => ∃ r : Int32, w = .int r ∧ cf (lw_A ax) cs_L (dv G Γ H) (dv G Γ K) ∧ wf (am : Int) nW (dv G Γ H) (dv G Γ K))) hJ (th_runV (As := [.int (xs (n + 1))]) (rest := []) hE.1 mf_X11_fill kl_103 im_X11_fill se_X11_fill (c_X11_fill l G Γ H hJ.1 hJ.2.1.1 hU ax hax (xs (n + 1)) u hJ.2.2.1) rfl rfl ⟨Nat.le_of_ble_eq_true rfl, Nat.le_of_ble_eq_true rfl⟩ hJ.1 hax ro_42 rfl rfl hl.1 rfl (Nat.le_of_ble_eq_true rfl) dL_law_769 ⟨lw_f3 hJ.2.2.1.1, lw_f4 hJ.2.2.1.1⟩) (fun v K hp => by obtain ⟨r, rfl, hI1, hF1, hR1, hbp⟩ := hp; exact ⟨_, rfl, rfl, hI1, th_RN_c hR1 hJ.2.1 hI1 ham hF1 (by decide), hbp, ⟨r, rfl, lw_cf hJ.1 hI1 hF1 hA (by decide +kernel), lw_wf hJ.1 hI1 hF1 ham (by decide +kernel)⟩⟩) rfl (fun u1 w1 H1 locs hc1 hJ1 hP1 => ?_)
  obtain ⟨r1, rfl, f1, g1⟩ := hP1
  refine lv_pop hx hb dL_law_772 hc1 ?_
  refine lv_aload_n hx hb dL_law_773 rfl (lv_at hl 1 rfl) ?_
  refine lw_ld (pc := 774) (kn := 1) (pc' := 779) hE hJ1.2.2.2 hl hn hL dL_law_774 rfl dL_law_775 rfl dL_law_776 (by decide) (by decide) rfl dL_law_777 rfl dL_law_778 rfl ?_
  refine lw_call (pc' := 782) (k := 1) (P := (fun w K => ∃ r : Int32, w = .int r ∧ f_X12_fill (dv G Γ H1) (am : Int) (xs (n + 1)).toInt = ((dv G Γ K), r.toInt) ∧ cf (lw_A ax) nV (dv G Γ H1) (dv G Γ K))) hJ1 (th_runV (As := [.int (xs (n + 1))]) (rest := []) hE.1 mf_X12_fill kl_106 im_X12_fill se_X12_fill (c_X12_fill l G Γ H1 hJ1.1 hU am ham (th_NK hJ1.2.1) (xs (n + 1))) rfl rfl ⟨Nat.le_of_ble_eq_true rfl, Nat.le_of_ble_eq_true rfl⟩ hJ1.1 ham ro_46 rfl rfl hl.1 rfl (Nat.le_of_ble_eq_true rfl) dL_law_779 ⟨lw_f1 _, lw_f2 _⟩) (fun v K hp => by obtain ⟨r, rfl, hI1, hF1, hR1, hf1⟩ := hp; exact ⟨_, rfl, rfl, hI1, th_RN_c hR1.1 hJ1.2.1 hI1 ham hF1 (by decide), th_bits_F hF1 hJ1.2.2.1 (by decide), ⟨r, rfl, hf1, lw_cf hJ1.1 hI1 hF1 hA (by decide +kernel)⟩⟩) rfl (fun w2 H2 locs hc2 hJ2 hP2 => ?_)
  obtain ⟨r2, rfl, e2, f2⟩ := hP2
  refine lv_pop hx hb dL_law_782 hc2 ?_
  have hq1 := glue_C hq f1 (lw_kwA hJ1.1 hA) g1
  have hg := glue_S (fW := fun V => f_X12_fill V (am : Int) (xs (n + 1)).toInt) hq1 (sk_of (fW := fun V => f_X12_fill V (am : Int) (xs (n + 1)).toInt) (F_fill (RR_JX hq1))) e2 f2
  exact lv_goto (tgt := 1239) hx hb dL_law_783 (by decide) (kk u1 _ locs hJ2 hg)
