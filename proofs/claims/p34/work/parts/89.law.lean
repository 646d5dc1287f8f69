set_option maxHeartbeats 4000000 in
set_option maxRecDepth 100000 in
theorem whole_start {p : Program} {e : Env} {s : State} {m : MethodId} {below : List Frame} {meth : Method} {c : Code} (l : Launch) {b L : Nat} {xs : Nat → Int32} (hL : L ≤ 384) (C0 : lw_At p s m meth c b L xs) : W p l e room_1 s m #[Value.ref b] below meth c s.heap [] 0 0 (lw_Z below #[Value.ref b] s) (entryFrame m ([Value.ref b] : List Value).toArray 4) := by
  obtain ⟨hx, hb, hr, hml, hown, hts, hX, hbl, hlocks, hgv⟩ := id C0
  obtain ⟨G, hG, hK⟩ := lw_K hts s.heap.size
  have hZ := lw_Zs hG hts (cb_r hgv)
  have hC : th_C p s m #[Value.ref b] c cL_law 4 RL G := ⟨hx, hb, hml, hown, fun w hw => hts w (List.mem_filter.mp hw).1, hK⟩
  have hI0 : th_I G lw_g0 s.heap := fun a r o d hg hd => by cases lw_g0c hg; cases hd
  have hR0 : th_RC G lw_g0 s.heap := ⟨fun a o h => (by cases lw_g0c h), fun b o h => (by rcases h with h | h <;> cases lw_g0c h), fun a o h => (by cases lw_g0c h), fun a a1 o o1 h => (by cases lw_g0c h)⟩
  have hS : va_S (fun q => G.2.2 ≤ q) s.heap s.heap [] := va_S.rf
  have hl := lv_entry ([.ref b]) (n := 4) (Nat.le_of_ble_eq_true rfl)
  rw [lg_entry_eq]
  generalize (lg_sl ([.ref b]) ++ List.replicate (4 - (lg_sl ([.ref b])).length) Slot.unset).toArray = ls at hl ⊢
  have hl : lv_has ls 4 [(0, .ref b)] := hl
  refine tl_new hC cf_X11 hI0 hS kw_22 kw_23 kw_1 (Nat.le_of_ble_eq_true rfl) (Nat.le_of_ble_eq_true rfl) dL_law_0 (fun H1 z1 o1 hI1 hS1 ho1 => ?_)
  have nm0 : ∀ q, ¬ th_MR G lw_g0 H1 q := fun q w => by obtain ⟨a, o, j, g, -⟩ := w; cases lw_g0c g
  have hR1 := th_RC_s hI0 hR0 ho1.1 (fun w => by obtain ⟨a, o, j, g, -⟩ := w; cases lw_g0c g) hI1 (by omega) o1
  refine lv_dup hx hb dL_law_3 rfl ?_
  refine th_call (th_runI (As := []) (rest := [.ref s.heap.size]) hC mf_X11_init kl_9 im_X11_init rfl (c_X11_init_i l G lw_g0 H1 hI1 hR1 s.heap.size ho1 (by omega) (by omega) (nm0 _) (fun a o w => by cases lw_g0c w)) rfl rfl ⟨Nat.le_of_ble_eq_true rfl, Nat.le_of_ble_eq_true rfl⟩ rfl hl.1 rfl (Nat.le_of_ble_eq_true rfl) dL_law_4 ⟨Nat.le_of_ble_eq_true rfl, Nat.le_of_ble_eq_true rfl⟩) hS1 (fun v2 H2 locs2 hp2 hz2 hS2 => ?_)
  obtain ⟨rfl, Γ1, hy, hin, hS3⟩ := hp2
  have hg1 := hy.2.2.1
  obtain ⟨rd, hrd, hrg⟩ := lw_fr hy.1.1 hg1 ro_42 (j := 6) (r2 := 20) rfl
  have hI2 := lw_un_I hy.1.1 hg1 hrd hrg
  have hR2 := lw_un_R (ax := s.heap.size) (rd := rd) hy.2.1
  have hg2 : lw_un Γ1 s.heap.size rd s.heap.size = (42, 0) := lw_un_k hg1 (fun _ => rfl) (fun w => by cases w)
  have hu2 : ∀ a a1 o o1 : Nat, lw_un Γ1 s.heap.size rd a = (20, o) → lw_un Γ1 s.heap.size rd a1 = (20, o1) → a = a1 := fun a a1 o o1 w w1 => lw_un_q w w1
  obtain ⟨kr, mkr, kr1⟩ := th_fo hy.1.1 hg1 ro_42 (j := 2) (r2 := 44) rfl
  obtain ⟨st, s0, s1, im, mst, mim, ms0, ms1, ne0, ne1, ne2⟩ := hS3
  have st1 : Γ1 st = (32, 0) := by obtain ⟨b9, e9, g9⟩ := lw_fr hy.1.1 hg1 ro_42 (j := 0) (r2 := 32) rfl; cases mst.symm.trans e9; exact g9
  have im1 : Γ1 im = (43, s.heap.size) := by obtain ⟨b9, e9, g9⟩ := th_fo hy.1.1 hg1 ro_42 (j := 1) (r2 := 43) rfl; cases mim.symm.trans e9; exact g9
  have s01 : Γ1 s0 = (32, 0) := by obtain ⟨b9, e9, g9⟩ := lw_el hy.1.1 im1 (i := 0) (by decide); cases ms0.symm.trans e9; exact g9
  have s11 : Γ1 s1 = (32, 0) := by obtain ⟨b9, e9, g9⟩ := lw_el hy.1.1 im1 (i := 1) (by decide); cases ms1.symm.trans e9; exact g9
  have krl : kr < H2.size := th_ok_lt (hy.1.1 kr 44 s.heap.size _ kr1 ro_44).2
  have kru : lw_un Γ1 s.heap.size rd kr = (44, s.heap.size) := lw_un_k kr1 (fun w => by cases w) (fun w => by cases w)
  have krn := lw_n9 hy kr1 (by decide)
  have stl : st < H2.size := th_ok_lt (hy.1.1 st 32 0 _ st1 ro_32).2
  have stu : lw_un Γ1 s.heap.size rd st = (32, 0) := lw_un_k st1 (fun w => by cases w) (fun w => by cases w)
  have stn := lw_n9 hy st1 (by decide)
  have s0l : s0 < H2.size := th_ok_lt (hy.1.1 s0 32 0 _ s01 ro_32).2
  have s0u : lw_un Γ1 s.heap.size rd s0 = (32, 0) := lw_un_k s01 (fun w => by cases w) (fun w => by cases w)
  have s0n := lw_n9 hy s01 (by decide)
  have s1l : s1 < H2.size := th_ok_lt (hy.1.1 s1 32 0 _ s11 ro_32).2
  have s1u : lw_un Γ1 s.heap.size rd s1 = (32, 0) := lw_un_k s11 (fun w => by cases w) (fun w => by cases w)
  have s1n := lw_n9 hy s11 (by decide)
  have iml : im < H2.size := th_ok_lt (hy.1.1 im 43 s.heap.size _ im1 ro_43).2
  have imu : lw_un Γ1 s.heap.size rd im = (43, s.heap.size) := lw_un_k im1 (fun w => by cases w) (fun w => by cases w)
  have imn := lw_n9 hy im1 (by decide)
  generalize lw_un Γ1 s.heap.size rd = Γ2 at hI2 hR2 hg2 hu2 kru stu s0u s1u imu
  refine W.eq (g2 := F0 m 7 ls [.ref s.heap.size]) rfl ?_
  refine lv_astore_n (lv' := [(1, .ref s.heap.size), (0, .ref b)]) hx hb dL_law_7 rfl hl (by decide) rfl (fun ls hl => ?_)
  have hax : s.heap.size < H2.size := by omega
  refine tl_new hC cf_X12 hI2 hS2 kw_1220 kw_1221 kw_14 (Nat.le_of_ble_eq_true rfl) (Nat.le_of_ble_eq_true rfl) dL_law_8 (fun H3 z3 o3 hI3 hS3 ho3 => ?_)
  have nm2 : ¬ th_MR G Γ2 H2 H2.size := fun w => absurd (th_MR_lt hR2 w) (by omega)
  have hR3 := th_RC_s hI2 hR2 ho3.1 nm2 hI3 (by omega) o3
  have nm3 : ¬ th_MR G Γ2 H3 H2.size := fun w => nm2 (th_MR_s ho3.1 o3 w)
  refine lv_dup hx hb dL_law_11 rfl ?_
  refine th_call (th_runI (As := []) (rest := [.ref H2.size]) hC mf_X12_init kl_12 im_X12_init rfl (c_X12_init_i l G Γ2 H3 hI3 hR3 H2.size ho3 (by omega) (by omega) nm3) rfl rfl ⟨Nat.le_of_ble_eq_true rfl, Nat.le_of_ble_eq_true rfl⟩ rfl hl.1 rfl (Nat.le_of_ble_eq_true rfl) dL_law_12 ⟨Nat.le_of_ble_eq_true rfl, Nat.le_of_ble_eq_true rfl⟩) hS3 (fun v4 H4 locs4 hp4 hz4 hS4 => ?_)
  obtain ⟨rfl, Γ3, hy4, hN4, fw, hMV⟩ := hp4
  have hg3 : Γ3 s.heap.size = (42, 0) := (hy4.1.2.2 s.heap.size (by omega) (by omega)).1.trans hg2
  have hu3 : ∀ a o : Nat, Γ3 a = (20, o) → Γ2 a = (20, o) := fun a o w => by
    by_cases q9 : a = H2.size ∨ H3.size ≤ a
    · exact absurd (hy4.2.2.2.2 a 20 o w q9 rfl) (by decide)
    · exact (hy4.1.2.2 a (by omega) (by omega)).1.symm.trans w
  have hE : lw_E p s m c b L xs G Γ3 s.heap.size H2.size := ⟨hC, hG, hZ, hX, hbl, hg3, hy4.2.2.1, fun a a1 o o1 w w1 => hu2 a a1 o o1 (hu3 a o w) (hu3 a1 o1 w1)⟩
  have krg : Γ3 kr = (44, s.heap.size) := (hy4.1.2.2 kr (by omega) (by omega)).1.trans kru
  have krh : H4[kr]? = H2[kr]? := (hy4.1.2.2 kr (by omega) (by omega)).2.trans (o3 kr (by omega))
  have stg : Γ3 st = (32, 0) := (hy4.1.2.2 st (by omega) (by omega)).1.trans stu
  have sth : H4[st]? = H2[st]? := (hy4.1.2.2 st (by omega) (by omega)).2.trans (o3 st (by omega))
  have s0g : Γ3 s0 = (32, 0) := (hy4.1.2.2 s0 (by omega) (by omega)).1.trans s0u
  have s0h : H4[s0]? = H2[s0]? := (hy4.1.2.2 s0 (by omega) (by omega)).2.trans (o3 s0 (by omega))
  have s1g : Γ3 s1 = (32, 0) := (hy4.1.2.2 s1 (by omega) (by omega)).1.trans s1u
  have s1h : H4[s1]? = H2[s1]? := (hy4.1.2.2 s1 (by omega) (by omega)).2.trans (o3 s1 (by omega))
  have img : Γ3 im = (43, s.heap.size) := (hy4.1.2.2 im (by omega) (by omega)).1.trans imu
  have imh : H4[im]? = H2[im]? := (hy4.1.2.2 im (by omega) (by omega)).2.trans (o3 im (by omega))
  have hkr : Γ3 kr = (44, s.heap.size) ∧ Γ3 st = (32, 0) ∧ Γ3 s0 = (32, 0) ∧ Γ3 s1 = (32, 0) ∧ Γ3 im = (43, s.heap.size) ∧ st ≠ s0 ∧ st ≠ s1 ∧ s0 ≠ s1 := ⟨krg, stg, s0g, s1g, img, ne0, ne1, ne2⟩
  have ha4 : H4[s.heap.size]? = H2[s.heap.size]? := (hy4.1.2.2 s.heap.size (by omega) (by omega)).2.trans (o3 s.heap.size (by omega))
  have ki : ∀ i, i < 2 → th_sl H4 kr i = .int 0 := fun i hi => (th_sl_kept krh i).trans ((hin kr 44 s.heap.size kr1 krn rfl).2 2 _ rfl i hi)
  have sti : th_sl H4 st (G.1.2 8 7) = .int 0 := (th_sl_kept sth _).trans ((hin st 32 0 st1 stn rfl).1 7 0 (by decide))
  have s0i : th_sl H4 s0 (G.1.2 8 7) = .int 0 := (th_sl_kept s0h _).trans ((hin s0 32 0 s01 s0n rfl).1 7 0 (by decide))
  have s1i : th_sl H4 s1 (G.1.2 8 7) = .int 0 := (th_sl_kept s1h _).trans ((hin s1 32 0 s11 s1n rfl).1 7 0 (by decide))
  have m70 : mo_v G H4 H2.size 2 70 = 0 := mo_vat (x := 0) (hMV.1 2 (by decide)) (th_sl_at (hMV.2 1 _ rfl) (arrV_read _ _ (by decide))) (by decide)
  have i70 : mo_v G H4 H2.size 3 70 = 0 := mo_vat (x := 0) (hMV.1 3 (by decide)) (th_sl_at (hMV.2 2 _ rfl) (arrV_read _ _ (by decide))) (by decide)
  have i57 : mo_v G H4 H2.size 3 5750 = 0 := mo_vat (x := 0) (hMV.1 3 (by decide)) (th_sl_at (hMV.2 2 _ rfl) (arrV_read _ _ (by decide))) (by decide)
  have hq0 : lw_Cp (lw_cv G H4 kr st s0 s1) (lw_mv G H4 H2.size) := by
    refine ⟨fun z z0 z1 => ?_, ?_⟩
    · show tv_v H4 kr z = mo_v G H4 H2.size 4 z
      rw [tv_vat (ki z.toNat (by omega)) z0]
      exact (mo_vat (hMV.1 4 (by decide)) (th_sl_at (hMV.2 3 _ rfl) (arrV_read _ _ (show z.toNat < 2 by omega))) z0).symm
    · show (tv_f G H4 st 8 7, tv_f G H4 s0 8 7, tv_f G H4 s1 8 7) = (mo_v G H4 H2.size 2 70, mo_v G H4 H2.size 3 70, mo_v G H4 H2.size 3 5750)
      rw [tv_fat sti, tv_fat s0i, tv_fat s1i, m70, i70, i57]; rfl
  obtain ⟨u, hu⟩ := lw_bits hy4.1.1 hN4.1 hg3
  refine W.eq (g2 := F0 m 15 ls [.ref H2.size]) rfl ?_
  refine lv_astore_n (lv' := [(2, .ref H2.size), (1, .ref s.heap.size), (0, .ref b)]) hx hb dL_law_15 rfl hl (by decide) rfl (fun ls hl => ?_)
  refine lv_iconst (v := 0) hx hb dL_law_16 (by decide) ?_
  refine lv_istore_n (lv' := [(3, .int 0), (2, .ref H2.size), (1, .ref s.heap.size), (0, .ref b)]) hx hb dL_law_17 rfl hl (by decide) rfl (fun ls hl => ?_)
  have h8 := lw_pcb hu.1
  refine W.widen (k := 600000 - th_pc u) (n := 7302250 - th_pq u) (by omega) (by omega) ?_
  exact lw_loop l hE hL hr hlocks hkr (L + 1) 0 (Nat.zero_le L) (by omega) u _ _ H4 locs4 ls ⟨hy4.1.1, hN4, hu, hS4, (th_sl_kept ha4 _).trans mkr, (th_sl_kept ha4 _).trans mst, (th_sl_kept ha4 _).trans mim, (th_sl_kept imh _).trans ms0, (th_sl_kept imh _).trans ms1, rfl, rfl⟩ hq0 (by rw [nI_0]; exact hl)
