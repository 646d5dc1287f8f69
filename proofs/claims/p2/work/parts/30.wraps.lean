theorem c_X3_find (l : Launch) (G : th_G) (Γ : th_Ga) (H0 : Heap) (hI : th_I G Γ H0) (hR : th_RC G Γ H0) (a0 : Nat) (h0 : Γ a0 = (12, 0)) (p1 : Int64) : Met l yX3_find (.code yX3_find cX3_find 4 (some FieldType.int) :: th_tb) ({ frames := 1, cells := 0, slots := 0, locals := 24 } : Room) (th_P [.ref a0, .long p1] G H0) (th_Q (fun (v : Option Value) (H1 : Heap) => ∃ r : Int32, v = some (.int r) ∧ (-1) ≤ r.toInt ∧ r.toInt ≤ 16383 ∧ H0 = H1) G) 0 0 (fun q => G.2.2 ≤ q) := by
  obtain ⟨n, b1, b2, b3, b4, hme⟩ := hR.2.2.1 a0 0 h0
  rcases hme.1 with rfl | rfl | rfl
  · exact c_X3_find_10 l G Γ H0 hI a0 h0 p1 b1 b2 b3 b4 hme
  · exact c_X3_find_12 l G Γ H0 hI a0 h0 p1 b1 b2 b3 b4 hme
  · exact c_X3_find_14 l G Γ H0 hI a0 h0 p1 b1 b2 b3 b4 hme

theorem c_X3_slotOfNth (l : Launch) (G : th_G) (Γ : th_Ga) (H0 : Heap) (hI : th_I G Γ H0) (hR : th_RC G Γ H0) (a0 : Nat) (h0 : Γ a0 = (12, 0)) (p1 : Int32) : Met l yX3_slotOfNth (.code yX3_slotOfNth cX3_slotOfNth 2 (some FieldType.int) :: th_tb) ({ frames := 0, cells := 0, slots := 0, locals := 0 } : Room) (th_P [.ref a0, .int p1] G H0) (th_Q (fun (v : Option Value) (H1 : Heap) => ∃ r : Int32, v = some (.int r) ∧ H0 = H1) G) 0 0 (fun q => G.2.2 ≤ q) := by
  obtain ⟨n, b1, b2, b3, b4, hme⟩ := hR.2.2.1 a0 0 h0
  rcases hme.1 with rfl | rfl | rfl
  · exact c_X3_slotOfNth_10 l G Γ H0 hI a0 h0 p1 b1 b2 b3 b4 hme
  · exact c_X3_slotOfNth_12 l G Γ H0 hI a0 h0 p1 b1 b2 b3 b4 hme
  · exact c_X3_slotOfNth_14 l G Γ H0 hI a0 h0 p1 b1 b2 b3 b4 hme

theorem c_X3_valueIn (l : Launch) (G : th_G) (Γ : th_Ga) (H0 : Heap) (hI : th_I G Γ H0) (hR : th_RC G Γ H0) (a0 : Nat) (h0 : Γ a0 = (12, 0)) (p1 : Int32) : Met l yX3_valueIn (.code yX3_valueIn cX3_valueIn 2 (some FieldType.int) :: th_tb) ({ frames := 0, cells := 0, slots := 0, locals := 0 } : Room) (th_P [.ref a0, .int p1] G H0) (th_Q (fun (v : Option Value) (H1 : Heap) => ∃ r : Int32, v = some (.int r) ∧ H0 = H1) G) 0 0 (fun q => G.2.2 ≤ q) := by
  obtain ⟨n, b1, b2, b3, b4, hme⟩ := hR.2.2.1 a0 0 h0
  rcases hme.1 with rfl | rfl | rfl
  · exact c_X3_valueIn_10 l G Γ H0 hI a0 h0 p1 b1 b2 b3 b4 hme
  · exact c_X3_valueIn_12 l G Γ H0 hI a0 h0 p1 b1 b2 b3 b4 hme
  · exact c_X3_valueIn_14 l G Γ H0 hI a0 h0 p1 b1 b2 b3 b4 hme

theorem c_X3_flowIn (l : Launch) (G : th_G) (Γ : th_Ga) (H0 : Heap) (hI : th_I G Γ H0) (hR : th_RC G Γ H0) (a0 : Nat) (h0 : Γ a0 = (12, 0)) (p1 : Int32) : Met l yX3_flowIn (.code yX3_flowIn cX3_flowIn 2 (some FieldType.int) :: th_tb) ({ frames := 0, cells := 0, slots := 0, locals := 0 } : Room) (th_P [.ref a0, .int p1] G H0) (th_Q (fun (v : Option Value) (H1 : Heap) => ∃ r : Int32, v = some (.int r) ∧ H0 = H1) G) 0 0 (fun q => G.2.2 ≤ q) := by
  obtain ⟨n, b1, b2, b3, b4, hme⟩ := hR.2.2.1 a0 0 h0
  rcases hme.1 with rfl | rfl | rfl
  · exact c_X3_flowIn_10 l G Γ H0 hI a0 h0 p1 b1 b2 b3 b4 hme
  · exact c_X3_flowIn_12 l G Γ H0 hI a0 h0 p1 b1 b2 b3 b4 hme
  · exact c_X3_flowIn_14 l G Γ H0 hI a0 h0 p1 b1 b2 b3 b4 hme

theorem c_X3_keyIn (l : Launch) (G : th_G) (Γ : th_Ga) (H0 : Heap) (hI : th_I G Γ H0) (hR : th_RC G Γ H0) (a0 : Nat) (h0 : Γ a0 = (12, 0)) (p1 : Int32) : Met l yX3_keyIn (.code yX3_keyIn cX3_keyIn 2 (some FieldType.long) :: th_tb) ({ frames := 0, cells := 0, slots := 0, locals := 0 } : Room) (th_P [.ref a0, .int p1] G H0) (th_Q (fun (v : Option Value) (H1 : Heap) => ∃ r : Int64, v = some (.long r) ∧ H0 = H1) G) 0 0 (fun q => G.2.2 ≤ q) := by
  obtain ⟨n, b1, b2, b3, b4, hme⟩ := hR.2.2.1 a0 0 h0
  rcases hme.1 with rfl | rfl | rfl
  · exact c_X3_keyIn_10 l G Γ H0 hI a0 h0 p1 b1 b2 b3 b4 hme
  · exact c_X3_keyIn_12 l G Γ H0 hI a0 h0 p1 b1 b2 b3 b4 hme
  · exact c_X3_keyIn_14 l G Γ H0 hI a0 h0 p1 b1 b2 b3 b4 hme

theorem c_X3_addFlow (l : Launch) (G : th_G) (Γ : th_Ga) (H0 : Heap) (hI : th_I G Γ H0) (hR : th_RC G Γ H0) (a0 : Nat) (h0 : Γ a0 = (12, 0)) (p1 : Int32) (p2 : Int32) : Met l yX3_addFlow (.code yX3_addFlow cX3_addFlow 3 (none) :: th_tb) ({ frames := 0, cells := 0, slots := 0, locals := 0 } : Room) (th_P [.ref a0, .int p1, .int p2] G H0) (th_Q (fun (v : Option Value) (H1 : Heap) => v = none ∧ th_I G Γ H1 ∧ th_F G Γ [] H0 H1 ∧ th_RC G Γ H1) G) 0 0 (fun q => G.2.2 ≤ q) := by
  obtain ⟨n, b1, b2, b3, b4, hme⟩ := hR.2.2.1 a0 0 h0
  rcases hme.1 with rfl | rfl | rfl
  · exact c_X3_addFlow_10 l G Γ H0 hI hR a0 h0 p1 p2 b1 b2 b3 b4 hme
  · exact c_X3_addFlow_12 l G Γ H0 hI hR a0 h0 p1 p2 b1 b2 b3 b4 hme
  · exact c_X3_addFlow_14 l G Γ H0 hI hR a0 h0 p1 p2 b1 b2 b3 b4 hme

theorem c_X3_clear (l : Launch) (G : th_G) (Γ : th_Ga) (H0 : Heap) (hI : th_I G Γ H0) (hR : th_RC G Γ H0) (a0 : Nat) (h0 : Γ a0 = (12, 0)) : Met l yX3_clear (.code yX3_clear cX3_clear 2 (none) :: th_tb) ({ frames := 0, cells := 0, slots := 0, locals := 0 } : Room) (th_P [.ref a0] G H0) (th_Q (fun (v : Option Value) (H1 : Heap) => v = none ∧ th_I G Γ H1 ∧ th_F G Γ [(12, 5), (12, 6)] H0 H1 ∧ th_RC G Γ H1) G) 0 0 (fun q => G.2.2 ≤ q) := by
  obtain ⟨n, b1, b2, b3, b4, hme⟩ := hR.2.2.1 a0 0 h0
  rcases hme.1 with rfl | rfl | rfl
  · exact c_X3_clear_10 l G Γ H0 hI hR a0 h0  b1 b2 b3 b4 hme
  · exact c_X3_clear_12 l G Γ H0 hI hR a0 h0  b1 b2 b3 b4 hme
  · exact c_X3_clear_14 l G Γ H0 hI hR a0 h0  b1 b2 b3 b4 hme
