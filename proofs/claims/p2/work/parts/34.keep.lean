theorem c_X3_keep (l : Launch) (G : th_G) (Γ : th_Ga) (H0 : Heap) (hI : th_I G Γ H0) (hR : th_RC G Γ H0) (a0 : Nat) (h0 : Γ a0 = (12, 0)) (p1 : Int64) (p2 : Int32) (u0 : Nat) (hu0 : th_bits G Γ H0 u0) : Met l yX3_keep (.code yX3_keep cX3_keep 4 (none) :: th_tb) ({ frames := 3, cells := th_pc u0, slots := th_pq u0, locals := 73 } : Room) (th_P [.ref a0, .long p1, .int p2] G H0) (th_Q (fun (v : Option Value) (H1 : Heap) => v = none ∧ th_I G Γ H1 ∧ th_F G Γ [(12, 0), (12, 1), (12, 2), (12, 3), (12, 4), (12, 5), (12, 6)] H0 H1 ∧ th_RC G Γ H1 ∧ th_bp G Γ H0 H1 u0) G) (th_pc u0) (th_pq u0) (fun q => G.2.2 ≤ q) := by
  obtain ⟨b1, b2, b3, b4, hme⟩ := th_bits_RC hR hu0 h0
  rcases hme.1 with rfl | rfl | rfl
  · exact c_X3_keep_10 l G Γ H0 hI hR a0 h0 p1 p2 b1 b2 b3 b4 hme
  · exact c_X3_keep_12 l G Γ H0 hI hR a0 h0 p1 p2 b1 b2 b3 b4 hme
  · exact c_X3_keep_14 l G Γ H0 hI hR a0 h0 p1 p2 b1 b2 b3 b4 hme
