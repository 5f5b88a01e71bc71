/-- a seat, told by the reference's row -/
theorem e_inSeat {M : gM} (G : Gjury (M 72) (M 73) (M 74) (M 83) (M 140) (M 141) (M 142)) {c s : Nat} (hc : c < 8) (hs : s < 6) : f_X6_inSeat M (nI c) (nI s) = rRet (M 142 (8 * c + s)) M := by
  obtain ⟨k, hk, h72, -, -, h6, hd⟩ := G.2.2 c hc
  have hcc : (nI c).toNatClampNeg = c := nI_clamp (by omega)
  have hg : ∀ F : gR, gI (nI c) 8 F = F := fun F => gI_nI hc (by omega)
  unfold f_X6_inSeat f_X6_isDone
  rw [hg, hcc, h72, show (6 : Int32) = nI 6 from by decide]
  by_cases q : k < 6
  · rw [if_pos (nI_lt q (by omega)), rb_ret, if_pos rfl, (h6 q).1 s (by omega)]
  · obtain ⟨g, -, -, h1, -⟩ := hd (by omega)
    rw [if_neg (nI_nlt (by omega) (by omega)), rb_ret, if_neg i10, hg, gI_nI (show s < 8 by omega) (by omega), nI_clamp (show s < 2 ^ 31 by omega), h1 s (by omega) (Or.inl hs)]
