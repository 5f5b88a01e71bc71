theorem ix8 (c s : Nat) : (8 : Int32) * nI c + nI s = nI (8 * c + s) := by
  rw [show (8 : Int32) = nI 8 from by decide, nI_mul, nI_add]
/-- where the next alternate is, and who -/
theorem e_next {M : gM} (G : Gjury (M 72) (M 73) (M 74) (M 83) (M 140) (M 141) (M 142)) {c : Nat} (hc : c < 8) :
    (f_X6_nextAlternate M (nI c) = rRet (-1) M ∧ M 142 (8 * c + 6) = -1 ∧ M 142 (8 * c + 7) = -1) ∨
    (∃ g, g < 2 ∧ M 72 c = nI 6 ∧ M 83 c = nI g ∧ f_X6_nextAlternate M (nI c) = rRet (M 142 (8 * c + (6 + g))) M ∧ M 142 (8 * c + (6 + g)) ≠ -1 ∧ ∀ s, 6 ≤ s → s < 6 + g → M 142 (8 * c + s) = -1) := by
  obtain ⟨k, hk, h72, -, -, h6, hd⟩ := G.2.2 c hc
  have hcc : (nI c).toNatClampNeg = c := nI_clamp (by omega)
  have hg : ∀ F : gR, gI (nI c) 8 F = F := fun F => gI_nI hc (by omega)
  have e6 : (6 : Int32) = nI 6 := by decide
  have e2 : (2 : Int32) = nI 2 := by decide
  by_cases q : k < 6
  · refine Or.inl ⟨?_, (h6 q).1 6 (by omega), (h6 q).1 7 (by omega)⟩
    unfold f_X6_nextAlternate f_X6_isDone
    rw [hg, hcc, h72, e6, if_pos (nI_lt q (by omega)), rb_ret, if_pos rfl]
  · obtain ⟨g, hg2, h83, h1, hn, hr, -⟩ := hd (by omega)
    by_cases q2 : g < 2
    · refine Or.inr ⟨g, q2, ?_, h83, ?_, ?_, hn⟩
      · rw [h72, show k = 6 by omega]
      · unfold f_X6_nextAlternate f_X6_isDone
        rw [hg, hcc, h72, e6, if_neg (nI_nlt (by omega) (by omega)), rb_ret, if_neg i10, hg, hg, hg, h83, e2, if_pos (nI_lt q2 (by omega)), nI_add, gI_nI (show 6 + g < 8 by omega) (by omega), nI_clamp (show 6 + g < 2 ^ 31 by omega), h1 (6 + g) (by omega) (Or.inr (Nat.le_refl _))]
      · rw [h1 (6 + g) (by omega) (Or.inr (Nat.le_refl _))]
        obtain ⟨x, hx, hxe⟩ := hr (6 + g) (by omega)
        rw [hxe]
        exact m1_ne (by omega)
    · refine Or.inl ⟨?_, hn 6 (by omega) (by omega), hn 7 (by omega) (by omega)⟩
      unfold f_X6_nextAlternate f_X6_isDone
      rw [hg, hcc, h72, e6, if_neg (nI_nlt (by omega) (by omega)), rb_ret, if_neg i10, hg, h83, e2, if_neg (nI_nlt (by omega) (by omega))]
