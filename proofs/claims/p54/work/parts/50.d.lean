/-- a number from l to h, or not -/
theorem rng_cases (a : Int32) (l h : Nat) (hh : h < 2 ^ 31) (hl : l < 2 ^ 31) : (∃ x, l ≤ x ∧ x ≤ h ∧ a = nI x) ∨ (a < nI l ∨ (¬ a < nI l ∧ nI h < a)) := by
  by_cases c : a < nI l
  · exact Or.inr (Or.inl c)
  · have h0 : ¬ a < 0 := fun q => c (Int32.lt_of_lt_of_le q (nI_pos' hl))
    obtain ⟨j, hj, rfl⟩ := nI_of h0
    have h1 : l ≤ j := by
      have h4 : ¬ j < l := fun q => c (nI_lt q hl)
      omega
    by_cases c2 : j ≤ h
    · exact Or.inl ⟨j, h1, c2, rfl⟩
    · exact Or.inr (Or.inr ⟨c, nI_lt (by omega) hj⟩)
theorem rg_ok {M : gM} {x l h : Nat} {L H : Int32} (eL : nI l = L) (eH : nI h = H) (h1 : l ≤ x) (h2 : x ≤ h) (hh : h < 2 ^ 31) : f_X9_within M (nI x) L H = rRet 1 M := by
  unfold f_X9_within
  rw [← eL, ← eH, if_neg (nI_nlt h1 (by omega)), if_neg (nI_nlt h2 (by omega))]
theorem rg_no {M : gM} {a : Int32} {l h : Nat} {L H : Int32} (eL : nI l = L) (eH : nI h = H) (hb : a < nI l ∨ (¬ a < nI l ∧ nI h < a)) : f_X9_within M a L H = rRet 0 M := by
  unfold f_X9_within
  rw [← eL, ← eH]
  rcases hb with h1 | ⟨h1, h2⟩
  · rw [if_pos h1]
  · rw [if_neg h1, if_pos h2]
theorem c8_Days {M : gM} {x : Nat} (h1 : 1 ≤ x) (h2 : x ≤ 60) : f_X8_checkDays M (nI x) = rRet 0 M := by
  unfold f_X8_checkDays
  rw [show (1 : Int32) = nI 1 from by decide, show (60 : Int32) = nI 60 from by decide, if_neg (nI_nlt h1 (by omega)), if_pos (nI_le h2 (by omega))]
theorem n8_Days {M : gM} {a : Int32} (hb : a < nI 1 ∨ (¬ a < nI 1 ∧ nI 60 < a)) : f_X8_checkDays M a = rThr 1 M := by
  unfold f_X8_checkDays
  rw [show (1 : Int32) = nI 1 from by decide, show (60 : Int32) = nI 60 from by decide]
  rcases hb with h1 | ⟨h1, h2⟩
  · rw [if_pos h1]
  · rw [if_neg h1, if_neg (Int32.not_le.mpr h2)]
theorem gb01 (x : Int32) : z01 (gb x) := by
  unfold gb z01
  by_cases h : x = 0
  · rw [if_pos h]; exact Or.inl rfl
  · rw [if_neg h]; exact Or.inr rfl
theorem gb_of {x : Int32} (h : z01 x) : gb x = x := by
  rcases h with rfl | rfl <;> rfl
theorem n_le {a b : Nat} (h : a ≤ b) (hb : b < 2 ^ 31) : (nI a ≤ nI b) = True := eq_true (nI_le h hb)
