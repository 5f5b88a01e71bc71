theorem wk7 : ∀ d, d < 1402 → (5 ≤ nI d - nI d / 7 * 7 ↔ 5 ≤ d % 7) := by decide +kernel
theorem e_free9 {M : gM} {d : Nat} (hd : d < 1402) (hz : ∀ x, z01 (M 102 x)) : (free (M 102) d → f_X9_isFree M (nI d) = rRet 1 M) ∧ (¬ free (M 102) d → f_X9_isFree M (nI d) = rRet 0 M) := by
  have h7 := wk7 d hd
  have hu : f_X9_isFree M (nI d) = if 5 ≤ nI d - nI d / 7 * 7 then rRet 1 M else if 1000 < nI d then rRet 0 M else gI (nI d) 1001 (if M 102 (nI d).toNatClampNeg = 0 then rRet 0 M else rRet 1 M) := by
    unfold f_X9_isFree gNz
    rw [if_neg (by decide)]
  rw [hu, nI_clamp (show d < 2 ^ 31 by omega), show (1000 : Int32) = nI 1000 from by decide]
  unfold free
  by_cases h5 : 5 ≤ d % 7
  · rw [if_pos (h7.mpr h5)]
    exact ⟨fun _ => rfl, fun h => absurd (Or.inl h5) h⟩
  · rw [if_neg (fun h => h5 (h7.mp h))]
    by_cases h1 : d ≤ 1000
    · rw [if_neg (nI_nlt h1 (by omega)), gI_nI (by omega) (by omega)]
      rcases hz d with z | z
      · rw [z, if_pos rfl]
        exact ⟨fun h => by
          rcases h with h | ⟨-, h⟩
          · exact absurd h h5
          · exact absurd h (by decide), fun _ => rfl⟩
      · rw [z, if_neg i10]
        exact ⟨fun _ => rfl, fun h => absurd (Or.inr ⟨h1, rfl⟩) h⟩
    · rw [if_pos (nI_lt (by omega) (by omega))]
      exact ⟨fun h => by
        rcases h with h | ⟨h, -⟩
        · exact absurd h h5
        · exact absurd h h1, fun _ => rfl⟩
theorem e_free8 {M : gM} {d : Nat} (hd : d ≤ 1400) (h : bt (M 11 d) 8 = true ↔ free (M 102) d) : (free (M 102) d → f_X0_isFree M (nI d) = rRet 1 M) ∧ (¬ free (M 102) d → f_X0_isFree M (nI d) = rRet 0 M) := by
  unfold f_X0_isFree
  rw [gI_nI (show d < 1401 by omega) (by omega), nI_clamp (show d < 2 ^ 31 by omega)]
  have hm := b_mask (x := M 11 d) (m := 256) (n := 8) (by omega) b_256
  refine ⟨fun hf => ?_, fun hf => ?_⟩
  · rw [if_neg (fun q => by
      have := hm.mp q
      rw [h.mpr hf] at this
      cases this)]
  · rw [if_pos (hm.mpr (by
      cases hb : bt (M 11 d) 8 with
      | false => rfl
      | true => exact absurd (h.mp hb) hf))]
theorem l_isHol {M : gM} {a : Int32} {nh : Nat} (h : M 1 3 = nI nh) (h30 : nh ≤ 30) : ∀ (d i f : Nat), i + d = nh → d < f →
    ((∃ j, i ≤ j ∧ j < nh ∧ M 12 j = a) → f_X0_isHoliday_l2 f M a (nI i) = rRet 1 M) ∧ ((∀ j, i ≤ j → j < nh → M 12 j ≠ a) → f_X0_isHoliday_l2 f M a (nI i) = rRet 0 M) := by
  intro d
  induction d with
  | zero =>
    intro i f hi hf
    obtain ⟨g, rfl⟩ := fuel hf
    refine ⟨fun ⟨j, h1, h2, _⟩ => by omega, fun _ => ?_⟩
    show f_X0_isHoliday_lb2 _ M a (nI i) = _
    unfold f_X0_isHoliday_lb2
    rw [h, if_pos (nI_le (by omega) (by omega))]
  | succ d ih =>
    intro i f hi hf
    obtain ⟨g, rfl⟩ := fuel hf
    have hu : f_X0_isHoliday_l2 (g + 1) M a (nI i) = if M 12 i = a then rRet 1 M else f_X0_isHoliday_l2 g M a (nI (i + 1)) := by
      show f_X0_isHoliday_lb2 _ M a (nI i) = _
      unfold f_X0_isHoliday_lb2
      rw [h, if_neg (nI_ge (by omega) (by omega)), gI_nI (show i < 30 by omega) (by omega), nI_clamp (show i < 2 ^ 31 by omega)]
      show (if M 12 i = a then rRet 1 M else f_X0_isHoliday_l2 g M a (nI i + 1)) = _
      rw [nI_1]
    have hI := ih (i + 1) g (by omega) (by omega)
    refine ⟨fun ⟨j, h1, h2, h3⟩ => ?_, fun hno => ?_⟩
    · rw [hu]
      by_cases c : M 12 i = a
      · rw [if_pos c]
      · rw [if_neg c]
        have hj : j ≠ i := fun e => c (e ▸ h3)
        exact hI.1 ⟨j, by omega, h2, h3⟩
    · rw [hu, if_neg (hno i (Nat.le_refl i) (by omega))]
      exact hI.2 (fun j h1 h2 => hno j (by omega) h2)
theorem e_isHol {M : gM} {a : Int32} {nh : Nat} (h : M 1 3 = nI nh) (h30 : nh ≤ 30) : ((∃ j, j < nh ∧ M 12 j = a) → f_X0_isHoliday M a = rRet 1 M) ∧ ((∀ j, j < nh → M 12 j ≠ a) → f_X0_isHoliday M a = rRet 0 M) := by
  have k := l_isHol (a := a) h h30 nh 0 5000 (by omega) (by omega)
  rw [nI_0] at k
  exact ⟨fun ⟨j, h1, h2⟩ => k.1 ⟨j, Nat.zero_le j, h1, h2⟩, fun hn => k.2 (fun j _ h1 => hn j h1)⟩
