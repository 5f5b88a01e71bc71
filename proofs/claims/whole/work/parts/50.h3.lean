theorem l_opp2 {M : gM} {i : Nat} (hi : i < 12) (g : Nat) : f_X4_isOpposed_l2 (g + 3) M (nI i) 0 = (if M 86 (2 * i) = 1 then rRet 1 M else if M 86 (2 * i) = 2 then rRet 1 M else if M 86 (2 * i + 1) = 1 then rRet 1 M else if M 86 (2 * i + 1) = 2 then rRet 1 M else rRet 0 M) := by
  have hc : (nI i).toNatClampNeg = i := nI_clamp (by omega)
  have hg : ∀ F : gR, gI (nI i) 12 F = F := fun F => gI_nI hi (by omega)
  have h2 : ∀ f : Nat, f_X4_isOpposed_l2 (f + 1) M (nI i) 2 = rRet 0 M := by
    intro f
    show f_X4_isOpposed_lb2 _ M (nI i) 2 = _
    unfold f_X4_isOpposed_lb2
    rw [if_pos (by decide)]
  have hs : ∀ (f s : Nat), s < 2 → f_X4_isOpposed_l2 (f + 1) M (nI i) (nI s) = (if M 86 (2 * i + s) = 1 then rRet 1 M else if M 86 (2 * i + s) = 2 then rRet 1 M else f_X4_isOpposed_l2 f M (nI i) (nI (s + 1))) := by
    intro f s hs
    show f_X4_isOpposed_lb2 _ M (nI i) (nI s) = _
    unfold f_X4_isOpposed_lb2
    rw [show (2 : Int32) = nI 2 from by decide, if_neg (nI_ge (by omega) (by omega)), hg, gI_nI hs (by omega), hc, nI_clamp (show s < 2 ^ 31 by omega), show i * 2 + s = 2 * i + s by omega]
    show (if M 86 (2 * i + s) = 1 then rRet 1 M else if M 86 (2 * i + s) = nI 2 then rRet 1 M else f_X4_isOpposed_l2 f M (nI i) (nI s + 1)) = _
    rw [nI_1]
  have k0 := hs (g + 2) 0 (by omega)
  have k1 := hs (g + 1) 1 (by omega)
  rw [nI_0] at k0
  rw [show g + 3 = g + 2 + 1 from rfl, k0, show nI (0 + 1) = nI 1 from rfl, show g + 2 = g + 1 + 1 from rfl, k1, show nI (1 + 1) = (2 : Int32) from by decide, h2]
  rfl
theorem l_adm9 {M : gM} {i : Nat} (hi : i < 12) (g : Nat) (v : Int32) (hv : z01 v) (hx : ∀ j, isIx 4 (M 145 j)) : f_X9_isAdmitted_l39 (g + 3) M (nI i) v 0 = rRet (if v = 0 then 0 else if M 145 (2 * i) = 1 ∨ M 145 (2 * i) = 2 ∨ M 145 (2 * i + 1) = 1 ∨ M 145 (2 * i + 1) = 2 then 0 else 1) M := by
  have h2 : ∀ (f : Nat) (w : Int32), z01 w → f_X9_isAdmitted_l39 (f + 1) M (nI i) w 2 = rRet w M := by
    intro f w hw
    show f_X9_isAdmitted_lb39 _ M (nI i) w 2 = _
    unfold f_X9_isAdmitted_lb39
    rw [if_pos (by decide), z01_eq hw]
  have hs : ∀ (f s : Nat) (w : Int32), s < 2 → f_X9_isAdmitted_l39 (f + 1) M (nI i) w (nI s) = f_X9_isAdmitted_l39 f M (nI i) (if w = 0 then 0 else if M 145 (2 * i + s) = 1 ∨ M 145 (2 * i + s) = 2 then 0 else 1) (nI (s + 1)) := by
    intro f s w hs
    show f_X9_isAdmitted_lb39 _ M (nI i) w (nI s) = _
    unfold f_X9_isAdmitted_lb39
    rw [show (2 : Int32) = nI 2 from by decide, if_neg (nI_ge (by omega) (by omega))]
    by_cases c : w = 0
    · rw [if_pos c, if_pos c]
      show f_X9_isAdmitted_l39 f M (nI i) 0 (nI s + 1) = _
      rw [nI_1]
    · rw [if_neg c, if_neg c, show nI 2 * nI i + nI s = nI (2 * i + s) from by rw [nI_mul, nI_add], gI_nI (show 2 * i + s < 24 by omega) (by omega), nI_clamp (show 2 * i + s < 2 ^ 31 by omega)]
      unfold gNz
      rw [if_neg (by decide)]
      obtain ⟨x, hx4, hxe⟩ := hx (2 * i + s)
      rw [hxe]
      match x, hx4 with
      | 0, _ =>
        rw [if_pos (by decide), if_neg (by decide)]
        show f_X9_isAdmitted_l39 f M (nI i) 1 (nI s + 1) = _
        rw [nI_1]
      | 1, _ =>
        rw [if_neg (by decide), if_pos (by decide)]
        show f_X9_isAdmitted_l39 f M (nI i) 0 (nI s + 1) = _
        rw [nI_1]
      | 2, _ =>
        rw [if_neg (by decide), if_pos (by decide)]
        show f_X9_isAdmitted_l39 f M (nI i) 0 (nI s + 1) = _
        rw [nI_1]
      | 3, _ =>
        rw [if_pos (by decide), if_neg (by decide)]
        show f_X9_isAdmitted_l39 f M (nI i) 1 (nI s + 1) = _
        rw [nI_1]
      | y + 4, h => omega
  have k0 := hs (g + 2) 0 v (by omega)
  rw [nI_0] at k0
  rw [show g + 3 = g + 2 + 1 from rfl, k0, show nI (0 + 1) = nI 1 from rfl, show g + 2 = g + 1 + 1 from rfl, hs (g + 1) 1 _ (by omega), show nI (1 + 1) = (2 : Int32) from by decide, h2]
  · rw [Nat.add_zero]
    by_cases c : v = 0
    · simp [c]
    · by_cases p : M 145 (2 * i) = 1 ∨ M 145 (2 * i) = 2
      · rcases p with p | p <;> simp [c, p]
      · by_cases q : M 145 (2 * i + 1) = 1 ∨ M 145 (2 * i + 1) = 2
        · rcases q with q | q <;> simp [c, p, q]
        · simp only [not_or] at p q
          simp [c, p.1, p.2, q.1, q.2]
  · by_cases c : (if v = 0 then (0 : Int32) else if M 145 (2 * i + 0) = 1 ∨ M 145 (2 * i + 0) = 2 then 0 else 1) = 0
    · rw [if_pos c]
      exact Or.inl rfl
    · rw [if_neg c]
      by_cases q : M 145 (2 * i + 1) = 1 ∨ M 145 (2 * i + 1) = 2
      · rw [if_pos q]
        exact Or.inl rfl
      · rw [if_neg q]
        exact Or.inr rfl
