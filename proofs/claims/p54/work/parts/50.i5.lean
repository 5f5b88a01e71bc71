/-! ===== what is due, what counts ===== -/
def clC (M : gM) (e : Nat) : Nat := (M 47 (M 57 e).toNatClampNeg).toNatClampNeg
def duV (M : gM) (ne e : Nat) : Int32 := dlM M ne (clC M e) (M 56 e).toNatClampNeg (M 63 e).toNatClampNeg (M 64 e)
def cuV (M : gM) (ne e : Nat) : Int32 := dlM M ne (clC M e) (M 65 e).toNatClampNeg (M 66 e).toNatClampNeg (M 67 e)
def paV (t : Nat) (v : Int32) : Int32 := if v = -1 then 0 else if nI t ≤ v then 0 else 1
def cnV (M : gM) (t ne e : Nat) : Int32 := if M 65 e = -1 then 1 else if M 68 e = 0 then (if paV t (cuV M ne e) = 0 then 1 else 0) else 1
/-- kinds with which a deadline begins -/
def kdD (x : Int32) : Prop := x = 0 ∨ x = 2 ∨ x = 4 ∨ x = 5 ∨ x = 6 ∨ x = 8
theorem InvP.ent {t nh nc nk ne nr nx ns n : Nat} {M : gM} (I : InvP t nh nc nk ne nr nx ns n M) {e : Nat} (he : e < ne) (hk : M 55 e < 11) : ∃ k c d, k < nk ∧ c < nc ∧ d ≤ t ∧ M 57 e = nI k ∧ M 47 k = nI c ∧ M 56 e = nI d := by
  obtain ⟨k, d, h1, h2, h3, h4, h5, h6⟩ := I.2.2.2.2.2.2.2.2.2.2.1.2.1 e he
  have : k < 11 := by
    rw [h3, show (11 : Int32) = nI 11 from by decide] at hk
    exact (nI_ltI (by omega) (by omega)).mp hk
  obtain ⟨i, hi, e2⟩ := h6 this
  obtain ⟨c, p, q, c1, -, -, -, c2, -⟩ := I.2.2.2.2.2.1.2.1 i hi
  exact ⟨i, c, d, hi, c1, h2, e2, c2, h4⟩
theorem kdD_lt {x : Int32} (h : kdD x) : x < 11 := by
  rcases h with h | h | h | h | h | h <;> rw [h] <;> decide
theorem e_past8 {M : gM} {t : Nat} {v : Int32} (h : M 1 0 = nI t) : f_X0_isPast M v = rRet (paV t v) M := by
  unfold f_X0_isPast paV
  rw [h]
  by_cases c : v = -1
  · rw [if_pos c, if_pos c]
  · rw [if_neg c, if_neg c]
    by_cases c2 : nI t ≤ v
    · rw [if_pos c2, if_pos c2]
    · rw [if_neg c2, if_neg c2]
theorem e_past9 {M : gM} {t : Nat} {v : Int32} (h : M 9 1 = nI t) : f_X9_isBehind M v = rRet (paV t v) M := by
  unfold f_X9_isBehind paV
  rw [h]
  by_cases c : v = -1
  · rw [if_pos c, if_pos c]
  · rw [if_neg c, if_neg c]
    by_cases c2 : nI t ≤ v
    · rw [if_pos c2, if_pos c2]
    · rw [if_neg c2, if_neg c2]
theorem paV_z (t : Nat) (v : Int32) : z01 (paV t v) := by
  unfold paV
  by_cases c : v = -1
  · rw [if_pos c]; exact Or.inl rfl
  · rw [if_neg c]
    by_cases c2 : nI t ≤ v
    · rw [if_pos c2]; exact Or.inl rfl
    · rw [if_neg c2]; exact Or.inr rfl
theorem e_due8 {t nh nc nk ne nr nx ns n : Nat} {M : gM} (I : InvP t nh nc nk ne nr nx ns n M) (hn : n ≤ 512) {e : Nat} (he : e < ne) (hk : kdD (M 55 e)) : f_X8_dueFrom M (nI e) = rRet (duV M ne e) M := by
  obtain ⟨-, -, l1, l2, l3, l4, l5, l6, l7, l8⟩ := I.1
  obtain ⟨k, c, d, h1, h2, h3, h4, h5, h6⟩ := I.ent he (kdD_lt hk)
  obtain ⟨⟨x, x1, x2, x3⟩, -⟩ := I.2.2.2.2.2.2.2.2.2.2.2.2.1.1 e he hk
  have hg : ∀ F : gR, gI (nI e) 160 F = F := fun F => gI_nI (by omega) (by omega)
  have hc : clC M e = c := by
    unfold clC
    rw [h4, nI_clamp (by omega), h5, nI_clamp (by omega)]
  unfold f_X8_dueFrom duV
  rw [hg, nI_clamp (show e < 2 ^ 31 by omega), h4, gI_nI (show k < 24 by omega) (by omega), nI_clamp (show k < 2 ^ 31 by omega), h5, e_marks (by omega), rb_ret, hg, hg, hg, h6, x3, e_dl8 I (by omega) h2 (by omega) (by omega), rb_ret, hc, nI_clamp (show d < 2 ^ 31 by omega), nI_clamp (show x < 2 ^ 31 by omega)]
theorem e_cure8 {t nh nc nk ne nr nx ns n : Nat} {M : gM} (I : InvP t nh nc nk ne nr nx ns n M) {e : Nat} (he : e < ne) (hk : ¬ M 65 e = -1) : f_X8_cureDue M (nI e) = rRet (cuV M ne e) M := by
  obtain ⟨-, -, l1, l2, l3, l4, l5, l6, l7, l8⟩ := I.1
  obtain ⟨⟨v1, v2, v3⟩, v4, v5, v6⟩ := I.2.2.2.2.2.2.2.2.2.2.2.1
  rcases (v5 e he).2 with q | ⟨⟨b, b1, b2⟩, b3, x, x1, x2, x3⟩
  · exact absurd q hk
  · obtain ⟨k, c, d, h1, h2, h3, h4, h5, h6⟩ := I.ent he (by rcases b3 with h | h | h <;> rw [h] <;> decide)
    have hg : ∀ F : gR, gI (nI e) 160 F = F := fun F => gI_nI (by omega) (by omega)
    have hc : clC M e = c := by
      unfold clC
      rw [h4, nI_clamp (by omega), h5, nI_clamp (by omega)]
    unfold f_X8_cureDue cuV
    rw [hg, nI_clamp (show e < 2 ^ 31 by omega), h4, gI_nI (show k < 24 by omega) (by omega), nI_clamp (show k < 2 ^ 31 by omega), h5, e_marks (by omega), rb_ret, hg, hg, hg, b2, x3, e_dl8 I (by omega) h2 (by omega) (by omega), rb_ret, hc, nI_clamp (show b < 2 ^ 31 by omega), nI_clamp (show x < 2 ^ 31 by omega)]
theorem e_cure9 {t nh nc nk ne nr nx ns n : Nat} {M' M : gM} (I : InvP t nh nc nk ne nr nx ns n M) (R : Rf M' M) {e : Nat} (he : e < ne) : f_X9_cureOf M' (nI e) = rRet (if M 65 e = -1 then -1 else cuV M ne e) M' := by
  obtain ⟨-, -, l1, l2, l3, l4, l5, l6, l7, l8⟩ := I.1
  obtain ⟨⟨v1, v2, v3⟩, v4, v5, v6⟩ := I.2.2.2.2.2.2.2.2.2.2.2.1
  have hg : ∀ F : gR, gI (nI e) 160 F = F := fun F => gI_nI (by omega) (by omega)
  have e122 : M 122 = M 57 := I.2.2.2.2.2.2.2.2.2.2.1.1.2.2.1
  have e109 : M 109 = M 47 := I.2.2.2.2.2.1.1.1
  unfold f_X9_cureOf
  rw [hg, nI_clamp (show e < 2 ^ 31 by omega), R.2 132 (by omega), (v5 e he).1]
  rcases (v5 e he).2 with q | ⟨⟨b, b1, b2⟩, b3, x, x1, x2, x3⟩
  · rw [if_pos q, q, if_pos (by decide)]
  · have nb : ¬ nI b = -1 := m1_ne (by omega)
    obtain ⟨k, c, d, h1, h2, h3, h4, h5, h6⟩ := I.ent he (by rcases b3 with h | h | h <;> rw [h] <;> decide)
    have hc : clC M e = c := by
      unfold clC
      rw [h4, nI_clamp (by omega), h5, nI_clamp (by omega)]
    unfold cuV
    rw [b2, if_neg nb, nI_1, if_neg (nI_ne0 (by omega) (by omega)), nI_pred, hg, hg, hg, hg, R.2 122 (by omega), e122, h4, gI_nI (show k < 24 by omega) (by omega), nI_clamp (show k < 2 ^ 31 by omega), R.2 109 (by omega), e109, h5, R.2 133 (by omega), R.2 134 (by omega), v1, v2, x3, e_dl9 I R (by omega) l5 h2 (by omega) x1 (by omega), rb_ret, hc, nI_clamp (show b < 2 ^ 31 by omega), nI_clamp (show x < 2 ^ 31 by omega)]
theorem e_hasD {M : gM} {e : Nat} (he : e < 160) : f_X3_hasDefect M (nI e) = rRet (if M 65 e = -1 then 0 else 1) M := by
  unfold f_X3_hasDefect
  rw [gI_nI he (by omega), nI_clamp (by omega)]
  by_cases c : M 65 e = -1
  · rw [if_pos c, if_pos c]
  · rw [if_neg c, if_neg c]
theorem cnV_z {M : gM} {t ne e : Nat} : z01 (cnV M t ne e) := by
  unfold cnV
  by_cases c : M 65 e = -1
  · rw [if_pos c]; exact Or.inr rfl
  · rw [if_neg c]
    by_cases c : M 68 e = 0
    · rw [if_pos c]
      by_cases c : paV t (cuV M ne e) = 0
      · rw [if_pos c]; exact Or.inr rfl
      · rw [if_neg c]; exact Or.inl rfl
    · rw [if_neg c]; exact Or.inr rfl
theorem e_cnt8 {t nh nc nk ne nr nx ns n : Nat} {M : gM} (I : InvP t nh nc nk ne nr nx ns n M) {e : Nat} (he : e < ne) : f_X8_isCounting M (nI e) = rRet (cnV M t ne e) M := by
  obtain ⟨⟨a1, -⟩, -, l1, l2, l3, l4, l5, l6, l7, l8⟩ := I.1
  have hg : ∀ F : gR, gI (nI e) 160 F = F := fun F => gI_nI (by omega) (by omega)
  unfold f_X8_isCounting cnV
  rw [e_hasD (by omega), rb_ret]
  by_cases c : M 65 e = -1
  · rw [if_pos c, if_pos rfl, if_pos c]
  · rw [if_neg c, if_neg i10, if_neg c, hg, nI_clamp (show e < 2 ^ 31 by omega), e_cure8 I he c, rb_ret, e_past8 a1, rb_ret]
    by_cases c2 : M 68 e = 0
    · rw [if_pos c2, if_pos c2]
      by_cases c3 : paV t (cuV M ne e) = 0
      · rw [if_pos c3, if_pos c3]
      · rw [if_neg c3, if_neg c3]
    · rw [if_neg c2, if_neg c2]
theorem e_cnt9 {t nh nc nk ne nr nx ns n : Nat} {M' M : gM} (I : InvP t nh nc nk ne nr nx ns n M) (R : Rf M' M) {e : Nat} (he : e < ne) : f_X9_isCounted M' (nI e) = rRet (cnV M t ne e) M' := by
  obtain ⟨-, ⟨b1, -⟩, l1, l2, l3, l4, l5, l6, l7, l8⟩ := I.1
  obtain ⟨⟨v1, v2, v3⟩, v4, v5, v6⟩ := I.2.2.2.2.2.2.2.2.2.2.2.1
  have hg : ∀ F : gR, gI (nI e) 160 F = F := fun F => gI_nI (by omega) (by omega)
  have h0 : M' 132 e = 0 ↔ M 65 e = -1 := by
    rw [R.2 132 (by omega), (v5 e he).1]
    rcases (v5 e he).2 with q | ⟨⟨b, b1, b2⟩, -⟩
    · rw [q]; exact ⟨fun _ => rfl, fun _ => by decide⟩
    · rw [b2, nI_1]
      exact ⟨fun q => absurd q (nI_ne0 (by omega) (by omega)), fun q => absurd q (m1_ne (by omega))⟩
  unfold f_X9_isCounted cnV
  rw [hg, nI_clamp (show e < 2 ^ 31 by omega)]
  by_cases c : M 65 e = -1
  · rw [if_pos (h0.mpr c), if_pos c]
  · rw [if_neg (fun q => c (h0.mp q)), if_neg c, hg, e_cure9 I R he, rb_ret, if_neg c, e_past9 ((R.1 1 (by omega)).trans b1), rb_ret, R.2 135 (by omega), v3]
    by_cases c2 : M 68 e = 0
    · rw [if_pos c2, if_pos c2]
      by_cases c3 : paV t (cuV M ne e) = 0
      · rw [if_pos c3, if_pos c3]
      · rw [if_neg c3, if_neg c3]
    · rw [if_neg c2, if_neg c2]
