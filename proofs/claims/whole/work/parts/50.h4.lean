theorem st_isAdmitted : St_isAdmitted Inv := by
  intro n M a hn hI
  obtain ⟨t, nh, nc, nk, ne, nr, nx, ns, I⟩ := hI
  obtain ⟨⟨a1, a2, a3, a4, a5, a6, a7, a8⟩, ⟨b1, b2, b3, b4, b5, b6, b7⟩, l1, l2, l3, l4, l5, l6, l7, l8⟩ := I.1
  obtain ⟨x1, x2, x3, x4, x5⟩ := I.2.2.2.2.2.2.2.1
  rcases idx_cases a nx (by omega) with ⟨i, hi, rfl⟩ | hb
  · have hc : (nI i).toNatClampNeg = i := nI_clamp (by omega)
    have hg : ∀ F : gR, gI (nI i) 12 F = F := fun F => gI_nI (by omega) (by omega)
    obtain ⟨w, hw, hw1⟩ : ∃ w : Int32, z01 w ∧ (if M 85 i = 0 then (if M 86 (2 * i) = 1 ∨ M 86 (2 * i) = 2 ∨ M 86 (2 * i + 1) = 1 ∨ M 86 (2 * i + 1) = 2 then (0 : Int32) else 1) else 0) = w := by
      refine ⟨_, ?_, rfl⟩
      by_cases c : M 85 i = 0
      · rw [if_pos c]
        by_cases q : M 86 (2 * i) = 1 ∨ M 86 (2 * i) = 2 ∨ M 86 (2 * i + 1) = 1 ∨ M 86 (2 * i + 1) = 2
        · rw [if_pos q]
          exact Or.inl rfl
        · rw [if_neg q]
          exact Or.inr rfl
      · rw [if_neg c]
        exact Or.inl rfl
    have ko := l_opp2 (M := M) (i := i) (by omega) 4997
    have e8 : f_X8_isAdmitted M (nI i) = rRet w M := by
      unfold f_X8_isAdmitted
      rw [c8_Exhibit a7 hi l7, rb_ret, hg, hc, ← hw1]
      by_cases c : M 85 i = 0
      · rw [if_pos c, if_pos c]
        unfold f_X4_isOpposed
        rw [ko]
        by_cases q1 : M 86 (2 * i) = 1
        · rw [if_pos q1, if_pos (Or.inl q1), rb_ret, if_neg i10]
        · rw [if_neg q1]
          by_cases q2 : M 86 (2 * i) = 2
          · rw [if_pos q2, if_pos (Or.inr (Or.inl q2)), rb_ret, if_neg i10]
          · rw [if_neg q2]
            by_cases q3 : M 86 (2 * i + 1) = 1
            · rw [if_pos q3, if_pos (Or.inr (Or.inr (Or.inl q3))), rb_ret, if_neg i10]
            · rw [if_neg q3]
              by_cases q4 : M 86 (2 * i + 1) = 2
              · rw [if_pos q4, if_pos (Or.inr (Or.inr (Or.inr q4))), rb_ret, if_neg i10]
              · rw [if_neg q4, if_neg (fun h => by rcases h with h | h | h | h <;> contradiction), rb_ret, if_pos rfl]
      · rw [if_neg c, if_neg c]
    have k9 : ∀ M' : gM, M' 9 48 = nI nx → M' 144 = M 85 → M' 145 = M 86 → f_X9_isAdmitted M' (nI i) = rRet w (gset M' 9 0 0) := by
      intro M' h1 h2 h3
      unfold f_X9_isAdmitted
      rw [c9_Exhibit h1 hi l7, rb_ret, if_neg i10]
      unfold f_X9_isAdmitted_b14
      rw [rf_0, rb_ret, if_pos rfl, hg, hc]
      show (if M' 144 i = 0 then f_X9_isAdmitted_b36 (gset M' 9 0 0) (nI i) 1 else f_X9_isAdmitted_b36 (gset M' 9 0 0) (nI i) 0) = _
      have kl : ∀ v : Int32, z01 v → f_X9_isAdmitted_b36 (gset M' 9 0 0) (nI i) v = _ := fun v hv => l_adm9 (M := gset M' 9 0 0) (i := i) (by omega) 4997 v hv (by show ∀ j, isIx 4 (M' 145 j); rw [h3]; exact x5)
      rw [kl 1 (Or.inr rfl), kl 0 (Or.inl rfl), show (gset M' 9 0 0) 145 = M 86 from h3, h2, if_neg i10, if_pos rfl, ← hw1]
      by_cases c : M 85 i = 0
      · rw [if_pos c, if_pos c]
      · rw [if_neg c, if_neg c]
    refine agB_ok (v := w) (M1 := M) (M2 := gset (gset M 10 0 (gb w)) 9 0 0) ?_ ?_ rfl rfl (inv_rd I)
    · unfold f_L_isAdmitted
      rw [e8, rc_ret]
      rcases hw with q | q
      · rw [q]
        rfl
      · rw [q]
        rfl
    · exact k9 _ b7 x2 x3
  · refine agB_no (k := 1) ?_ (by decide) (b := 0) ?_ (inv_no I)
    · unfold f_L_isAdmitted f_X8_isAdmitted
      rw [n8_Exhibit a7 hb, rb_thr, rc_thr]
      rfl
    · unfold f_X9_isAdmitted
      rw [n9_Exhibit b7 l7 hb, rb_ret, if_pos rfl]
      unfold f_X9_isAdmitted_b14
      rw [rf_1, rb_ret, if_neg i10]
