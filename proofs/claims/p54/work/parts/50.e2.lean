theorem st_amountOf : St_amountOf Inv := by
  intro n M a hn hI
  obtain ⟨t, nh, nc, nk, ne, nr, nx, ns, I⟩ := hI
  obtain ⟨⟨a1, a2, a3, a4, a5, a6, a7, a8⟩, ⟨b1, b2, b3, b4, b5, b6, b7⟩, l1, l2, l3, l4, l5, l6, l7, l8⟩ := I.1
  obtain ⟨⟨e109, e110, e111, e112, e113, e114, e115⟩, -⟩ := I.2.2.2.2.2.1
  rcases idx_cases a nk (by omega) with ⟨i, hi, rfl⟩ | hb
  · have hc : (nI i).toNatClampNeg = i := nI_clamp (by omega)
    refine agI_ok (v := M 50 i) (M1 := M) (M2 := gset (gset M 10 0 (M 50 i)) 9 0 0) ?_ ?_ rfl rfl (inv_rd I)
    · unfold f_L_amountOf f_X8_amountOf
      rw [c8_Claim a4 hi (by omega), rb_ret, gI_nI (show i < 24 by omega) (by omega), rc_ret, hc]
    · unfold f_X9_amountOf
      rw [c9_Claim (M := gset M 10 0 (M 50 i)) b4 hi (by omega), rb_ret]
      show f_X9_amountOf_b14 _ _ 0 = _
      unfold f_X9_amountOf_b14
      rw [rf_0, rb_ret]
      show gI _ 24 _ = _
      rw [gI_nI (show i < 24 by omega) (by omega), hc]
      show rRet (M 113 i) _ = _
      rw [e113]
  · refine agI_no (k := 1) ?_ (by decide) (b := 0) ?_ (inv_no I)
    · unfold f_L_amountOf f_X8_amountOf
      rw [n8_Claim a4 hb, rb_thr, rc_thr]
      rfl
    · unfold f_X9_amountOf
      rw [n9_Claim b4 (by omega) hb, rb_ret]
      rfl
theorem st_caseOf : St_caseOf Inv := by
  intro n M a hn hI
  obtain ⟨t, nh, nc, nk, ne, nr, nx, ns, I⟩ := hI
  obtain ⟨⟨a1, a2, a3, a4, a5, a6, a7, a8⟩, ⟨b1, b2, b3, b4, b5, b6, b7⟩, l1, l2, l3, l4, l5, l6, l7, l8⟩ := I.1
  obtain ⟨⟨e109, e110, e111, e112, e113, e114, e115⟩, -⟩ := I.2.2.2.2.2.1
  rcases idx_cases a nk (by omega) with ⟨i, hi, rfl⟩ | hb
  · have hc : (nI i).toNatClampNeg = i := nI_clamp (by omega)
    refine agI_ok (v := M 47 i) (M1 := M) (M2 := gset (gset M 10 0 (M 47 i)) 9 0 0) ?_ ?_ rfl rfl (inv_rd I)
    · unfold f_L_caseOf f_X8_caseOf
      rw [c8_Claim a4 hi (by omega), rb_ret, gI_nI (show i < 24 by omega) (by omega), rc_ret, hc]
    · unfold f_X9_caseOf
      rw [c9_Claim (M := gset M 10 0 (M 47 i)) b4 hi (by omega), rb_ret]
      show f_X9_caseOf_b14 _ _ 0 = _
      unfold f_X9_caseOf_b14
      rw [rf_0, rb_ret]
      show gI _ 24 _ = _
      rw [gI_nI (show i < 24 by omega) (by omega), hc]
      show rRet (M 109 i) _ = _
      rw [e109]
  · refine agI_no (k := 1) ?_ (by decide) (b := 0) ?_ (inv_no I)
    · unfold f_L_caseOf f_X8_caseOf
      rw [n8_Claim a4 hb, rb_thr, rc_thr]
      rfl
    · unfold f_X9_caseOf
      rw [n9_Claim b4 (by omega) hb, rb_ret]
      rfl
theorem st_hearingAt : St_hearingAt Inv := by
  intro n M a hn hI
  obtain ⟨t, nh, nc, nk, ne, nr, nx, ns, I⟩ := hI
  obtain ⟨⟨a1, a2, a3, a4, a5, a6, a7, a8⟩, ⟨b1, b2, b3, b4, b5, b6, b7⟩, l1, l2, l3, l4, l5, l6, l7, l8⟩ := I.1
  obtain ⟨⟨e137, e138, e139⟩, -⟩ := I.2.2.2.2.2.2.1
  rcases idx_cases a nr (by omega) with ⟨i, hi, rfl⟩ | hb
  · have hc : (nI i).toNatClampNeg = i := nI_clamp (by omega)
    refine agI_ok (v := 10 * M 70 i + M 71 i) (M1 := M) (M2 := gset (gset M 10 0 (10 * M 70 i + M 71 i)) 9 0 0) ?_ ?_ rfl rfl (inv_rd I)
    · unfold f_L_hearingAt f_X8_hearingAt
      rw [c8_Hearing a6 hi (by omega), rb_ret, gI_nI (show i < 40 by omega) (by omega), gI_nI (show i < 40 by omega) (by omega), rc_ret, hc]
    · unfold f_X9_hearingAt
      show rb (f_X9_within _ _ 0 (M 9 41 - 1)) _ = _
      rw [b6, wit_ok hi (by omega), rb_ret]
      show f_X9_hearingAt_b20 _ _ 0 = _
      unfold f_X9_hearingAt_b20
      rw [rf_0, rb_ret]
      show gI _ 40 _ = _
      rw [gI_nI (show i < 40 by omega) (by omega), gI_nI (show i < 40 by omega) (by omega), hc]
      show rRet (10 * M 138 i + M 139 i) _ = _
      rw [e138, e139]
  · refine agI_no (k := 1) ?_ (by decide) (b := 0) ?_ (inv_no I)
    · unfold f_L_hearingAt f_X8_hearingAt
      rw [n8_Hearing a6 hb, rb_thr, rc_thr]
      rfl
    · unfold f_X9_hearingAt
      rw [b6, wit_no (by omega) hb, rb_ret]
      rfl
theorem nI_lit (j : Nat) {x : Int32} (h : nI j = x) (i : Nat) (hi : i < 2 ^ 31) (hj : j < 2 ^ 31) : nI i = x ↔ i = j := by
  rw [← h]
  exact nI_eq hi hj
theorem st_entryAt : St_entryAt Inv := by
  intro n M a b hn hI
  obtain ⟨t, nh, nc, nk, ne, nr, nx, ns, I⟩ := hI
  obtain ⟨⟨a1, a2, a3, a4, a5, a6, a7, a8⟩, ⟨b1, b2, b3, b4, b5, b6, b7⟩, l1, l2, l3, l4, l5, l6, l7, l8⟩ := I.1
  obtain ⟨⟨e120, e121, e122, e123, e124, e130⟩, -⟩ := I.2.2.2.2.2.2.2.2.2.2.1
  rcases idx_cases a ne (by omega) with ⟨i, hi, rfl⟩ | hb
  · have hc : (nI i).toNatClampNeg = i := nI_clamp (by omega)
    have hg : ∀ F : gR, gI (nI i) 160 F = F := fun F => gI_nI (show i < 160 by omega) (by omega)
    rcases idx_cases b 5 (by omega) with ⟨p, hp, rfl⟩ | hb
    · match p, hp with
      | 0, _ =>
        refine agI_ok (v := M 55 i) (M1 := M) (M2 := gset (gset M 10 0 (M 55 i)) 9 0 0) ?_ ?_ rfl rfl (inv_rd I)
        · unfold f_L_entryAt f_X8_entryAt
          rw [c8_Entry a5 hi (by omega), rb_ret]
          simp only [hg, hc, show (nI 0 : Int32) = 0 from by decide]
          rfl
        · unfold f_X9_entryAt
          rw [c9_Entry (M := gset M 10 0 (M 55 i)) b5 hi (by omega), rb_ret]
          rw [if_neg i10]
          rw [show (4 : Int32) = nI 5 - 1 from by decide, wit_ok (by omega) (by omega), rb_ret]
          show f_X9_entryAt_b23 _ _ _ 0 = _
          unfold f_X9_entryAt_b23
          rw [rf_0, rb_ret]
          simp only [hg, hc, show (nI 0 : Int32) = 0 from by decide]
          show rRet (M 120 i) _ = _
          rw [e120]
      | 1, _ =>
        refine agI_ok (v := M 56 i) (M1 := M) (M2 := gset (gset M 10 0 (M 56 i)) 9 0 0) ?_ ?_ rfl rfl (inv_rd I)
        · unfold f_L_entryAt f_X8_entryAt
          rw [c8_Entry a5 hi (by omega), rb_ret]
          simp only [hg, hc, show (nI 1 : Int32) = 1 from by decide]
          rfl
        · unfold f_X9_entryAt
          rw [c9_Entry (M := gset M 10 0 (M 56 i)) b5 hi (by omega), rb_ret]
          rw [if_neg i10]
          rw [show (4 : Int32) = nI 5 - 1 from by decide, wit_ok (by omega) (by omega), rb_ret]
          show f_X9_entryAt_b23 _ _ _ 0 = _
          unfold f_X9_entryAt_b23
          rw [rf_0, rb_ret]
          simp only [hg, hc, show (nI 1 : Int32) = 1 from by decide]
          show rRet (M 121 i) _ = _
          rw [e121]
      | 2, _ =>
        refine agI_ok (v := M 57 i) (M1 := M) (M2 := gset (gset M 10 0 (M 57 i)) 9 0 0) ?_ ?_ rfl rfl (inv_rd I)
        · unfold f_L_entryAt f_X8_entryAt
          rw [c8_Entry a5 hi (by omega), rb_ret]
          simp only [hg, hc, show (nI 2 : Int32) = 2 from by decide]
          rfl
        · unfold f_X9_entryAt
          rw [c9_Entry (M := gset M 10 0 (M 57 i)) b5 hi (by omega), rb_ret]
          rw [if_neg i10]
          rw [show (4 : Int32) = nI 5 - 1 from by decide, wit_ok (by omega) (by omega), rb_ret]
          show f_X9_entryAt_b23 _ _ _ 0 = _
          unfold f_X9_entryAt_b23
          rw [rf_0, rb_ret]
          simp only [hg, hc, show (nI 2 : Int32) = 2 from by decide]
          show rRet (M 122 i) _ = _
          rw [e122]
      | 3, _ =>
        refine agI_ok (v := M 58 i) (M1 := M) (M2 := gset (gset M 10 0 (M 58 i)) 9 0 0) ?_ ?_ rfl rfl (inv_rd I)
        · unfold f_L_entryAt f_X8_entryAt
          rw [c8_Entry a5 hi (by omega), rb_ret]
          simp only [hg, hc, show (nI 3 : Int32) = 3 from by decide]
          rfl
        · unfold f_X9_entryAt
          rw [c9_Entry (M := gset M 10 0 (M 58 i)) b5 hi (by omega), rb_ret]
          rw [if_neg i10]
          rw [show (4 : Int32) = nI 5 - 1 from by decide, wit_ok (by omega) (by omega), rb_ret]
          show f_X9_entryAt_b23 _ _ _ 0 = _
          unfold f_X9_entryAt_b23
          rw [rf_0, rb_ret]
          simp only [hg, hc, show (nI 3 : Int32) = 3 from by decide]
          show rRet (M 123 i) _ = _
          rw [e123]
      | 4, _ =>
        refine agI_ok (v := M 59 i) (M1 := M) (M2 := gset (gset M 10 0 (M 59 i)) 9 0 0) ?_ ?_ rfl rfl (inv_rd I)
        · unfold f_L_entryAt f_X8_entryAt
          rw [c8_Entry a5 hi (by omega), rb_ret]
          simp only [hg, hc, show (nI 4 : Int32) = 4 from by decide]
          rfl
        · unfold f_X9_entryAt
          rw [c9_Entry (M := gset M 10 0 (M 59 i)) b5 hi (by omega), rb_ret]
          rw [if_neg i10]
          rw [show (4 : Int32) = nI 5 - 1 from by decide, wit_ok (by omega) (by omega), rb_ret]
          show f_X9_entryAt_b23 _ _ _ 0 = _
          unfold f_X9_entryAt_b23
          rw [rf_0, rb_ret]
          simp only [hg, hc, show (nI 4 : Int32) = 4 from by decide]
          show rRet (M 124 i) _ = _
          rw [e124]
      | q + 5, h => omega
    · refine agI_no (k := 1) ?_ (by decide) (b := 0) ?_ (inv_no I)
      · unfold f_L_entryAt f_X8_entryAt
        rw [c8_Entry a5 hi (by omega), rb_ret]
        have hq : ∀ j : Nat, j < 5 → ∀ x : Int32, nI j = x → ¬ b = x := by
          intro j hj x hx e
          subst hx
          subst e
          rcases hb with h | ⟨h, h2⟩
          · exact nI_pos (by omega) h
          · exact h2 (nI_lt hj (by omega))
        rw [if_neg (hq 0 (by omega) 0 (by decide)), if_neg (hq 1 (by omega) 1 (by decide)), if_neg (hq 2 (by omega) 2 (by decide)), if_neg (hq 3 (by omega) 3 (by decide)), if_neg (hq 4 (by omega) 4 (by decide)), rc_thr]
        rfl
      · unfold f_X9_entryAt
        rw [c9_Entry b5 hi (by omega), rb_ret]
        rw [if_neg i10]
        rw [show (4 : Int32) = nI 5 - 1 from by decide, wit_no (by omega) hb, rb_ret]
        rfl
  · refine agI_no (k := 1) ?_ (by decide) (b := 0) ?_ (inv_no I)
    · unfold f_L_entryAt f_X8_entryAt
      rw [n8_Entry a5 hb, rb_thr, rc_thr]
      rfl
    · unfold f_X9_entryAt
      rw [n9_Entry b5 (by omega) hb, rb_ret]
      rfl
