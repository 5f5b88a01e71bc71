/-! ===== due: the reference ===== -/
theorem as_dom (M : gM) (ne : Nat) (k : Int32) : asV M ne k = -1 ∨ ∃ e, e < ne ∧ asV M ne k = nI e ∧ M 57 e = k ∧ (M 55 e = 0 ∨ M 55 e = 4 ∨ M 55 e = 6) ∧ ∀ f, f < ne → asB M k f = true → f ≤ e := by
  rcases lastP_cases (asB M k) ne with ⟨h1, -⟩ | ⟨e, h1, h2, h3, h4⟩
  · exact Or.inl h1
  · refine Or.inr ⟨e, h1, h2, ?_, ?_, fun f f1 f2 => ?_⟩
    · unfold asB at h3
      rw [Bool.and_eq_true] at h3
      exact of_decide_eq_true h3.1
    · unfold asB at h3
      rw [Bool.and_eq_true, Bool.or_eq_true] at h3
      exact h3.2.elim (fun h => Or.inl (of_decide_eq_true h)) (fun h => Or.inr (beB_kd h))
    · rcases Nat.lt_or_ge e f with q | q
      · have := h4 f q f1
        rw [f2] at this
        cases this
      · exact q
theorem nI_le_m1 {e : Nat} (he : e < 2 ^ 31) : (-1 : Int32) < nI e := nI_m1_lt' e he
def adV (M : gM) (t ne : Nat) (k : Int32) : Int32 := if asV M ne k = -1 then -1 else if mopB M t ne k then -1 else duV M ne (asV M ne k).toNatClampNeg
theorem e_aDue {t nh nc nk ne nr nx ns n : Nat} {M' M : gM} (I : InvP t nh nc nk ne nr nx ns n M) (R : Rf M' M) (hn : n ≤ 512) {k : Nat} (hk : k < nk) : f_X9_answerDue M' (nI k) = rRet (adV M t ne (nI k)) M' := by
  obtain ⟨-, ⟨b1, b2, b3, b4, b5, -⟩, l1, l2, l3, l4, l5, l6, l7, l8⟩ := I.1
  have e120 : M' 120 = M 55 := (R.2 120 (by omega)).trans I.2.2.2.2.2.2.2.2.2.2.1.1.1
  have e121 : M' 121 = M 56 := (R.2 121 (by omega)).trans I.2.2.2.2.2.2.2.2.2.2.1.1.2.1
  have e123 : M' 123 = M 58 := (R.2 123 (by omega)).trans I.2.2.2.2.2.2.2.2.2.2.1.1.2.2.2.1
  have e109 : M' 109 = M 47 := (R.2 109 (by omega)).trans I.2.2.2.2.2.1.1.1
  have e125 : M' 125 = M 125 := R.2 125 (by omega)
  have e126 : M' 126 = M 126 := R.2 126 (by omega)
  have e116 : M' 116 = M 116 := R.2 116 (by omega)
  have e117 : M' 117 = M 117 := R.2 117 (by omega)
  have hk24 : ∀ F : gR, gI (nI k) 24 F = F := fun F => gI_nI (by omega) (by omega)
  unfold f_X9_answerDue adV
  rw [e_aFrom I R, rb_ret]
  rcases as_dom M ne (nI k) with h | ⟨e, h1, h2, h3, h4, h5⟩
  · rw [if_pos h, if_pos h]
  · have hne : ¬ asV M ne (nI k) = -1 := by rw [h2]; exact m1_ne (by omega)
    rw [if_neg hne, if_neg hne, e_mop9 I R, rb_ret]
    cases hm : mopB M t ne (nI k) with
    | true => rw [if_pos rfl, if_pos rfl, if_neg i10]
    | false =>
      have hg : ∀ F : gR, gI (nI e) 160 F = F := fun F => gI_nI (by omega) (by omega)
      have hce : (nI e).toNatClampNeg = e := nI_clamp (by omega)
      have hck : (nI k).toNatClampNeg = k := nI_clamp (by omega)
      have hkd : kdD (M 55 e) := by
        rcases h4 with h | h | h
        · exact Or.inl h
        · exact Or.inr (Or.inr (Or.inl h))
        · exact Or.inr (Or.inr (Or.inr (Or.inr (Or.inl h))))
      obtain ⟨g1, g2, g3, g4, g5, g6, g7, g8⟩ := I.2.2.2.2.2.2.2.2.2.2.2.2.1
      obtain ⟨⟨x, x1, x2, x3⟩, g64⟩ := g1 e h1 hkd
      obtain ⟨k', c, d, k1, c1, d1, e57, e47, e56⟩ := I.ent h1 (kdD_lt hkd)
      have : k' = k := (nI_eq (by omega) (by omega)).mp (e57.symm.trans h3)
      subst this
      have g4 := g4 k' hk e h1 h3 h4
      have hle : M 117 k' < nI e ∨ M 117 k' = nI e := by
        rcases g5 k' hk with q | ⟨f, f1, f2, f3, f4⟩
        · rw [q]; exact Or.inl (nI_le_m1 (by omega))
        · have hf : f ≤ e := by
            refine h5 f f1 ?_
            unfold asB beB
            rw [f3, decide_eq_true rfl, Bool.true_and]
            rcases f4 with f4 | f4 | f4
            · rw [decide_eq_true f4, Bool.true_or]
            · rw [decide_eq_true (p := M 55 f = 4 ∧ M 58 f ≠ 0) f4, Bool.true_or, Bool.or_true]
            · rw [decide_eq_true (p := M 55 f = 6 ∧ M 55 (M 58 f).toNatClampNeg = 4) f4, Bool.or_true, Bool.or_true]
          rw [f2]
          rcases Nat.lt_or_ge f e with w | w
          · exact Or.inl (nI_lt w (by omega))
          · exact Or.inr (congrArg nI (by omega))
      have e88 : ∀ t0 t1 : Int32, t0 + t1 = M 63 e → f_X9_answerDue_b88 M' (nI k') (nI e) t0 t1 = rRet (duV M ne e) M' := by
        intro t0 t1 ht
        unfold f_X9_answerDue_b88
        simp only [bV]
        rw [ht, hg, hg, hk24, hce, hck, e121, e126, e109, e56, x3, e47, e_dl9 I R (by omega) l5 c1 (by omega) x1 (by omega), rb_ret]
        unfold duV clC
        rw [e57, hck, e47, e56, x3, g64, nI_clamp (show c < 2 ^ 31 by omega), nI_clamp (show d < 2 ^ 31 by omega), nI_clamp (show x < 2 ^ 31 by omega)]
      have e67 : ∀ w : Int32, w = wayD (M 55) (M 58) e → f_X9_answerDue_b67 M' (nI k') (nI e) (M 125 e) w = rRet (duV M ne e) M' := by
        intro w hw
        unfold f_X9_answerDue_b67
        rw [hk24, hk24, hck, e116, e117]
        rcases hle with q | q
        · rw [if_neg (fun z => by rw [z] at q; exact Int32.lt_irrefl q)]
          exact e88 _ _ (by rw [Int32.add_zero, hw]; exact (g4.1 q).symm)
        · rw [if_pos q]
          exact e88 _ _ (by rw [hw]; exact (g4.2 q).symm)
      show (if (0 : Int32) = 0 then _ else _) = rRet (duV M ne (asV M ne (nI k')).toNatClampNeg) M'
      rw [if_pos rfl, h2, hg, hg, hce, e120, e123]
      unfold f_X9_answerDue_b40
      rw [hg, hg, hce, e125]
      by_cases c0 : M 55 e = 0
      · rw [if_pos c0]
        by_cases c1 : M 58 e = 1
        · rw [if_pos c1]
          exact e67 _ (by unfold wayD; rw [if_pos c0, if_pos c1])
        · rw [if_neg c1]
          by_cases c2 : M 58 e = 2
          · rw [if_pos c2]
            exact e67 _ (by unfold wayD; rw [if_pos c0, if_neg c1, if_pos c2])
          · rw [if_neg c2]
            exact e67 _ (by unfold wayD; rw [if_pos c0, if_neg c1, if_neg c2])
      · rw [if_neg c0, if_neg (by decide), if_neg (by decide)]
        exact e67 _ (by unfold wayD; rw [if_neg c0])
theorem e_rDue {t nh nc nk ne nr nx ns n : Nat} {M' M : gM} (I : InvP t nh nc nk ne nr nx ns n M) (R : Rf M' M) (hn : n ≤ 512) {m : Nat} (hm : m < ne) (h2 : M 55 m = 2) : f_X9_responseDue M' (nI m) = rRet (duV M ne m) M' := by
  obtain ⟨-, ⟨b1, b2, b3, b4, b5, -⟩, l1, l2, l3, l4, l5, l6, l7, l8⟩ := I.1
  have e121 : M' 121 = M 56 := (R.2 121 (by omega)).trans I.2.2.2.2.2.2.2.2.2.2.1.1.2.1
  have e122 : M' 122 = M 57 := (R.2 122 (by omega)).trans I.2.2.2.2.2.2.2.2.2.2.1.1.2.2.1
  have e109 : M' 109 = M 47 := (R.2 109 (by omega)).trans I.2.2.2.2.2.1.1.1
  have hg : ∀ F : gR, gI (nI m) 160 F = F := fun F => gI_nI (by omega) (by omega)
  obtain ⟨g1, g2, g3, -⟩ := I.2.2.2.2.2.2.2.2.2.2.2.2.1
  obtain ⟨⟨x, x1, x2, x3⟩, g64⟩ := g1 m hm (Or.inr (Or.inl h2))
  obtain ⟨k, c, d, k1, c1, d1, e57, e47, e56⟩ := I.ent hm (by rw [h2]; decide)
  unfold f_X9_responseDue
  rw [hg, hg, hg, hg, hg, nI_clamp (show m < 2 ^ 31 by omega), e122, e57, gI_nI (show k < 24 by omega) (by omega), nI_clamp (show k < 2 ^ 31 by omega), e121, e109, R.2 125 (by omega), R.2 126 (by omega), R.2 131 (by omega), ← g3 m hm h2, e56, x3, e47, e_dl9 I R (by omega) l5 c1 (by omega) x1 (by omega), rb_ret]
  unfold duV clC
  rw [e57, nI_clamp (show k < 2 ^ 31 by omega), e47, e56, x3, g64, nI_clamp (show c < 2 ^ 31 by omega), nI_clamp (show d < 2 ^ 31 by omega), nI_clamp (show x < 2 ^ 31 by omega)]
def epV (M : gM) (ne k : Nat) : Int32 := if M 51 k = 2 then duV M ne (apV M ne (nI k)).toNatClampNeg else -1
theorem e_apDue {t nh nc nk ne nr nx ns n : Nat} {M' M : gM} (I : InvP t nh nc nk ne nr nx ns n M) (R : Rf M' M) (hn : n ≤ 512) {k : Nat} (hk : k < nk) : f_X9_appealDue M' (nI k) = rRet (epV M ne k) M' := by
  obtain ⟨-, ⟨b1, b2, b3, b4, b5, -⟩, l1, l2, l3, l4, l5, l6, l7, l8⟩ := I.1
  have e121 : M' 121 = M 56 := (R.2 121 (by omega)).trans I.2.2.2.2.2.2.2.2.2.2.1.1.2.1
  have e109 : M' 109 = M 47 := (R.2 109 (by omega)).trans I.2.2.2.2.2.1.1.1
  have hk24 : ∀ F : gR, gI (nI k) 24 F = F := fun F => gI_nI (by omega) (by omega)
  have hck : (nI k).toNatClampNeg = k := nI_clamp (by omega)
  unfold f_X9_appealDue epV
  rw [e_apFrom I R hk, rb_ret]
  by_cases c2 : M 51 k = 2
  · rw [if_pos c2, if_pos c2]
    obtain ⟨e, h1, h2, h3, h4, h5⟩ := ap_dom I hk c2
    have hg : ∀ F : gR, gI (nI e) 160 F = F := fun F => gI_nI (by omega) (by omega)
    have hce : (nI e).toNatClampNeg = e := nI_clamp (by omega)
    have hkd : kdD (M 55 e) := by
      rcases h4 with h | h
      · exact Or.inr (Or.inr (Or.inr (Or.inl h)))
      · exact Or.inr (Or.inr (Or.inr (Or.inr (Or.inr h))))
    obtain ⟨g1, g2, g3, g4, g5, g6, g7, g8⟩ := I.2.2.2.2.2.2.2.2.2.2.2.2.1
    obtain ⟨⟨x, x1, x2, x3⟩, g64⟩ := g1 e h1 hkd
    obtain ⟨k', c, d, k1, c1, d1, e57, e47, e56⟩ := I.ent h1 (kdD_lt hkd)
    have : k' = k := (nI_eq (by omega) (by omega)).mp (e57.symm.trans h3)
    subst this
    have g6 := g6 k' hk e h1 h3 h4
    have e39 : ∀ t0 t1 : Int32, t0 + t1 = M 63 e → f_X9_appealDue_b39 M' (nI k') (nI e) t0 t1 = rRet (duV M ne e) M' := by
      intro t0 t1 ht
      unfold f_X9_appealDue_b39
      simp only [bV]
      rw [ht, hg, hg, hk24, hce, hck, e121, R.2 126 (by omega), e109, e56, x3, e47, e_dl9 I R (by omega) l5 c1 (by omega) x1 (by omega), rb_ret]
      unfold duV clC
      rw [e57, hck, e47, e56, x3, g64, nI_clamp (show c < 2 ^ 31 by omega), nI_clamp (show d < 2 ^ 31 by omega), nI_clamp (show x < 2 ^ 31 by omega)]
    rw [h2, if_neg (m1_ne (by omega)), hg, hk24, hk24, hce, hck, R.2 119 (by omega), R.2 118 (by omega), R.2 125 (by omega)]
    rcases g7 k' hk with q | ⟨f, f1, f2, f3, f4⟩
    · rw [q, if_neg (fun z => m1_ne (show e < 2 ^ 31 by omega) z.symm)]
      exact e39 _ _ (by rw [Int32.add_zero]; exact (g6.1 (by rw [q]; exact nI_le_m1 (by omega))).symm)
    · have hf := h5 f f1 f3 f4
      by_cases q : f = e
      · rw [f2, q, if_pos rfl]
        exact e39 _ _ (g6.2 (by rw [f2, q])).symm
      · rw [f2, if_neg (fun z => q ((nI_eq (by omega) (by omega)).mp z))]
        exact e39 _ _ (by rw [Int32.add_zero]; exact (g6.1 (by rw [f2]; exact nI_lt (by omega) (by omega))).symm)
  · rw [if_neg c2, if_neg c2, if_pos rfl]
