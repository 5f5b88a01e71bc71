theorem e_aFrom {t nh nc nk ne nr nx ns n : Nat} {M' M : gM} (I : InvP t nh nc nk ne nr nx ns n M) (R : Rf M' M) (k : Int32) : f_X9_answerFrom M' k = rRet (asV M ne k) M' := by
  obtain ⟨-, ⟨b1, b2, b3, b4, b5, -⟩, l1, l2, l3, l4, l5, l6, l7, l8⟩ := I.1
  obtain ⟨-, -, -, -, -, d6, -, -, -, -, dS, dU⟩ := I.2.2.2.2.2.2.2.2.2.2.1
  have h23 : M' 9 23 = nI ne := (R.1 23 (by omega)).trans b5
  have e120 : M' 120 = M 55 := (R.2 120 (by omega)).trans I.2.2.2.2.2.2.2.2.2.2.1.1.1
  have e122 : M' 122 = M 57 := (R.2 122 (by omega)).trans I.2.2.2.2.2.2.2.2.2.2.1.1.2.2.1
  have e123 : M' 123 = M 58 := (R.2 123 (by omega)).trans I.2.2.2.2.2.2.2.2.2.2.1.1.2.2.2.1
  unfold f_X9_answerFrom
  rw [e_last9 I R, rb_ret, lv_ls I (by decide) (by decide)]
  have q := lp_fd0 (L := fun f s i => f_X9_answerFrom_l9 f M' k s i) (st := fun e s => if (decide (M 57 e = k) && beB M e) then nI e else s) (s0 := lsV M ne 0 k) (F := fun s => rRet s M') (n := ne) ?_ ?_ (by omega)
  · refine Eq.trans q ?_
    show rRet (fold (fun e s => if (decide (M 57 e = k) && beB M e) then nI e else s) (lsV M ne 0 k) ne) M' = _
    rw [fold_last (p := fun e => decide (M 57 e = k) && beB M e) (by omega)]
    refine congrArg (fun v => rRet v M') ?_
    rcases lastP_cases (fun e => decide (M 57 e = k) && beB M e) ne with ⟨h1, h2⟩ | ⟨e, h1, h2, h3, h4⟩
    · rw [h1, if_pos rfl]
      refine lastP_congr (fun e he => ?_)
      have z := h2 e he
      unfold asB
      cases c : decide (M 57 e = k) with
      | false => rw [Bool.and_false, Bool.false_and]
      | true =>
        rw [c, Bool.true_and] at z
        rw [z, Bool.or_false, Bool.and_true, Bool.true_and]
    · rw [h2, if_neg (m1_ne (by omega))]
      rw [Bool.and_eq_true] at h3
      refine Eq.symm (lastP_at h1 ?_ (fun i i1 i2 => ?_))
      · unfold asB
        rw [h3.1, h3.2, Bool.or_true]; rfl
      · have z := h4 i i1 i2
        unfold asB
        cases c : decide (M 57 i = k) with
        | false => rfl
        | true =>
          rw [c, Bool.true_and] at z
          rw [z, Bool.or_false, Bool.true_and]
          refine decide_eq_false (fun c0 => ?_)
          obtain ⟨s, s1, s2, s3⟩ := dS e h1 (by rcases beB_kd h3.2 with w | w <;> rw [w] <;> decide)
          have := dU s i (by omega) i2 s2 c0 (s3.trans ((of_decide_eq_true h3.1).trans (of_decide_eq_true c).symm))
          omega
  · intro g i hi
    show f_X9_answerFrom_lb9 _ M' k (fold _ _ i) (nI i) = f_X9_answerFrom_l9 g M' k (if (decide (M 57 i = k) && beB M i) then nI i else fold _ _ i) (nI (i + 1))
    generalize fold _ _ i = s
    have hg : ∀ F : gR, gI (nI i) 160 F = F := fun F => gI_nI (by omega) (by omega)
    have k96 : f_X9_answerFrom_b96 (f_X9_answerFrom_l9 g) M' k (nI i) = f_X9_answerFrom_l9 g M' k (nI i) (nI (i + 1)) := by
      unfold f_X9_answerFrom_b96
      simp only [bV]
      rw [nI_1]
    have k74 : ∀ a b : Bool, beB M i = (a || b) → f_X9_answerFrom_b74 (f_X9_answerFrom_l9 g) M' k s (nI i) (if a then 1 else 0) (if b then 1 else 0) = f_X9_answerFrom_l9 g M' k (if (decide (M 57 i = k) && beB M i) then nI i else s) (nI (i + 1)) := by
      intro a b hab
      unfold f_X9_answerFrom_b74
      rw [hg, nI_clamp (show i < 2 ^ 31 by omega), e122, k96, hab]
      simp only [bV]
      rw [nI_1]
      by_cases c : M 57 i = k
      · rw [if_pos c, decide_eq_true c]
        cases a <;> cases b <;> simp
      · rw [if_neg c, decide_eq_false c]
        rfl
    have k41 : ∀ a : Bool, decide (M 55 i = 4 ∧ M 58 i ≠ 0) = a → f_X9_answerFrom_b41 (f_X9_answerFrom_l9 g) M' k s (nI i) (if a then 1 else 0) = f_X9_answerFrom_l9 g M' k (if (decide (M 57 i = k) && beB M i) then nI i else s) (nI (i + 1)) := by
      intro a ha
      have k0 := k74 a false
      have k1 := k74 a true
      unfold f_X9_answerFrom_b41 f_X9_answerFrom_b73
      rw [hg, nI_clamp (show i < 2 ^ 31 by omega), hg, e120, e123]
      by_cases c6 : M 55 i = 6
      · obtain ⟨o, o1, o2, -⟩ := d6 i hi c6
        rw [if_pos c6, o2, gI_nI (show o < 160 by omega) (by omega), nI_clamp (show o < 2 ^ 31 by omega)]
        have hb : beB M i = (a || decide (M 55 o = 4)) := by
          unfold beB
          rw [ha, o2, nI_clamp (show o < 2 ^ 31 by omega)]
          by_cases c : M 55 o = 4
          · rw [decide_eq_true c, decide_eq_true ⟨c6, c⟩]
          · rw [decide_eq_false c, decide_eq_false (fun h => c h.2)]
        by_cases c : M 55 o = 4
        · rw [if_pos c]
          exact k1 (by rw [hb, decide_eq_true c])
        · rw [if_neg c]
          exact k0 (by rw [hb, decide_eq_false c])
      · rw [if_neg c6]
        refine k0 ?_
        unfold beB
        rw [ha, decide_eq_false (p := M 55 i = 6 ∧ _) (fun h => c6 h.1)]
    show f_X9_answerFrom_lb9 (f_X9_answerFrom_l9 g) M' k s (nI i) = _
    unfold f_X9_answerFrom_lb9 f_X9_answerFrom_b40
    rw [h23, if_neg (nI_ge (by omega) (by omega)), hg, nI_clamp (show i < 2 ^ 31 by omega), hg, e120, e123]
    by_cases c4 : M 55 i = 4
    · rw [if_pos c4]
      by_cases c0 : M 58 i = 0
      · rw [if_pos c0]
        exact k41 false (decide_eq_false (fun h => h.2 c0))
      · rw [if_neg c0]
        exact k41 true (decide_eq_true ⟨c4, c0⟩)
    · rw [if_neg c4]
      exact k41 false (decide_eq_false (fun h => c4 h.1))
  · intro g
    show f_X9_answerFrom_lb9 _ M' k (fold _ _ ne) (nI ne) = _
    unfold f_X9_answerFrom_lb9
    rw [h23, if_pos (nI_le (by omega) (by omega))]
/-- the entry with which the deadline for an appeal begins -/
def apV (M : gM) (ne : Nat) (k : Int32) : Int32 := if lsV M ne 5 k < lsV M ne 8 k then lsV M ne 8 k else lsV M ne 5 k
theorem e_apStart {M : gM} {ne : Nat} (h : M 4 0 = nI ne) (h5 : ne ≤ 160) (k : Int32) : f_X3_appealStart M k = rRet (apV M ne k) M := by
  unfold f_X3_appealStart apV
  rw [e_last8 h h5, rb_ret, e_last8 h h5, rb_ret]
theorem lv_J {t nh nc nk ne nr nx ns n : Nat} {M : gM} (I : InvP t nh nc nk ne nr nx ns n M) {k : Nat} (hk : k < nk) (h2 : M 51 k = 2 ∨ M 51 k = 3) : ∃ j, j < ne ∧ M 55 j = 5 ∧ M 57 j = nI k ∧ M 61 j = 0 ∧ lsV M ne 5 (nI k) = nI j ∧ lvV M ne 5 (nI k) = nI j ∧ (sFold (M 55) (M 56) (M 57) (M 58) (nI k) ne).2.2.1 = M 56 j ∧ (sFold (M 55) (M 56) (M 57) (M 58) (nI k) ne).2.1 = M 50 k := by
  obtain ⟨j0, j, j1, j2, j3, j4, j5, j6⟩ := I.2.2.2.2.2.2.2.2.2.2.2.2.2.2.1 k hk h2
  refine ⟨j, j1, j2, j3, j4, ?_, ?_, j5, j0⟩
  · refine lastP_at j1 (by rw [j2, j3]; simp) (fun i i1 i2 => ?_)
    cases c : decide (M 55 i = 5) with
    | false => rfl
    | true =>
      rw [Bool.true_and]
      exact decide_eq_false (fun h => j6 i i1 i2 ⟨of_decide_eq_true c, h⟩)
  · refine lastP_at j1 (by rw [j2, j3, j4]; simp) (fun i i1 i2 => ?_)
    cases c : decide (M 55 i = 5) with
    | false => rfl
    | true =>
      rw [Bool.true_and, decide_eq_false (fun h => j6 i i1 i2 ⟨of_decide_eq_true c, h⟩), Bool.false_and]
theorem ls_dom (M : gM) (ne : Nat) (K k : Int32) : lsV M ne K k = -1 ∨ ∃ e, e < ne ∧ lsV M ne K k = nI e ∧ M 55 e = K ∧ M 57 e = k ∧ ∀ i, e < i → i < ne → ¬ (M 55 i = K ∧ M 57 i = k) := by
  rcases lastP_cases (fun e => decide (M 55 e = K) && decide (M 57 e = k)) ne with ⟨h1, -⟩ | ⟨e, h1, h2, h3, h4⟩
  · exact Or.inl h1
  · rw [Bool.and_eq_true] at h3
    refine Or.inr ⟨e, h1, h2, of_decide_eq_true h3.1, of_decide_eq_true h3.2, fun i i1 i2 ⟨x, y⟩ => ?_⟩
    have := h4 i i1 i2
    rw [decide_eq_true x, decide_eq_true y] at this
    cases this
theorem nI_m1_lt' (e : Nat) (h : e < 2 ^ 31) : (-1 : Int32) < nI e := by
  rw [Int32.lt_iff_toInt_lt, nI_toInt h]
  show (-1 : Int) < _
  omega
theorem ap_dom {t nh nc nk ne nr nx ns n : Nat} {M : gM} (I : InvP t nh nc nk ne nr nx ns n M) {k : Nat} (hk : k < nk) (h2 : M 51 k = 2) : ∃ e, e < ne ∧ apV M ne (nI k) = nI e ∧ M 57 e = nI k ∧ (M 55 e = 5 ∨ M 55 e = 8) ∧ ∀ f, f < ne → M 57 f = nI k → (M 55 f = 5 ∨ M 55 f = 8) → f ≤ e := by
  obtain ⟨-, -, l1, l2, l3, l4, l5, l6, l7, l8⟩ := I.1
  obtain ⟨j, j1, j2, j3, j4, j5, -⟩ := lv_J I hk (Or.inl h2)
  have hl : ∀ f, f < ne → M 57 f = nI k → M 55 f = 5 → f ≤ j := by
    intro f f1 f2 f3
    rcases ls_dom M ne 5 (nI k) with h | ⟨e, e1, e2, e3, e4, e5⟩
    · rw [j5] at h
      exact absurd h (m1_ne (by omega))
    · have : e = j := (nI_eq (by omega) (by omega)).mp (e2.symm.trans j5)
      rcases Nat.lt_or_ge e f with q | q
      · exact absurd ⟨f3, f2⟩ (e5 f q f1)
      · omega
  unfold apV
  rw [j5]
  rcases ls_dom M ne 8 (nI k) with h | ⟨e, e1, e2, e3, e4, e5⟩
  · rw [h, if_neg (fun q => by
      have := Int32.lt_irrefl (a := nI j)
      exact this (Int32.lt_trans q (nI_m1_lt' j (by omega))))]
    refine ⟨j, j1, rfl, j3, Or.inl j2, fun f f1 f2 f3 => ?_⟩
    rcases f3 with f3 | f3
    · exact hl f f1 f2 f3
    · have := (show lsV M ne 8 (nI k) = -1 from h)
      rcases lastP_cases (fun e => decide (M 55 e = 8) && decide (M 57 e = nI k)) ne with ⟨-, w⟩ | ⟨e, w1, w2, -⟩
      · have w := w f f1
        rw [f3, f2] at w
        simp at w
      · exact absurd (w2.symm.trans h) (m1_ne (by omega))
  · have h8 : ∀ f, f < ne → M 57 f = nI k → M 55 f = 8 → f ≤ e := by
      intro f f1 f2 f3
      rcases Nat.lt_or_ge e f with q | q
      · exact absurd ⟨f3, f2⟩ (e5 f q f1)
      · exact q
    rw [e2]
    by_cases q : j < e
    · rw [if_pos (nI_lt q (by omega))]
      exact ⟨e, e1, rfl, e4, Or.inr e3, fun f f1 f2 f3 => f3.elim (fun f3 => by have := hl f f1 f2 f3; omega) (fun f3 => h8 f f1 f2 f3)⟩
    · rw [if_neg (nI_nlt (by omega) (by omega))]
      exact ⟨j, j1, rfl, j3, Or.inl j2, fun f f1 f2 f3 => f3.elim (fun f3 => hl f f1 f2 f3) (fun f3 => by have := h8 f f1 f2 f3; omega)⟩
theorem e_apFrom {t nh nc nk ne nr nx ns n : Nat} {M' M : gM} (I : InvP t nh nc nk ne nr nx ns n M) (R : Rf M' M) {k : Nat} (hk : k < nk) : f_X9_appealFrom M' (nI k) = rRet (if M 51 k = 2 then apV M ne (nI k) else -1) M' := by
  obtain ⟨-, -, l1, l2, l3, l4, l5, l6, l7, l8⟩ := I.1
  have e112 : M' 112 = M 51 := (R.2 112 (by omega)).trans I.2.2.2.2.2.1.1.2.2.2.1
  unfold f_X9_appealFrom
  rw [e_last9 I R, rb_ret, e_last9 I R, rb_ret, gI_nI (show k < 24 by omega) (by omega), nI_clamp (show k < 2 ^ 31 by omega), e112]
  by_cases h2 : M 51 k = 2
  · obtain ⟨j, j1, j2, j3, j4, j5, j6, -⟩ := lv_J I hk (Or.inl h2)
    rw [if_pos h2, if_pos h2, lv_ls I (K := 8) (by decide) (by decide), j6, ← j5]
    unfold apV
    by_cases q : lsV M ne 5 (nI k) < lsV M ne 8 (nI k)
    · rw [if_pos q, if_pos (Int32.le_of_lt q)]
    · rw [if_neg q]
      by_cases w : lsV M ne 5 (nI k) ≤ lsV M ne 8 (nI k)
      · rw [if_pos w, Int32.le_antisymm w (Int32.not_lt.mp q)]
      · rw [if_neg w]
  · rw [if_neg h2, if_neg h2]
