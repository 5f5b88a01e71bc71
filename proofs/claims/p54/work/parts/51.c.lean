/-! ===== what the wrappers answer ===== -/
theorem IE.of {n t nk ne ns : Nat} {M1 : gM} (hI : Inv n M1) (c1 : M1 1 0 = nI t) (c2 : M1 2 0 = nI 2) (c3 : M1 3 0 = nI nk) (c4 : M1 4 0 = nI ne) (c8 : M1 8 0 = nI ns) (ht : t ≤ 900) (hnk : nk ≤ 24) (hne : ne ≤ 160) (hns : ns ≤ 512) (hn : n ≤ 512) (hE : Ex t nk ne ns M1) : IE n t nk ne ns M1 := by
  obtain ⟨t', nh', nc', nk', ne', nr', nx', ns', I⟩ := hI
  have I0 := I
  obtain ⟨⟨⟨a1, a2, a3, a4, a5, a6, a7, a8⟩, -, l1, l2, l3, l4, l5, l6, l7, l8⟩, -⟩ := I0
  have x1 : t' = t := (nI_eq (by omega) (by omega)).mp (a1.symm.trans c1)
  have x2 : nc' = 2 := (nI_eq (by omega) (by omega)).mp (a3.symm.trans c2)
  have x3 : nk' = nk := (nI_eq (by omega) (by omega)).mp (a4.symm.trans c3)
  have x4 : ne' = ne := (nI_eq (by omega) (by omega)).mp (a5.symm.trans c4)
  have x5 : ns' = ns := (nI_eq (by omega) (by omega)).mp (a8.symm.trans c8)
  subst x1 x2 x3 x4 x5
  exact ⟨⟨nh', nr', nx', I⟩, hE⟩
theorem IE.up {n t nk ne ns : Nat} {M : gM} (h : IE n t nk ne ns M) : IE (n + 1) t nk ne ns M := by
  obtain ⟨⟨nh, nr, nx, I⟩, hE⟩ := h
  exact ⟨⟨nh, nr, nx, I.up⟩, hE⟩
section QA
variable {t nh nc nk ne nr nx ns n : Nat} {M : gM}
theorem q_stateOf (I : InvP t nh nc nk ne nr nx ns n M) {k : Nat} (hk : k < nk) : f_W_stateOf M (nI k) = qRet (M 51 k).toInt64 M := by
  obtain ⟨⟨a1, a2, a3, a4, a5, a6, a7, a8⟩, -, l1, l2, l3, l4, l5, l6, l7, l8⟩ := I.1
  refine r_stateOf ?_
  unfold f_X8_stateOf
  rw [c8_Claim a4 hk (by omega), rb_ret, gI_nI (show k < 24 by omega) (by omega), nI_clamp (show k < 2 ^ 31 by omega)]
theorem q_amountOf (I : InvP t nh nc nk ne nr nx ns n M) {k : Nat} (hk : k < nk) : f_W_amountOf M (nI k) = qRet (M 50 k).toInt64 M := by
  obtain ⟨⟨a1, a2, a3, a4, a5, a6, a7, a8⟩, -, l1, l2, l3, l4, l5, l6, l7, l8⟩ := I.1
  refine r_amountOf ?_
  unfold f_X8_amountOf
  rw [c8_Claim a4 hk (by omega), rb_ret, gI_nI (show k < 24 by omega) (by omega), nI_clamp (show k < 2 ^ 31 by omega)]
theorem q_caseOf (I : InvP t nh nc nk ne nr nx ns n M) {k : Nat} (hk : k < nk) : f_W_caseOf M (nI k) = qRet (M 47 k).toInt64 M := by
  obtain ⟨⟨a1, a2, a3, a4, a5, a6, a7, a8⟩, -, l1, l2, l3, l4, l5, l6, l7, l8⟩ := I.1
  refine r_caseOf ?_
  unfold f_X8_caseOf
  rw [c8_Claim a4 hk (by omega), rb_ret, gI_nI (show k < 24 by omega) (by omega), nI_clamp (show k < 2 ^ 31 by omega)]
theorem q_balance (I : InvP t nh nc nk ne nr nx ns n M) {k : Nat} (hk : k < nk) : f_W_balance M (nI k) = qRet (blV M t ne k).toInt64 M := by
  obtain ⟨⟨a1, a2, a3, a4, a5, a6, a7, a8⟩, -, l1, l2, l3, l4, l5, l6, l7, l8⟩ := I.1
  refine r_balance ?_
  unfold f_X8_balance
  rw [c8_Claim a4 hk (by omega), rb_ret, e_bal8 I hk, rb_ret]
theorem q_stateByDocket (I : InvP t nh nc nk ne nr nx ns n M) {k : Nat} (hk : k < nk) : f_W_stateByDocket M (nI k) = qRet (M 51 k).toInt64 M := by
  obtain ⟨⟨a1, a2, a3, a4, a5, a6, a7, a8⟩, -, l1, l2, l3, l4, l5, l6, l7, l8⟩ := I.1
  refine r_stateByDocket ?_
  unfold f_X8_stateByDocket
  rw [c8_Claim a4 hk (by omega), rb_ret]
  rw [e_byDocket a5 l5, (I.2.2.2.2.2.2.2.2.2.2.2.2.2.1 k (by omega)).1]
theorem q_answered (I : InvP t nh nc nk ne nr nx ns n M) {k : Nat} (hk : k < nk) : f_W_answered M (nI k) = qRet (if ansB M t ne (nI k) then 1 else 0) M := by
  obtain ⟨⟨a1, a2, a3, a4, a5, a6, a7, a8⟩, -, l1, l2, l3, l4, l5, l6, l7, l8⟩ := I.1
  have h : f_X8_isAnswered M (nI k) = rRet (if ansB M t ne (nI k) then 1 else 0) M := by
    unfold f_X8_isAnswered
    rw [c8_Claim a4 hk (by omega), rb_ret, e_ans8 I, rb_ret, z01_eq (bB _)]
  rw [r_answered h]
  cases ansB M t ne (nI k) <;> rfl
theorem q_due0 (I : InvP t nh nc nk ne nr nx ns n M) (hn : n ≤ 512) {k : Nat} (hk : k < nk) : f_W_due M 0 (nI k) = qRet (adV M t ne (nI k)).toInt64 M := r_due (due0 I hn hk).1
theorem q_day0 (I : InvP t nh nc nk ne nr nx ns n M) (hn : n ≤ 512) {k : Nat} (hk : k < nk) : f_W_dueByDays M 0 (nI k) = qRet (adV M t ne (nI k)).toInt64 M := r_dueByDays (due0 I hn hk).2
theorem q_due2 (I : InvP t nh nc nk ne nr nx ns n M) (hn : n ≤ 512) {k : Nat} (hk : k < nk) : f_W_due M 2 (nI k) = qRet (epV M ne k).toInt64 M := r_due (due2 I hn hk).1
theorem q_day2 (I : InvP t nh nc nk ne nr nx ns n M) (hn : n ≤ 512) {k : Nat} (hk : k < nk) : f_W_dueByDays M 2 (nI k) = qRet (epV M ne k).toInt64 M := r_dueByDays (due2 I hn hk).2
theorem q_due3 (I : InvP t nh nc nk ne nr nx ns n M) (hn : n ≤ 512) {i : Nat} (hi : i < ne) : f_W_due M 3 (nI i) = qRet (if M 65 i = -1 then -1 else cuV M ne i).toInt64 M := r_due (due3 I hn hi)
theorem q_at (I : InvP t nh nc nk ne nr nx ns n M) {e : Nat} (he : e < ne) : f_W_entryAt M (nI e) 0 = qRet (M 55 e).toInt64 M ∧ f_W_entryAt M (nI e) 1 = qRet (M 56 e).toInt64 M ∧ f_W_entryAt M (nI e) 2 = qRet (M 57 e).toInt64 M ∧ f_W_entryAt M (nI e) 3 = qRet (M 58 e).toInt64 M ∧ f_W_entryAt M (nI e) 4 = qRet (M 59 e).toInt64 M := by
  obtain ⟨⟨a1, a2, a3, a4, a5, a6, a7, a8⟩, -, l1, l2, l3, l4, l5, l6, l7, l8⟩ := I.1
  have hg : ∀ F : gR, gI (nI e) 160 F = F := fun F => gI_nI (by omega) (by omega)
  have hc : (nI e).toNatClampNeg = e := nI_clamp (by omega)
  refine ⟨r_entryAt ?_, r_entryAt ?_, r_entryAt ?_, r_entryAt ?_, r_entryAt ?_⟩
  · unfold f_X8_entryAt
    rw [c8_Entry a5 he (by omega), rb_ret, if_pos rfl, hg, hc]
  · unfold f_X8_entryAt
    rw [c8_Entry a5 he (by omega), rb_ret, if_neg (by decide), if_pos rfl, hg, hc]
  · unfold f_X8_entryAt
    rw [c8_Entry a5 he (by omega), rb_ret, if_neg (by decide), if_neg (by decide), if_pos rfl, hg, hc]
  · unfold f_X8_entryAt
    rw [c8_Entry a5 he (by omega), rb_ret, if_neg (by decide), if_neg (by decide), if_neg (by decide), if_pos rfl, hg, hc]
  · unfold f_X8_entryAt
    rw [c8_Entry a5 he (by omega), rb_ret, if_neg (by decide), if_neg (by decide), if_neg (by decide), if_neg (by decide), if_pos rfl, hg, hc]
theorem q_at_no (I : InvP t nh nc nk ne nr nx ns n M) : f_W_entryAt M (nI ne) 0 = qRet (-9000000000000000001) M ∧ f_W_entryAt M 0 5 = qRet (-9000000000000000001) M ∧ f_W_counts M (nI ne) = qRet (-9000000000000000001) M := by
  obtain ⟨⟨a1, a2, a3, a4, a5, a6, a7, a8⟩, -, l1, l2, l3, l4, l5, l6, l7, l8⟩ := I.1
  refine ⟨x0_entryAt ?_, x0_entryAt ?_, x0_counts ?_⟩
  · unfold f_X8_entryAt
    rw [n8_Entry a5 (bad_ge (Nat.le_refl _) (by omega)), rb_thr]
  · unfold f_X8_entryAt
    by_cases c : 0 < ne
    · rw [show f_X8_checkEntry M 0 = rRet 0 M from c8_Entry (i := 0) a5 c l5, rb_ret, if_neg (by decide), if_neg (by decide), if_neg (by decide), if_neg (by decide), if_neg (by decide)]
    · rw [show f_X8_checkEntry M 0 = rThr 0 M from n8_Entry a5 (bad_ge (i := 0) (by omega) (by omega)), rb_thr]
  · unfold f_X8_counts
    rw [n8_Entry a5 (bad_ge (Nat.le_refl _) (by omega)), rb_thr]
theorem q_counts (I : InvP t nh nc nk ne nr nx ns n M) {e : Nat} (he : e < ne) : f_W_counts M (nI e) = qRet (if cnV M t ne e = 0 then 0 else 1) M := by
  obtain ⟨⟨a1, a2, a3, a4, a5, a6, a7, a8⟩, -, l1, l2, l3, l4, l5, l6, l7, l8⟩ := I.1
  refine r_counts ?_
  unfold f_X8_counts
  rw [c8_Entry a5 he (by omega), rb_ret, e_cnt8 I he, rb_ret, z01_eq cnV_z]
theorem q_maySee (I : InvP t nh nc nk ne nr nx ns n M) (hn : n ≤ 512) {e p d : Nat} (he : e < ne) (hp : p < 16) (hd : d ≤ t) (hs : sSeal (M 99) (M 100) (M 101) (nI e) (nI d) ns = 0) : f_W_maySee M (nI e) (nI p) (nI d) = qRet (if nI d < M 56 e then 0 else 1) M := by
  obtain ⟨⟨a1, a2, a3, a4, a5, a6, a7, a8⟩, -, l1, l2, l3, l4, l5, l6, l7, l8⟩ := I.1
  have hg : ∀ F : gR, gI (nI e) 160 F = F := fun F => gI_nI (by omega) (by omega)
  have hc : (nI e).toNatClampNeg = e := nI_clamp (by omega)
  obtain ⟨g1, g2, g3⟩ := I.2.2.2.2.2.2.2.2.2.1
  have h : f_X8_maySee M (nI e) (nI p) (nI d) = rRet (if nI d < M 56 e then 0 else 1) M := by
    unfold f_X8_maySee
    rw [c8_Entry a5 he (by omega), rb_ret, c8_Person hp, rb_ret, if_neg (nI_pos (by omega)), a1, if_pos (nI_le hd (by omega)), e_isSealed a8 (by omega) g2, rb_ret, hs, if_pos rfl, hg, hc]
    by_cases c : nI d < M 56 e
    · rw [if_pos c, if_pos c]
    · rw [if_neg c, if_neg c]
  rw [r_maySee h]
  by_cases c : nI d < M 56 e
  · rw [if_pos c, if_pos c, if_pos rfl]
  · rw [if_neg c, if_neg c, if_neg i10]
theorem q_maySee_no (I : InvP t nh nc nk ne nr nx ns n M) {e p : Nat} (he : e < ne) (hp : p < 16) : f_W_maySee M (nI e) (nI p) (nI (t + 1)) = qRet (-9000000000000000002) M := by
  obtain ⟨⟨a1, a2, a3, a4, a5, a6, a7, a8⟩, -, l1, l2, l3, l4, l5, l6, l7, l8⟩ := I.1
  refine x1_maySee ?_
  unfold f_X8_maySee
  rw [c8_Entry a5 he (by omega), rb_ret, c8_Person hp, rb_ret, if_neg (nI_pos (by omega)), a1, if_neg (nI_ge (by omega) (by omega))]
theorem seal_0 {E D O : Nat → Int32} {e d : Int32} : ∀ i, (∀ j, j < i → E j = e → d < D j) → sSeal E D O e d i = 0
  | 0, _ => rfl
  | i + 1, h => by
    show (if E i = e then if d < D i then sSeal E D O e d i else O i else sSeal E D O e d i) = 0
    by_cases c : E i = e
    · rw [if_pos c, if_pos (h i (by omega) c)]
      exact seal_0 i (fun j hj => h j (by omega))
    · rw [if_neg c]
      exact seal_0 i (fun j hj => h j (by omega))
end QA
/-! ===== longs ===== -/
theorem n3_ne {m : Nat} (h : m < 2 ^ 31) : ¬ lN m = -9000000000000000003 := by
  intro q
  have h2 := congrArg Int64.toInt q
  rw [lN_toInt h, show (-9000000000000000003 : Int64).toInt = -9000000000000000003 from by decide] at h2
  omega
theorem n1_ne {m : Nat} (h : m < 2 ^ 31) : ¬ lN m = -9000000000000000001 := by
  intro q
  have h2 := congrArg Int64.toInt q
  rw [lN_toInt h, show (-9000000000000000001 : Int64).toInt = -9000000000000000001 from by decide] at h2
  omega
theorem nm_ne {m : Nat} (h : m < 2 ^ 31) : ¬ lN m = -1 := by
  intro q
  have h2 := congrArg Int64.toInt q
  rw [lN_toInt h, show (-1 : Int64).toInt = -1 from by decide] at h2
  omega
theorem l64_m1 : (-1 : Int32).toInt64 = -1 := by decide
theorem l64_0 : (0 : Int32).toInt64 = 0 := by decide
theorem l64_1 : (1 : Int32).toInt64 = 1 := by decide
theorem l64_2 : (2 : Int32).toInt64 = 2 := by decide
theorem l64_3 : (3 : Int32).toInt64 = 3 := by decide
theorem l64_4 : (4 : Int32).toInt64 = 4 := by decide
theorem l64_5 : (5 : Int32).toInt64 = 5 := by decide
theorem lN_0 : lN 0 = 0 := by decide
theorem lN_o : lN 1 = 1 := by decide
/-- a deadline's answer, as a long: none, or a day -/
theorem dead_ok {t nh nc nk ne nr nx ns n : Nat} {M : gM} (I : InvP t nh nc nk ne nr nx ns n M) (k : Nat) (hk : k < nk) : adV M t ne (nI k) = -1 ∨ ∃ d, d ≤ 1400 ∧ adV M t ne (nI k) = nI d := by
  obtain ⟨-, -, l1, l2, l3, l4, l5, l6, l7, l8⟩ := I.1
  unfold adV
  rcases as_kd (M := M) (ne := ne) (k := nI k) with h | ⟨e, h1, h2, h3, h4, h5⟩
  · rw [if_pos h]
    exact Or.inl rfl
  · rw [h2, if_neg (m1_ne (by omega)), nI_clamp (show e < 2 ^ 31 by omega)]
    cases mopB M t ne (nI k) with
    | true => exact Or.inl rfl
    | false =>
      rw [if_neg (show ¬ (false = true) by decide)]
      obtain ⟨k', c, d, k1, c1, d1, e57, e47, e56⟩ := I.ent h1 (kdD_lt h4)
      unfold duV
      rw [e56, nI_clamp (show d < 2 ^ 31 by omega)]
      rcases dlM_dom M ne (clC M e) d (M 63 e).toNatClampNeg (M 64 e) (by omega) with q | ⟨y, y1, y2, y3⟩
      · exact Or.inl q
      · exact Or.inr ⟨y, y2, y3⟩
