/-! ===== refused calls ===== -/
theorem bad_ge {i n : Nat} (h : n ≤ i) (hi : i < 2 ^ 31) : bad (nI i) n := Or.inr ⟨nI_pos hi, nI_nlt h hi⟩
theorem bad_m1 (n : Nat) : bad (-1) n := Or.inl (by decide)
theorem z_0 {t nh nc nk ne nr nx ns n : Nat} {M : gM} (I : InvP t nh nc nk ne nr nx ns n M) : f_W_pass M 0 = qRet (-9000000000000000002) M := by
  obtain ⟨⟨a1, a2, a3, a4, a5, a6, a7, a8⟩, -, l1, l2, l3, l4, l5, l6, l7, l8⟩ := I.1
  refine x1_pass ?_
  unfold f_X8_pass
  rw [n8_Days (Or.inl (by decide)), rb_thr]

theorem z_1 {t nh nc nk ne nr nx ns n : Nat} {M : gM} (I : InvP t nh nc nk ne nr nx ns n M) : f_W_pass M 61 = qRet (-9000000000000000002) M := by
  obtain ⟨⟨a1, a2, a3, a4, a5, a6, a7, a8⟩, -, l1, l2, l3, l4, l5, l6, l7, l8⟩ := I.1
  refine x1_pass ?_
  unfold f_X8_pass
  rw [n8_Days (Or.inr ⟨by decide, by decide⟩), rb_thr]

theorem z_2 {t nh nc nk ne nr nx ns n : Nat} {M : gM} (I : InvP t nh nc nk ne nr nx ns n M) : f_W_holiday M (-1) = qRet (-9000000000000000002) M := by
  obtain ⟨⟨a1, a2, a3, a4, a5, a6, a7, a8⟩, -, l1, l2, l3, l4, l5, l6, l7, l8⟩ := I.1
  refine x1_holiday ?_
  unfold f_X8_holiday
  rw [if_pos (by decide)]

theorem z_3 {t nh nc nk ne nr nx ns n : Nat} {M : gM} (I : InvP t nh nc nk ne nr nx ns n M) : f_W_holiday M (nI t) = qRet (-9000000000000000003) M := by
  obtain ⟨⟨a1, a2, a3, a4, a5, a6, a7, a8⟩, -, l1, l2, l3, l4, l5, l6, l7, l8⟩ := I.1
  refine x2_holiday ?_
  unfold f_X8_holiday
  rw [if_neg (nI_pos (by omega)), show (1000 : Int32) = nI 1000 from by decide, if_pos (nI_le (by omega) (by omega)), a1, if_pos (nI_le (Nat.le_refl _) (by omega))]

theorem z_4 {t nh nc nk ne nr nx ns n : Nat} {M : gM} (I : InvP t nh nc nk ne nr nx ns n M) : f_W_setRule M 5 0 1 = qRet (-9000000000000000001) M := by
  obtain ⟨⟨a1, a2, a3, a4, a5, a6, a7, a8⟩, -, l1, l2, l3, l4, l5, l6, l7, l8⟩ := I.1
  refine x0_setRule ?_
  unfold f_X8_setRule
  rw [if_neg (by decide), if_neg (by decide)]

theorem z_5 {t nh nc nk ne nr nx ns n : Nat} {M : gM} (I : InvP t nh nc nk ne nr nx ns n M) : f_W_setRule M 0 61 1 = qRet (-9000000000000000002) M := by
  obtain ⟨⟨a1, a2, a3, a4, a5, a6, a7, a8⟩, -, l1, l2, l3, l4, l5, l6, l7, l8⟩ := I.1
  refine x1_setRule ?_
  unfold f_X8_setRule
  rw [if_neg (by decide), if_pos (by decide), n8_Days (Or.inr ⟨by decide, by decide⟩), rb_thr]

theorem z_6 {t nh nc nk ne nr nx ns n : Nat} {M : gM} (I : InvP t nh nc nk ne nr nx ns n M) : f_W_open M 3 = qRet (-9000000000000000001) M := by
  obtain ⟨⟨a1, a2, a3, a4, a5, a6, a7, a8⟩, -, l1, l2, l3, l4, l5, l6, l7, l8⟩ := I.1
  refine x0_open ?_
  unfold f_X8_open
  rw [if_neg (by decide), if_neg (by decide)]

theorem z_7 {t nh nc nk ne nr nx ns n : Nat} {M : gM} (I : InvP t nh nc nk ne nr nx ns n M) : f_W_join M 8 0 0 = qRet (-9000000000000000001) M := by
  obtain ⟨⟨a1, a2, a3, a4, a5, a6, a7, a8⟩, -, l1, l2, l3, l4, l5, l6, l7, l8⟩ := I.1
  refine x0_join ?_
  unfold f_X8_join
  rw [n8_Case a3 (show bad 8 nc from bad_ge (i := 8) l3 (by omega)), rb_thr]

theorem z_8 {t nh nc nk ne nr nx ns n : Nat} {M : gM} (I : InvP t nh nc nk ne nr nx ns n M) : f_W_lead M (-1) 0 = qRet (-9000000000000000001) M := by
  obtain ⟨⟨a1, a2, a3, a4, a5, a6, a7, a8⟩, -, l1, l2, l3, l4, l5, l6, l7, l8⟩ := I.1
  refine x0_lead ?_
  unfold f_X8_lead
  rw [n8_Case a3 (bad_m1 nc), rb_thr]

theorem z_9 {t nh nc nk ne nr nx ns n : Nat} {M : gM} (I : InvP t nh nc nk ne nr nx ns n M) : f_W_claim M 0 16 0 0 = qRet (-9000000000000000001) M := by
  obtain ⟨⟨a1, a2, a3, a4, a5, a6, a7, a8⟩, -, l1, l2, l3, l4, l5, l6, l7, l8⟩ := I.1
  refine x0_claim ?_
  unfold f_X8_claim
  by_cases c : 0 < nc
  · rw [show f_X8_checkCase M 0 = rRet 0 M from c8_Case (i := 0) a3 c l3, rb_ret, show f_X8_checkPerson M 16 = rThr 0 M from n8_Person (bad_ge (i := 16) (Nat.le_refl _) (by omega)), rb_thr]
  · rw [show f_X8_checkCase M 0 = rThr 0 M from n8_Case a3 (bad_ge (i := 0) (by omega) (by omega)), rb_thr]

theorem z_10 {t nh nc nk ne nr nx ns n : Nat} {M : gM} (I : InvP t nh nc nk ne nr nx ns n M) : f_W_sever M (nI nk) = qRet (-9000000000000000001) M := by
  obtain ⟨⟨a1, a2, a3, a4, a5, a6, a7, a8⟩, -, l1, l2, l3, l4, l5, l6, l7, l8⟩ := I.1
  refine x0_sever ?_
  unfold f_X8_sever
  rw [n8_Claim a4 (bad_ge (Nat.le_refl _) (by omega)), rb_thr]

theorem z_11 {t nh nc nk ne nr nx ns n : Nat} {M : gM} (I : InvP t nh nc nk ne nr nx ns n M) : f_W_serve M (nI nk) 0 = qRet (-9000000000000000001) M := by
  obtain ⟨⟨a1, a2, a3, a4, a5, a6, a7, a8⟩, -, l1, l2, l3, l4, l5, l6, l7, l8⟩ := I.1
  refine x0_serve ?_
  unfold f_X8_serve
  rw [n8_Claim a4 (bad_ge (Nat.le_refl _) (by omega)), rb_thr]

theorem z_12 {t nh nc nk ne nr nx ns n : Nat} {M : gM} (I : InvP t nh nc nk ne nr nx ns n M) : f_W_answer M (-1) = qRet (-9000000000000000001) M := by
  obtain ⟨⟨a1, a2, a3, a4, a5, a6, a7, a8⟩, -, l1, l2, l3, l4, l5, l6, l7, l8⟩ := I.1
  refine x0_answer ?_
  unfold f_X8_answer
  rw [n8_Claim a4 (bad_m1 nk), rb_thr]

theorem z_13 {t nh nc nk ne nr nx ns n : Nat} {M : gM} (I : InvP t nh nc nk ne nr nx ns n M) : f_W_motion M (nI nk) = qRet (-9000000000000000001) M := by
  obtain ⟨⟨a1, a2, a3, a4, a5, a6, a7, a8⟩, -, l1, l2, l3, l4, l5, l6, l7, l8⟩ := I.1
  refine x0_motion ?_
  unfold f_X8_motion
  rw [n8_Claim a4 (bad_ge (Nat.le_refl _) (by omega)), rb_thr]

theorem z_14 {t nh nc nk ne nr nx ns n : Nat} {M : gM} (I : InvP t nh nc nk ne nr nx ns n M) : f_W_respond M (nI ne) = qRet (-9000000000000000001) M := by
  obtain ⟨⟨a1, a2, a3, a4, a5, a6, a7, a8⟩, -, l1, l2, l3, l4, l5, l6, l7, l8⟩ := I.1
  refine x0_respond ?_
  unfold f_X8_respond f_X8_checkMotion
  rw [n8_Entry a5 (bad_ge (Nat.le_refl _) (by omega)), rb_thr, rb_thr]

theorem z_15 {t nh nc nk ne nr nx ns n : Nat} {M : gM} (I : InvP t nh nc nk ne nr nx ns n M) : f_W_ruling M (nI ne) (-2) = qRet (-9000000000000000001) M := by
  obtain ⟨⟨a1, a2, a3, a4, a5, a6, a7, a8⟩, -, l1, l2, l3, l4, l5, l6, l7, l8⟩ := I.1
  refine x0_ruling ?_
  unfold f_X8_ruling f_X8_checkMotion
  rw [n8_Entry a5 (bad_ge (Nat.le_refl _) (by omega)), rb_thr, rb_thr]

theorem z_16 {t nh nc nk ne nr nx ns n : Nat} {M : gM} (I : InvP t nh nc nk ne nr nx ns n M) : f_W_judge M (nI nk) (-2) = qRet (-9000000000000000001) M := by
  obtain ⟨⟨a1, a2, a3, a4, a5, a6, a7, a8⟩, -, l1, l2, l3, l4, l5, l6, l7, l8⟩ := I.1
  refine x0_judge ?_
  unfold f_X8_judge
  rw [n8_Claim a4 (bad_ge (Nat.le_refl _) (by omega)), rb_thr]

theorem z_17 {t nh nc nk ne nr nx ns n : Nat} {M : gM} (I : InvP t nh nc nk ne nr nx ns n M) : f_W_vacate M (nI nk) = qRet (-9000000000000000001) M := by
  obtain ⟨⟨a1, a2, a3, a4, a5, a6, a7, a8⟩, -, l1, l2, l3, l4, l5, l6, l7, l8⟩ := I.1
  refine x0_vacate ?_
  unfold f_X8_vacate
  rw [n8_Claim a4 (bad_ge (Nat.le_refl _) (by omega)), rb_thr]

theorem z_18 {t nh nc nk ne nr nx ns n : Nat} {M : gM} (I : InvP t nh nc nk ne nr nx ns n M) : f_W_appeal M (-1) = qRet (-9000000000000000001) M := by
  obtain ⟨⟨a1, a2, a3, a4, a5, a6, a7, a8⟩, -, l1, l2, l3, l4, l5, l6, l7, l8⟩ := I.1
  refine x0_appeal ?_
  unfold f_X8_appeal
  rw [n8_Claim a4 (bad_m1 nk), rb_thr]

theorem z_19 {t nh nc nk ne nr nx ns n : Nat} {M : gM} (I : InvP t nh nc nk ne nr nx ns n M) : f_W_decide M (nI nk) 3 0 = qRet (-9000000000000000001) M := by
  obtain ⟨⟨a1, a2, a3, a4, a5, a6, a7, a8⟩, -, l1, l2, l3, l4, l5, l6, l7, l8⟩ := I.1
  refine x0_decide ?_
  unfold f_X8_decide
  rw [n8_Claim a4 (bad_ge (Nat.le_refl _) (by omega)), rb_thr]

theorem z_20 {t nh nc nk ne nr nx ns n : Nat} {M : gM} (I : InvP t nh nc nk ne nr nx ns n M) : f_W_settle M (nI nk) = qRet (-9000000000000000001) M := by
  obtain ⟨⟨a1, a2, a3, a4, a5, a6, a7, a8⟩, -, l1, l2, l3, l4, l5, l6, l7, l8⟩ := I.1
  refine x0_settle ?_
  unfold f_X8_settle
  rw [n8_Claim a4 (bad_ge (Nat.le_refl _) (by omega)), rb_thr]

theorem z_21 {t nh nc nk ne nr nx ns n : Nat} {M : gM} (I : InvP t nh nc nk ne nr nx ns n M) : f_W_pay M (nI nk) 0 = qRet (-9000000000000000001) M := by
  obtain ⟨⟨a1, a2, a3, a4, a5, a6, a7, a8⟩, -, l1, l2, l3, l4, l5, l6, l7, l8⟩ := I.1
  refine x0_pay ?_
  unfold f_X8_pay
  rw [n8_Claim a4 (bad_ge (Nat.le_refl _) (by omega)), rb_thr]

theorem z_22 {t nh nc nk ne nr nx ns n : Nat} {M : gM} (I : InvP t nh nc nk ne nr nx ns n M) : f_W_stay M 8 1 = qRet (-9000000000000000001) M := by
  obtain ⟨⟨a1, a2, a3, a4, a5, a6, a7, a8⟩, -, l1, l2, l3, l4, l5, l6, l7, l8⟩ := I.1
  refine x0_stay ?_
  unfold f_X8_stay
  rw [n8_Case a3 (show bad 8 nc from bad_ge (i := 8) l3 (by omega)), rb_thr]

theorem z_23 {t nh nc nk ne nr nx ns n : Nat} {M : gM} (I : InvP t nh nc nk ne nr nx ns n M) : f_W_defect M (nI ne) = qRet (-9000000000000000001) M := by
  obtain ⟨⟨a1, a2, a3, a4, a5, a6, a7, a8⟩, -, l1, l2, l3, l4, l5, l6, l7, l8⟩ := I.1
  refine x0_defect ?_
  unfold f_X8_defect
  rw [n8_Entry a5 (bad_ge (Nat.le_refl _) (by omega)), rb_thr]

theorem z_24 {t nh nc nk ne nr nx ns n : Nat} {M : gM} (I : InvP t nh nc nk ne nr nx ns n M) : f_W_cure M (-1) = qRet (-9000000000000000001) M := by
  obtain ⟨⟨a1, a2, a3, a4, a5, a6, a7, a8⟩, -, l1, l2, l3, l4, l5, l6, l7, l8⟩ := I.1
  refine x0_cure ?_
  unfold f_X8_cure
  rw [n8_Entry a5 (bad_m1 ne), rb_thr]

theorem z_25 {t nh nc nk ne nr nx ns n : Nat} {M : gM} (I : InvP t nh nc nk ne nr nx ns n M) : f_W_extend M 3 0 1 = qRet (-9000000000000000001) M := by
  obtain ⟨⟨a1, a2, a3, a4, a5, a6, a7, a8⟩, -, l1, l2, l3, l4, l5, l6, l7, l8⟩ := I.1
  refine x0_extend ?_
  unfold f_X8_extend
  rw [if_pos rfl]

theorem z_26 {t nh nc nk ne nr nx ns n : Nat} {M : gM} (I : InvP t nh nc nk ne nr nx ns n M) : f_W_extend M 0 (nI nk) 0 = qRet (-9000000000000000001) M := by
  obtain ⟨⟨a1, a2, a3, a4, a5, a6, a7, a8⟩, -, l1, l2, l3, l4, l5, l6, l7, l8⟩ := I.1
  refine x0_extend ?_
  unfold f_X8_extend f_X8_checkDeadline
  rw [if_neg (by decide), if_neg (by decide), if_pos (by decide), if_neg (by decide), if_neg (by decide), n8_Claim a4 (bad_ge (Nat.le_refl _) (by omega)), rb_thr, rb_thr]

theorem z_27 {t nh nc nk ne nr nx ns n : Nat} {M : gM} (I : InvP t nh nc nk ne nr nx ns n M) : f_W_hearing M 8 0 0 = qRet (-9000000000000000001) M := by
  obtain ⟨⟨a1, a2, a3, a4, a5, a6, a7, a8⟩, -, l1, l2, l3, l4, l5, l6, l7, l8⟩ := I.1
  refine x0_hearing ?_
  unfold f_X8_hearing
  rw [n8_Case a3 (show bad 8 nc from bad_ge (i := 8) l3 (by omega)), rb_thr]

theorem z_28 {t nh nc nk ne nr nx ns n : Nat} {M : gM} (I : InvP t nh nc nk ne nr nx ns n M) : f_W_goesOn M 40 = qRet (-9000000000000000001) M := by
  obtain ⟨⟨a1, a2, a3, a4, a5, a6, a7, a8⟩, -, l1, l2, l3, l4, l5, l6, l7, l8⟩ := I.1
  refine x0_goesOn ?_
  unfold f_X8_continueHearing
  rw [n8_Hearing a6 (show bad 40 nr from bad_ge (i := 40) l6 (by omega)), rb_thr]

theorem z_29 {t nh nc nk ne nr nx ns n : Nat} {M : gM} (I : InvP t nh nc nk ne nr nx ns n M) : f_W_hearingAt M 40 = qRet (-9000000000000000001) M := by
  obtain ⟨⟨a1, a2, a3, a4, a5, a6, a7, a8⟩, -, l1, l2, l3, l4, l5, l6, l7, l8⟩ := I.1
  refine x0_hearingAt ?_
  unfold f_X8_hearingAt
  rw [n8_Hearing a6 (show bad 40 nr from bad_ge (i := 40) l6 (by omega)), rb_thr]

theorem z_30 {t nh nc nk ne nr nx ns n : Nat} {M : gM} (I : InvP t nh nc nk ne nr nx ns n M) : f_W_strike M 0 2 0 = qRet (-9000000000000000001) M := by
  obtain ⟨⟨a1, a2, a3, a4, a5, a6, a7, a8⟩, -, l1, l2, l3, l4, l5, l6, l7, l8⟩ := I.1
  refine x0_strike ?_
  unfold f_X8_strike
  by_cases c : 0 < nc
  · rw [show f_X8_checkCase M 0 = rRet 0 M from c8_Case (i := 0) a3 c l3, rb_ret, show f_X8_checkSide M 2 = rThr 0 M from n8_Side (bad_ge (i := 2) (Nat.le_refl _) (by omega)), rb_thr]
  · rw [show f_X8_checkCase M 0 = rThr 0 M from n8_Case a3 (bad_ge (i := 0) (by omega) (by omega)), rb_thr]

theorem z_31 {t nh nc nk ne nr nx ns n : Nat} {M : gM} (I : InvP t nh nc nk ne nr nx ns n M) : f_W_dismiss M 0 14 = qRet (-9000000000000000001) M := by
  obtain ⟨⟨a1, a2, a3, a4, a5, a6, a7, a8⟩, -, l1, l2, l3, l4, l5, l6, l7, l8⟩ := I.1
  refine x0_dismiss ?_
  unfold f_X8_dismiss
  by_cases c : 0 < nc
  · rw [show f_X8_checkCase M 0 = rRet 0 M from c8_Case (i := 0) a3 c l3, rb_ret, show f_X8_checkJuror M 14 = rThr 0 M from n8_Juror (bad_ge (i := 14) (Nat.le_refl _) (by omega)), rb_thr]
  · rw [show f_X8_checkCase M 0 = rThr 0 M from n8_Case a3 (bad_ge (i := 0) (by omega) (by omega)), rb_thr]

theorem z_32 {t nh nc nk ne nr nx ns n : Nat} {M : gM} (I : InvP t nh nc nk ne nr nx ns n M) : f_W_seat M 0 7 = qRet (-9000000000000000001) M := by
  obtain ⟨⟨a1, a2, a3, a4, a5, a6, a7, a8⟩, -, l1, l2, l3, l4, l5, l6, l7, l8⟩ := I.1
  refine x0_seat ?_
  unfold f_X8_seat
  by_cases c : 0 < nc
  · rw [show f_X8_checkCase M 0 = rRet 0 M from c8_Case (i := 0) a3 c l3, rb_ret, if_neg (by decide), if_neg (by decide)]
  · rw [show f_X8_checkCase M 0 = rThr 0 M from n8_Case a3 (bad_ge (i := 0) (by omega) (by omega)), rb_thr]

theorem z_33 {t nh nc nk ne nr nx ns n : Nat} {M : gM} (I : InvP t nh nc nk ne nr nx ns n M) : f_W_exhibit M 0 16 = qRet (-9000000000000000001) M := by
  obtain ⟨⟨a1, a2, a3, a4, a5, a6, a7, a8⟩, -, l1, l2, l3, l4, l5, l6, l7, l8⟩ := I.1
  refine x0_exhibit ?_
  unfold f_X8_exhibit
  by_cases c : 0 < nc
  · rw [show f_X8_checkCase M 0 = rRet 0 M from c8_Case (i := 0) a3 c l3, rb_ret, show f_X8_checkPerson M 16 = rThr 0 M from n8_Person (bad_ge (i := 16) (Nat.le_refl _) (by omega)), rb_thr]
  · rw [show f_X8_checkCase M 0 = rThr 0 M from n8_Case a3 (bad_ge (i := 0) (by omega) (by omega)), rb_thr]

theorem z_34 {t nh nc nk ne nr nx ns n : Nat} {M : gM} (I : InvP t nh nc nk ne nr nx ns n M) : f_W_hand M 12 0 0 = qRet (-9000000000000000001) M := by
  obtain ⟨⟨a1, a2, a3, a4, a5, a6, a7, a8⟩, -, l1, l2, l3, l4, l5, l6, l7, l8⟩ := I.1
  refine x0_hand ?_
  unfold f_X8_hand
  rw [n8_Exhibit a7 (show bad 12 nx from bad_ge (i := 12) l7 (by omega)), rb_thr]

theorem z_35 {t nh nc nk ne nr nx ns n : Nat} {M : gM} (I : InvP t nh nc nk ne nr nx ns n M) : f_W_object M 12 0 = qRet (-9000000000000000001) M := by
  obtain ⟨⟨a1, a2, a3, a4, a5, a6, a7, a8⟩, -, l1, l2, l3, l4, l5, l6, l7, l8⟩ := I.1
  refine x0_object ?_
  unfold f_X8_object
  rw [n8_Exhibit a7 (show bad 12 nx from bad_ge (i := 12) l7 (by omega)), rb_thr]

theorem z_36 {t nh nc nk ne nr nx ns n : Nat} {M : gM} (I : InvP t nh nc nk ne nr nx ns n M) : f_W_sustain M 0 2 1 = qRet (-9000000000000000001) M := by
  obtain ⟨⟨a1, a2, a3, a4, a5, a6, a7, a8⟩, -, l1, l2, l3, l4, l5, l6, l7, l8⟩ := I.1
  refine x0_sustain ?_
  unfold f_X8_sustain
  by_cases c : 0 < nx
  · rw [show f_X8_checkExhibit M 0 = rRet 0 M from c8_Exhibit (i := 0) a7 c l7, rb_ret, show f_X8_checkSide M 2 = rThr 0 M from n8_Side (bad_ge (i := 2) (Nat.le_refl _) (by omega)), rb_thr]
  · rw [show f_X8_checkExhibit M 0 = rThr 0 M from n8_Exhibit a7 (bad_ge (i := 0) (by omega) (by omega)), rb_thr]

theorem z_37 {t nh nc nk ne nr nx ns n : Nat} {M : gM} (I : InvP t nh nc nk ne nr nx ns n M) : f_W_admitted M 12 = qRet (-9000000000000000001) M := by
  obtain ⟨⟨a1, a2, a3, a4, a5, a6, a7, a8⟩, -, l1, l2, l3, l4, l5, l6, l7, l8⟩ := I.1
  refine x0_admitted ?_
  unfold f_X8_isAdmitted
  rw [n8_Exhibit a7 (show bad 12 nx from bad_ge (i := 12) l7 (by omega)), rb_thr]

theorem z_38 {t nh nc nk ne nr nx ns n : Nat} {M : gM} (I : InvP t nh nc nk ne nr nx ns n M) : f_W_seal M (nI ne) 1 = qRet (-9000000000000000001) M := by
  obtain ⟨⟨a1, a2, a3, a4, a5, a6, a7, a8⟩, -, l1, l2, l3, l4, l5, l6, l7, l8⟩ := I.1
  refine x0_seal ?_
  unfold f_X8_seal
  rw [n8_Entry a5 (bad_ge (Nat.le_refl _) (by omega)), rb_thr]

theorem z_39 {t nh nc nk ne nr nx ns n : Nat} {M : gM} (I : InvP t nh nc nk ne nr nx ns n M) : f_W_maySee M (nI ne) 0 0 = qRet (-9000000000000000001) M := by
  obtain ⟨⟨a1, a2, a3, a4, a5, a6, a7, a8⟩, -, l1, l2, l3, l4, l5, l6, l7, l8⟩ := I.1
  refine x0_maySee ?_
  unfold f_X8_maySee
  rw [n8_Entry a5 (bad_ge (Nat.le_refl _) (by omega)), rb_thr]

theorem z_40 {t nh nc nk ne nr nx ns n : Nat} {M : gM} (I : InvP t nh nc nk ne nr nx ns n M) : f_W_certify M (nI nk) = qRet (-9000000000000000001) M := by
  obtain ⟨⟨a1, a2, a3, a4, a5, a6, a7, a8⟩, -, l1, l2, l3, l4, l5, l6, l7, l8⟩ := I.1
  refine x0_certify ?_
  unfold f_X8_certify
  rw [n8_Claim a4 (bad_ge (Nat.le_refl _) (by omega)), rb_thr]

theorem z_41 {t nh nc nk ne nr nx ns n : Nat} {M : gM} (I : InvP t nh nc nk ne nr nx ns n M) : f_W_member M (nI nk) 0 1 = qRet (-9000000000000000001) M := by
  obtain ⟨⟨a1, a2, a3, a4, a5, a6, a7, a8⟩, -, l1, l2, l3, l4, l5, l6, l7, l8⟩ := I.1
  refine x0_member ?_
  unfold f_X8_member
  rw [n8_Claim a4 (bad_ge (Nat.le_refl _) (by omega)), rb_thr]

theorem z_42 {t nh nc nk ne nr nx ns n : Nat} {M : gM} (I : InvP t nh nc nk ne nr nx ns n M) : f_W_share M 0 16 = qRet (-9000000000000000001) M := by
  obtain ⟨⟨a1, a2, a3, a4, a5, a6, a7, a8⟩, -, l1, l2, l3, l4, l5, l6, l7, l8⟩ := I.1
  refine x0_share ?_
  unfold f_X8_share
  by_cases c : 0 < nk
  · rw [show f_X8_checkClaim M 0 = rRet 0 M from c8_Claim (i := 0) a4 c l4, rb_ret, show f_X8_checkPerson M 16 = rThr 0 M from n8_Person (bad_ge (i := 16) (Nat.le_refl _) (by omega)), rb_thr]
  · rw [show f_X8_checkClaim M 0 = rThr 0 M from n8_Claim a4 (bad_ge (i := 0) (by omega) (by omega)), rb_thr]

theorem z_43 {t nh nc nk ne nr nx ns n : Nat} {M : gM} (I : InvP t nh nc nk ne nr nx ns n M) : f_W_due M 4 0 = qRet (-9000000000000000001) M := by
  obtain ⟨⟨a1, a2, a3, a4, a5, a6, a7, a8⟩, -, l1, l2, l3, l4, l5, l6, l7, l8⟩ := I.1
  refine x0_due ?_
  unfold f_X8_due f_X8_checkDeadline
  rw [if_neg (by decide), if_neg (by decide), rb_thr]

theorem z_44 {t nh nc nk ne nr nx ns n : Nat} {M : gM} (I : InvP t nh nc nk ne nr nx ns n M) : f_W_dueByDays M (-1) 0 = qRet (-9000000000000000001) M := by
  obtain ⟨⟨a1, a2, a3, a4, a5, a6, a7, a8⟩, -, l1, l2, l3, l4, l5, l6, l7, l8⟩ := I.1
  refine x0_dueByDays ?_
  unfold f_X8_dueByDays f_X8_checkDeadline
  rw [if_pos (by decide), rb_thr]

theorem z_45 {t nh nc nk ne nr nx ns n : Nat} {M : gM} (I : InvP t nh nc nk ne nr nx ns n M) : f_W_answered M (nI nk) = qRet (-9000000000000000001) M := by
  obtain ⟨⟨a1, a2, a3, a4, a5, a6, a7, a8⟩, -, l1, l2, l3, l4, l5, l6, l7, l8⟩ := I.1
  refine x0_answered ?_
  unfold f_X8_isAnswered
  rw [n8_Claim a4 (bad_ge (Nat.le_refl _) (by omega)), rb_thr]

theorem qb_if {v c : Int64} {M : gM} {A B : gM → gR} (h : v = c) : qb (qRet v M) (fun x M1 => if x = c then A M1 else B M1) = A M := by
  rw [qb_ret, if_pos h]
theorem ref_3 {t nh nc nk ne nr nx ns n : Nat} {M : gM} (I : InvP t nh nc nk ne nr nx ns n M) : f_L_refuses_b462 M (nI nk) (nI ne) (nI t) 1 = rRet 1 M := by
  obtain ⟨⟨a1, a2, a3, a4, a5, a6, a7, a8⟩, -, l1, l2, l3, l4, l5, l6, l7, l8⟩ := I.1
  unfold f_L_refuses_b462
  rw [if_neg i10]
  rw [z_33 I, qb_ret, if_pos rfl, z_34 I, qb_ret, if_pos rfl, z_35 I, qb_ret, if_pos rfl, z_36 I, qb_ret, if_pos rfl, z_37 I, qb_ret, if_pos rfl, z_38 I, qb_ret, if_pos rfl, z_39 I, qb_ret, if_pos rfl, z_40 I, qb_ret, if_pos rfl, z_41 I, qb_ret, if_pos rfl, z_42 I, qb_ret, if_pos rfl, z_43 I, qb_ret, if_pos rfl, z_44 I, qb_ret, if_pos rfl, z_45 I, qb_ret, if_pos rfl]
  unfold f_L_refuses_b649
  rw [if_neg i10, show f_X8_entries M = rRet (M 4 0) M from rfl, a5, rbN_ret, if_pos rfl, show f_X8_today M = rRet (M 1 0) M from rfl, a1, rbN_ret, if_pos rfl]
  rfl
theorem ref_2 {t nh nc nk ne nr nx ns n : Nat} {M : gM} (I : InvP t nh nc nk ne nr nx ns n M) : f_L_refuses_b238 M (nI nk) (nI ne) (nI t) 1 = rRet 1 M := by
  unfold f_L_refuses_b238
  rw [if_neg i10]
  rw [z_17 I, qb_ret, if_pos rfl, z_18 I, qb_ret, if_pos rfl, z_19 I, qb_ret, if_pos rfl, z_20 I, qb_ret, if_pos rfl, z_21 I, qb_ret, if_pos rfl, z_22 I, qb_ret, if_pos rfl, z_23 I, qb_ret, if_pos rfl, z_24 I, qb_ret, if_pos rfl, z_25 I, qb_ret, if_pos rfl, z_26 I, qb_ret, if_pos rfl, z_27 I, qb_ret, if_pos rfl, z_28 I, qb_ret, if_pos rfl, z_29 I, qb_ret, if_pos rfl, z_30 I, qb_ret, if_pos rfl, z_31 I, qb_ret, if_pos rfl, z_32 I, qb_ret, if_pos rfl]
  exact ref_3 I
theorem refuses_ok {t nh nc nk ne nr nx ns n : Nat} {M : gM} (I : InvP t nh nc nk ne nr nx ns n M) : f_L_refuses M (nI nk) = rRet 1 M := by
  obtain ⟨⟨a1, a2, a3, a4, a5, a6, a7, a8⟩, -, l1, l2, l3, l4, l5, l6, l7, l8⟩ := I.1
  unfold f_L_refuses
  rw [show f_X8_entries M = rRet (M 4 0) M from rfl, a5, rbN_ret, show f_X8_today M = rRet (M 1 0) M from rfl, a1, rbN_ret]
  rw [z_0 I, qb_ret, if_pos rfl, z_1 I, qb_ret, if_pos rfl, z_2 I, qb_ret, if_pos rfl, z_3 I, qb_ret, if_pos rfl, z_4 I, qb_ret, if_pos rfl, z_5 I, qb_ret, if_pos rfl, z_6 I, qb_ret, if_pos rfl, z_7 I, qb_ret, if_pos rfl, z_8 I, qb_ret, if_pos rfl, z_9 I, qb_ret, if_pos rfl, z_10 I, qb_ret, if_pos rfl, z_11 I, qb_ret, if_pos rfl, z_12 I, qb_ret, if_pos rfl, z_13 I, qb_ret, if_pos rfl, z_14 I, qb_ret, if_pos rfl, z_15 I, qb_ret, if_pos rfl, z_16 I, qb_ret, if_pos rfl]
  exact ref_2 I
