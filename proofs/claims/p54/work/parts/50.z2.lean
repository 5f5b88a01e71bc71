/-! ===== a wrapper's step: the class's call, and the ghosts behind it ===== -/
theorem w_pass {n : Nat} {M E : gM} {a1 : Int32} {v : Int32} (hn : n < 512) (hI : Inv n M) (h : f_X8_pass M a1 = rRet v E) : ∃ M1, f_W_pass M a1 = qRet v.toInt64 M1 ∧ Ag M1 E ∧ Inv (n + 1) M1 := by
  have e : f_L_pass M a1 = rRet 0 (gset E 10 0 v) := by
    unfold f_L_pass
    rw [h, rc_ret]
  refine ⟨gh E (f_X9_pass (f_L_pass M a1).2.2 a1), ?_, gh_ag _ _, gh_I (f := fun M1 => f_X9_pass M1 a1) (P := Inv (n + 1)) (st_pass n M a1 hn hI) (fun M2 => fr_X9_pass (Ag.rfl M2)) ?_⟩
  · unfold f_W_pass
    rw [h, rq_ret]
  · rw [e]
    exact (Ag.rfl E).st (by decide)
theorem w_holiday {n : Nat} {M E : gM} {a1 : Int32} {v : Int32} (hn : n < 512) (hI : Inv n M) (h : f_X8_holiday M a1 = rRet v E) : ∃ M1, f_W_holiday M a1 = qRet (if v = 0 then 0 else 1) M1 ∧ Ag M1 E ∧ Inv (n + 1) M1 := by
  have e : f_L_holiday M a1 = rRet 0 (gset E 10 0 (if v = 0 then 0 else 1)) := by
    unfold f_L_holiday
    rw [h, rc_ret]
    by_cases c : v = 0
    · rw [if_pos c, if_pos c]
    · rw [if_neg c, if_neg c]
  refine ⟨gh E (f_X9_holiday (f_L_holiday M a1).2.2 a1), ?_, gh_ag _ _, gh_B (f := fun M1 => f_X9_holiday M1 a1) (P := Inv (n + 1)) (st_holiday n M a1 hn hI) (fun M2 => fr_X9_holiday (Ag.rfl M2)) ?_⟩
  · unfold f_W_holiday
    rw [h, rq_ret]
    by_cases c : v = 0
    · rw [if_pos c, if_pos c]
    · rw [if_neg c, if_neg c]
  · rw [e]
    exact (Ag.rfl E).st (by decide)
theorem w_setRule {n : Nat} {M E : gM} {a1 : Int32} {a2 : Int32} {a3 : Int32} {v : Int32} (hz : z01 a3) (hn : n < 512) (hI : Inv n M) (h : f_X8_setRule M a1 a2 a3 = rRet v E) : ∃ M1, f_W_setRule M a1 a2 a3 = qRet v.toInt64 M1 ∧ Ag M1 E ∧ Inv (n + 1) M1 := by
  have e : f_L_setRule M a1 a2 a3 = rRet 0 (gset E 10 0 v) := by
    unfold f_L_setRule
    rw [h, rc_ret]
  refine ⟨gh E (f_X9_setRule (f_L_setRule M a1 a2 a3).2.2 a1 a2 a3), ?_, gh_ag _ _, gh_I (f := fun M1 => f_X9_setRule M1 a1 a2 a3) (P := Inv (n + 1)) ((by have g := st_setRule n M a1 a2 a3 hn hI; rw [gb_of hz] at g; exact g)) (fun M2 => fr_X9_setRule (Ag.rfl M2)) ?_⟩
  · unfold f_W_setRule
    rw [h, rq_ret]
  · rw [e]
    exact (Ag.rfl E).st (by decide)
theorem w_open {n : Nat} {M E : gM} {a1 : Int32} {v : Int32} (hn : n < 512) (hI : Inv n M) (h : f_X8_open M a1 = rRet v E) : ∃ M1, f_W_open M a1 = qRet v.toInt64 M1 ∧ Ag M1 E ∧ Inv (n + 1) M1 := by
  have e : f_L_open M a1 = rRet 0 (gset E 10 0 v) := by
    unfold f_L_open
    rw [h, rc_ret]
  refine ⟨gh E (f_X9_open (f_L_open M a1).2.2 a1), ?_, gh_ag _ _, gh_I (f := fun M1 => f_X9_open M1 a1) (P := Inv (n + 1)) (st_open n M a1 hn hI) (fun M2 => fr_X9_open (Ag.rfl M2)) ?_⟩
  · unfold f_W_open
    rw [h, rq_ret]
  · rw [e]
    exact (Ag.rfl E).st (by decide)
theorem w_join {n : Nat} {M E : gM} {a1 : Int32} {a2 : Int32} {a3 : Int32} {v : Int32} (hn : n < 512) (hI : Inv n M) (h : f_X8_join M a1 a2 a3 = rRet v E) : ∃ M1, f_W_join M a1 a2 a3 = qRet v.toInt64 M1 ∧ Ag M1 E ∧ Inv (n + 1) M1 := by
  have e : f_L_join M a1 a2 a3 = rRet 0 (gset E 10 0 v) := by
    unfold f_L_join
    rw [h, rc_ret]
  refine ⟨gh E (f_X9_join (f_L_join M a1 a2 a3).2.2 a1 a2 a3), ?_, gh_ag _ _, gh_I (f := fun M1 => f_X9_join M1 a1 a2 a3) (P := Inv (n + 1)) (st_join n M a1 a2 a3 hn hI) (fun M2 => fr_X9_join (Ag.rfl M2)) ?_⟩
  · unfold f_W_join
    rw [h, rq_ret]
  · rw [e]
    exact (Ag.rfl E).st (by decide)
theorem w_claim {n : Nat} {M E : gM} {a1 : Int32} {a2 : Int32} {a3 : Int32} {a4 : Int32} {v : Int32} (hn : n < 512) (hI : Inv n M) (h : f_X8_claim M a1 a2 a3 a4 = rRet v E) : ∃ M1, f_W_claim M a1 a2 a3 a4 = qRet v.toInt64 M1 ∧ Ag M1 E ∧ Inv (n + 1) M1 := by
  have e : f_L_claim M a1 a2 a3 a4 = rRet 0 (gset E 10 0 v) := by
    unfold f_L_claim
    rw [h, rc_ret]
  refine ⟨gh E (f_X9_claim (f_L_claim M a1 a2 a3 a4).2.2 a1 a2 a3 a4), ?_, gh_ag _ _, gh_I (f := fun M1 => f_X9_claim M1 a1 a2 a3 a4) (P := Inv (n + 1)) (st_claim n M a1 a2 a3 a4 hn hI) (fun M2 => fr_X9_claim (Ag.rfl M2)) ?_⟩
  · unfold f_W_claim
    rw [h, rq_ret]
  · rw [e]
    exact (Ag.rfl E).st (by decide)
theorem w_serve {n : Nat} {M E : gM} {a1 : Int32} {a2 : Int32} {v : Int32} (hn : n < 512) (hI : Inv n M) (h : f_X8_serve M a1 a2 = rRet v E) : ∃ M1, f_W_serve M a1 a2 = qRet v.toInt64 M1 ∧ Ag M1 E ∧ Inv (n + 1) M1 := by
  have e : f_L_serve M a1 a2 = rRet 0 (gset E 10 0 v) := by
    unfold f_L_serve
    rw [h, rc_ret]
  refine ⟨gh E (f_X9_serve (f_L_serve M a1 a2).2.2 a1 a2), ?_, gh_ag _ _, gh_I (f := fun M1 => f_X9_serve M1 a1 a2) (P := Inv (n + 1)) (st_serve n M a1 a2 hn hI) (fun M2 => fr_X9_serve (Ag.rfl M2)) ?_⟩
  · unfold f_W_serve
    rw [h, rq_ret]
  · rw [e]
    exact (Ag.rfl E).st (by decide)
theorem w_answer {n : Nat} {M E : gM} {a1 : Int32} {v : Int32} (hn : n < 512) (hI : Inv n M) (h : f_X8_answer M a1 = rRet v E) : ∃ M1, f_W_answer M a1 = qRet v.toInt64 M1 ∧ Ag M1 E ∧ Inv (n + 1) M1 := by
  have e : f_L_answer M a1 = rRet 0 (gset E 10 0 v) := by
    unfold f_L_answer
    rw [h, rc_ret]
  refine ⟨gh E (f_X9_answer (f_L_answer M a1).2.2 a1), ?_, gh_ag _ _, gh_I (f := fun M1 => f_X9_answer M1 a1) (P := Inv (n + 1)) (st_answer n M a1 hn hI) (fun M2 => fr_X9_answer (Ag.rfl M2)) ?_⟩
  · unfold f_W_answer
    rw [h, rq_ret]
  · rw [e]
    exact (Ag.rfl E).st (by decide)
theorem w_motion {n : Nat} {M E : gM} {a1 : Int32} {v : Int32} (hn : n < 512) (hI : Inv n M) (h : f_X8_motion M a1 = rRet v E) : ∃ M1, f_W_motion M a1 = qRet v.toInt64 M1 ∧ Ag M1 E ∧ Inv (n + 1) M1 := by
  have e : f_L_motion M a1 = rRet 0 (gset E 10 0 v) := by
    unfold f_L_motion
    rw [h, rc_ret]
  refine ⟨gh E (f_X9_motion (f_L_motion M a1).2.2 a1), ?_, gh_ag _ _, gh_I (f := fun M1 => f_X9_motion M1 a1) (P := Inv (n + 1)) (st_motion n M a1 hn hI) (fun M2 => fr_X9_motion (Ag.rfl M2)) ?_⟩
  · unfold f_W_motion
    rw [h, rq_ret]
  · rw [e]
    exact (Ag.rfl E).st (by decide)
theorem w_respond {n : Nat} {M E : gM} {a1 : Int32} {v : Int32} (hn : n < 512) (hI : Inv n M) (h : f_X8_respond M a1 = rRet v E) : ∃ M1, f_W_respond M a1 = qRet v.toInt64 M1 ∧ Ag M1 E ∧ Inv (n + 1) M1 := by
  have e : f_L_respond M a1 = rRet 0 (gset E 10 0 v) := by
    unfold f_L_respond
    rw [h, rc_ret]
  refine ⟨gh E (f_X9_respond (f_L_respond M a1).2.2 a1), ?_, gh_ag _ _, gh_I (f := fun M1 => f_X9_respond M1 a1) (P := Inv (n + 1)) (st_respond n M a1 hn hI) (fun M2 => fr_X9_respond (Ag.rfl M2)) ?_⟩
  · unfold f_W_respond
    rw [h, rq_ret]
  · rw [e]
    exact (Ag.rfl E).st (by decide)
theorem w_ruling {n : Nat} {M E : gM} {a1 : Int32} {a2 : Int32} {v : Int32} (hn : n < 512) (hI : Inv n M) (h : f_X8_ruling M a1 a2 = rRet v E) : ∃ M1, f_W_ruling M a1 a2 = qRet v.toInt64 M1 ∧ Ag M1 E ∧ Inv (n + 1) M1 := by
  have e : f_L_ruling M a1 a2 = rRet 0 (gset E 10 0 v) := by
    unfold f_L_ruling
    rw [h, rc_ret]
  refine ⟨gh E (f_X9_ruling (f_L_ruling M a1 a2).2.2 a1 a2), ?_, gh_ag _ _, gh_I (f := fun M1 => f_X9_ruling M1 a1 a2) (P := Inv (n + 1)) (st_ruling n M a1 a2 hn hI) (fun M2 => fr_X9_ruling (Ag.rfl M2)) ?_⟩
  · unfold f_W_ruling
    rw [h, rq_ret]
  · rw [e]
    exact (Ag.rfl E).st (by decide)
theorem w_judge {n : Nat} {M E : gM} {a1 : Int32} {a2 : Int32} {v : Int32} (hn : n < 512) (hI : Inv n M) (h : f_X8_judge M a1 a2 = rRet v E) : ∃ M1, f_W_judge M a1 a2 = qRet v.toInt64 M1 ∧ Ag M1 E ∧ Inv (n + 1) M1 := by
  have e : f_L_judge M a1 a2 = rRet 0 (gset E 10 0 v) := by
    unfold f_L_judge
    rw [h, rc_ret]
  refine ⟨gh E (f_X9_judge (f_L_judge M a1 a2).2.2 a1 a2), ?_, gh_ag _ _, gh_I (f := fun M1 => f_X9_judge M1 a1 a2) (P := Inv (n + 1)) (st_judge n M a1 a2 hn hI) (fun M2 => fr_X9_judge (Ag.rfl M2)) ?_⟩
  · unfold f_W_judge
    rw [h, rq_ret]
  · rw [e]
    exact (Ag.rfl E).st (by decide)
theorem w_vacate {n : Nat} {M E : gM} {a1 : Int32} {v : Int32} (hn : n < 512) (hI : Inv n M) (h : f_X8_vacate M a1 = rRet v E) : ∃ M1, f_W_vacate M a1 = qRet v.toInt64 M1 ∧ Ag M1 E ∧ Inv (n + 1) M1 := by
  have e : f_L_vacate M a1 = rRet 0 (gset E 10 0 v) := by
    unfold f_L_vacate
    rw [h, rc_ret]
  refine ⟨gh E (f_X9_vacate (f_L_vacate M a1).2.2 a1), ?_, gh_ag _ _, gh_I (f := fun M1 => f_X9_vacate M1 a1) (P := Inv (n + 1)) (st_vacate n M a1 hn hI) (fun M2 => fr_X9_vacate (Ag.rfl M2)) ?_⟩
  · unfold f_W_vacate
    rw [h, rq_ret]
  · rw [e]
    exact (Ag.rfl E).st (by decide)
theorem w_appeal {n : Nat} {M E : gM} {a1 : Int32} {v : Int32} (hn : n < 512) (hI : Inv n M) (h : f_X8_appeal M a1 = rRet v E) : ∃ M1, f_W_appeal M a1 = qRet v.toInt64 M1 ∧ Ag M1 E ∧ Inv (n + 1) M1 := by
  have e : f_L_appeal M a1 = rRet 0 (gset E 10 0 v) := by
    unfold f_L_appeal
    rw [h, rc_ret]
  refine ⟨gh E (f_X9_appeal (f_L_appeal M a1).2.2 a1), ?_, gh_ag _ _, gh_I (f := fun M1 => f_X9_appeal M1 a1) (P := Inv (n + 1)) (st_appeal n M a1 hn hI) (fun M2 => fr_X9_appeal (Ag.rfl M2)) ?_⟩
  · unfold f_W_appeal
    rw [h, rq_ret]
  · rw [e]
    exact (Ag.rfl E).st (by decide)
theorem w_decide {n : Nat} {M E : gM} {a1 : Int32} {a2 : Int32} {a3 : Int32} {v : Int32} (hn : n < 512) (hI : Inv n M) (h : f_X8_decide M a1 a2 a3 = rRet v E) : ∃ M1, f_W_decide M a1 a2 a3 = qRet v.toInt64 M1 ∧ Ag M1 E ∧ Inv (n + 1) M1 := by
  have e : f_L_decide M a1 a2 a3 = rRet 0 (gset E 10 0 v) := by
    unfold f_L_decide
    rw [h, rc_ret]
  refine ⟨gh E (f_X9_decide (f_L_decide M a1 a2 a3).2.2 a1 a2 a3), ?_, gh_ag _ _, gh_I (f := fun M1 => f_X9_decide M1 a1 a2 a3) (P := Inv (n + 1)) (st_decide n M a1 a2 a3 hn hI) (fun M2 => fr_X9_decide (Ag.rfl M2)) ?_⟩
  · unfold f_W_decide
    rw [h, rq_ret]
  · rw [e]
    exact (Ag.rfl E).st (by decide)
theorem w_settle {n : Nat} {M E : gM} {a1 : Int32} {v : Int32} (hn : n < 512) (hI : Inv n M) (h : f_X8_settle M a1 = rRet v E) : ∃ M1, f_W_settle M a1 = qRet v.toInt64 M1 ∧ Ag M1 E ∧ Inv (n + 1) M1 := by
  have e : f_L_settle M a1 = rRet 0 (gset E 10 0 v) := by
    unfold f_L_settle
    rw [h, rc_ret]
  refine ⟨gh E (f_X9_settle (f_L_settle M a1).2.2 a1), ?_, gh_ag _ _, gh_I (f := fun M1 => f_X9_settle M1 a1) (P := Inv (n + 1)) (st_settle n M a1 hn hI) (fun M2 => fr_X9_settle (Ag.rfl M2)) ?_⟩
  · unfold f_W_settle
    rw [h, rq_ret]
  · rw [e]
    exact (Ag.rfl E).st (by decide)
theorem w_pay {n : Nat} {M E : gM} {a1 : Int32} {a2 : Int32} {v : Int32} (hn : n < 512) (hI : Inv n M) (h : f_X8_pay M a1 a2 = rRet v E) : ∃ M1, f_W_pay M a1 a2 = qRet v.toInt64 M1 ∧ Ag M1 E ∧ Inv (n + 1) M1 := by
  have e : f_L_pay M a1 a2 = rRet 0 (gset E 10 0 v) := by
    unfold f_L_pay
    rw [h, rc_ret]
  refine ⟨gh E (f_X9_pay (f_L_pay M a1 a2).2.2 a1 a2), ?_, gh_ag _ _, gh_I (f := fun M1 => f_X9_pay M1 a1 a2) (P := Inv (n + 1)) (st_pay n M a1 a2 hn hI) (fun M2 => fr_X9_pay (Ag.rfl M2)) ?_⟩
  · unfold f_W_pay
    rw [h, rq_ret]
  · rw [e]
    exact (Ag.rfl E).st (by decide)
theorem w_stay {n : Nat} {M E : gM} {a1 : Int32} {a2 : Int32} {v : Int32} (hz : z01 a2) (hn : n < 512) (hI : Inv n M) (h : f_X8_stay M a1 a2 = rRet v E) : ∃ M1, f_W_stay M a1 a2 = qRet v.toInt64 M1 ∧ Ag M1 E ∧ Inv (n + 1) M1 := by
  have e : f_L_stay M a1 a2 = rRet 0 (gset E 10 0 v) := by
    unfold f_L_stay
    rw [h, rc_ret]
  refine ⟨gh E (f_X9_stay (f_L_stay M a1 a2).2.2 a1 a2), ?_, gh_ag _ _, gh_I (f := fun M1 => f_X9_stay M1 a1 a2) (P := Inv (n + 1)) ((by have g := st_stay n M a1 a2 hn hI; rw [gb_of hz] at g; exact g)) (fun M2 => fr_X9_stay (Ag.rfl M2)) ?_⟩
  · unfold f_W_stay
    rw [h, rq_ret]
  · rw [e]
    exact (Ag.rfl E).st (by decide)
theorem w_defect {n : Nat} {M E : gM} {a1 : Int32} {v : Int32} (hn : n < 512) (hI : Inv n M) (h : f_X8_defect M a1 = rRet v E) : ∃ M1, f_W_defect M a1 = qRet v.toInt64 M1 ∧ Ag M1 E ∧ Inv (n + 1) M1 := by
  have e : f_L_defect M a1 = rRet 0 (gset E 10 0 v) := by
    unfold f_L_defect
    rw [h, rc_ret]
  refine ⟨gh E (f_X9_defect (f_L_defect M a1).2.2 a1), ?_, gh_ag _ _, gh_I (f := fun M1 => f_X9_defect M1 a1) (P := Inv (n + 1)) (st_defect n M a1 hn hI) (fun M2 => fr_X9_defect (Ag.rfl M2)) ?_⟩
  · unfold f_W_defect
    rw [h, rq_ret]
  · rw [e]
    exact (Ag.rfl E).st (by decide)
theorem w_cure {n : Nat} {M E : gM} {a1 : Int32} {v : Int32} (hn : n < 512) (hI : Inv n M) (h : f_X8_cure M a1 = rRet v E) : ∃ M1, f_W_cure M a1 = qRet (if v = 0 then 0 else 1) M1 ∧ Ag M1 E ∧ Inv (n + 1) M1 := by
  have e : f_L_cure M a1 = rRet 0 (gset E 10 0 (if v = 0 then 0 else 1)) := by
    unfold f_L_cure
    rw [h, rc_ret]
    by_cases c : v = 0
    · rw [if_pos c, if_pos c]
    · rw [if_neg c, if_neg c]
  refine ⟨gh E (f_X9_cure (f_L_cure M a1).2.2 a1), ?_, gh_ag _ _, gh_B (f := fun M1 => f_X9_cure M1 a1) (P := Inv (n + 1)) (st_cure n M a1 hn hI) (fun M2 => fr_X9_cure (Ag.rfl M2)) ?_⟩
  · unfold f_W_cure
    rw [h, rq_ret]
    by_cases c : v = 0
    · rw [if_pos c, if_pos c]
    · rw [if_neg c, if_neg c]
  · rw [e]
    exact (Ag.rfl E).st (by decide)
theorem w_extend {n : Nat} {M E : gM} {a1 : Int32} {a2 : Int32} {a3 : Int32} {v : Int32} (hn : n < 512) (hI : Inv n M) (h : f_X8_extend M a1 a2 a3 = rRet v E) : ∃ M1, f_W_extend M a1 a2 a3 = qRet v.toInt64 M1 ∧ Ag M1 E ∧ Inv (n + 1) M1 := by
  have e : f_L_extend M a1 a2 a3 = rRet 0 (gset E 10 0 v) := by
    unfold f_L_extend
    rw [h, rc_ret]
  refine ⟨gh E (f_X9_extend (f_L_extend M a1 a2 a3).2.2 a1 a2 a3), ?_, gh_ag _ _, gh_I (f := fun M1 => f_X9_extend M1 a1 a2 a3) (P := Inv (n + 1)) (st_extend n M a1 a2 a3 hn hI) (fun M2 => fr_X9_extend (Ag.rfl M2)) ?_⟩
  · unfold f_W_extend
    rw [h, rq_ret]
  · rw [e]
    exact (Ag.rfl E).st (by decide)
theorem w_seal {n : Nat} {M E : gM} {a1 : Int32} {a2 : Int32} {v : Int32} (hz : z01 a2) (hn : n < 512) (hI : Inv n M) (h : f_X8_seal M a1 a2 = rRet v E) : ∃ M1, f_W_seal M a1 a2 = qRet (if v = 0 then 0 else 1) M1 ∧ Ag M1 E ∧ Inv (n + 1) M1 := by
  have e : f_L_seal M a1 a2 = rRet 0 (gset E 10 0 (if v = 0 then 0 else 1)) := by
    unfold f_L_seal
    rw [h, rc_ret]
    by_cases c : v = 0
    · rw [if_pos c, if_pos c]
    · rw [if_neg c, if_neg c]
  refine ⟨gh E (f_X9_seal (f_L_seal M a1 a2).2.2 a1 a2), ?_, gh_ag _ _, gh_B (f := fun M1 => f_X9_seal M1 a1 a2) (P := Inv (n + 1)) ((by have g := st_seal n M a1 a2 hn hI; rw [gb_of hz] at g; exact g)) (fun M2 => fr_X9_seal (Ag.rfl M2)) ?_⟩
  · unfold f_W_seal
    rw [h, rq_ret]
    by_cases c : v = 0
    · rw [if_pos c, if_pos c]
    · rw [if_neg c, if_neg c]
  · rw [e]
    exact (Ag.rfl E).st (by decide)
theorem x1_pass {M E : gM} {a1 : Int32} (h : f_X8_pass M a1 = rThr 1 E) : f_W_pass M a1 = qRet (-9000000000000000002) E := by
  unfold f_W_pass
  rw [h, rq_thr]
  rfl
theorem x2_pass {M E : gM} {a1 : Int32} (h : f_X8_pass M a1 = rThr 2 E) : f_W_pass M a1 = qRet (-9000000000000000003) E := by
  unfold f_W_pass
  rw [h, rq_thr]
  rfl
theorem x1_holiday {M E : gM} {a1 : Int32} (h : f_X8_holiday M a1 = rThr 1 E) : f_W_holiday M a1 = qRet (-9000000000000000002) E := by
  unfold f_W_holiday
  rw [h, rq_thr]
  rfl
theorem x2_holiday {M E : gM} {a1 : Int32} (h : f_X8_holiday M a1 = rThr 2 E) : f_W_holiday M a1 = qRet (-9000000000000000003) E := by
  unfold f_W_holiday
  rw [h, rq_thr]
  rfl
theorem x0_setRule {M E : gM} {a1 : Int32} {a2 : Int32} {a3 : Int32} (h : f_X8_setRule M a1 a2 a3 = rThr 0 E) : f_W_setRule M a1 a2 a3 = qRet (-9000000000000000001) E := by
  unfold f_W_setRule
  rw [h, rq_thr]
  rfl
theorem x1_setRule {M E : gM} {a1 : Int32} {a2 : Int32} {a3 : Int32} (h : f_X8_setRule M a1 a2 a3 = rThr 1 E) : f_W_setRule M a1 a2 a3 = qRet (-9000000000000000002) E := by
  unfold f_W_setRule
  rw [h, rq_thr]
  rfl
theorem x0_open {M E : gM} {a1 : Int32} (h : f_X8_open M a1 = rThr 0 E) : f_W_open M a1 = qRet (-9000000000000000001) E := by
  unfold f_W_open
  rw [h, rq_thr]
  rfl
theorem x2_open {M E : gM} {a1 : Int32} (h : f_X8_open M a1 = rThr 2 E) : f_W_open M a1 = qRet (-9000000000000000003) E := by
  unfold f_W_open
  rw [h, rq_thr]
  rfl
theorem x0_join {M E : gM} {a1 : Int32} {a2 : Int32} {a3 : Int32} (h : f_X8_join M a1 a2 a3 = rThr 0 E) : f_W_join M a1 a2 a3 = qRet (-9000000000000000001) E := by
  unfold f_W_join
  rw [h, rq_thr]
  rfl
theorem x2_join {M E : gM} {a1 : Int32} {a2 : Int32} {a3 : Int32} (h : f_X8_join M a1 a2 a3 = rThr 2 E) : f_W_join M a1 a2 a3 = qRet (-9000000000000000003) E := by
  unfold f_W_join
  rw [h, rq_thr]
  rfl
theorem x0_lead {M E : gM} {a1 : Int32} {a2 : Int32} (h : f_X8_lead M a1 a2 = rThr 0 E) : f_W_lead M a1 a2 = qRet (-9000000000000000001) E := by
  unfold f_W_lead
  rw [h, rq_thr]
  rfl
theorem x2_lead {M E : gM} {a1 : Int32} {a2 : Int32} (h : f_X8_lead M a1 a2 = rThr 2 E) : f_W_lead M a1 a2 = qRet (-9000000000000000003) E := by
  unfold f_W_lead
  rw [h, rq_thr]
  rfl
theorem r_lead {M E : gM} {a1 : Int32} {a2 : Int32} {v : Int32} (h : f_X8_lead M a1 a2 = rRet v E) : f_W_lead M a1 a2 = qRet v.toInt64 E := by
  unfold f_W_lead
  rw [h, rq_ret]
theorem x0_claim {M E : gM} {a1 : Int32} {a2 : Int32} {a3 : Int32} {a4 : Int32} (h : f_X8_claim M a1 a2 a3 a4 = rThr 0 E) : f_W_claim M a1 a2 a3 a4 = qRet (-9000000000000000001) E := by
  unfold f_W_claim
  rw [h, rq_thr]
  rfl
theorem x1_claim {M E : gM} {a1 : Int32} {a2 : Int32} {a3 : Int32} {a4 : Int32} (h : f_X8_claim M a1 a2 a3 a4 = rThr 1 E) : f_W_claim M a1 a2 a3 a4 = qRet (-9000000000000000002) E := by
  unfold f_W_claim
  rw [h, rq_thr]
  rfl
theorem x2_claim {M E : gM} {a1 : Int32} {a2 : Int32} {a3 : Int32} {a4 : Int32} (h : f_X8_claim M a1 a2 a3 a4 = rThr 2 E) : f_W_claim M a1 a2 a3 a4 = qRet (-9000000000000000003) E := by
  unfold f_W_claim
  rw [h, rq_thr]
  rfl
theorem x0_sever {M E : gM} {a1 : Int32} (h : f_X8_sever M a1 = rThr 0 E) : f_W_sever M a1 = qRet (-9000000000000000001) E := by
  unfold f_W_sever
  rw [h, rq_thr]
  rfl
theorem x2_sever {M E : gM} {a1 : Int32} (h : f_X8_sever M a1 = rThr 2 E) : f_W_sever M a1 = qRet (-9000000000000000003) E := by
  unfold f_W_sever
  rw [h, rq_thr]
  rfl
theorem r_sever {M E : gM} {a1 : Int32} {v : Int32} (h : f_X8_sever M a1 = rRet v E) : f_W_sever M a1 = qRet v.toInt64 E := by
  unfold f_W_sever
  rw [h, rq_ret]
theorem x0_serve {M E : gM} {a1 : Int32} {a2 : Int32} (h : f_X8_serve M a1 a2 = rThr 0 E) : f_W_serve M a1 a2 = qRet (-9000000000000000001) E := by
  unfold f_W_serve
  rw [h, rq_thr]
  rfl
theorem x2_serve {M E : gM} {a1 : Int32} {a2 : Int32} (h : f_X8_serve M a1 a2 = rThr 2 E) : f_W_serve M a1 a2 = qRet (-9000000000000000003) E := by
  unfold f_W_serve
  rw [h, rq_thr]
  rfl
theorem x0_answer {M E : gM} {a1 : Int32} (h : f_X8_answer M a1 = rThr 0 E) : f_W_answer M a1 = qRet (-9000000000000000001) E := by
  unfold f_W_answer
  rw [h, rq_thr]
  rfl
theorem x2_answer {M E : gM} {a1 : Int32} (h : f_X8_answer M a1 = rThr 2 E) : f_W_answer M a1 = qRet (-9000000000000000003) E := by
  unfold f_W_answer
  rw [h, rq_thr]
  rfl
theorem x0_motion {M E : gM} {a1 : Int32} (h : f_X8_motion M a1 = rThr 0 E) : f_W_motion M a1 = qRet (-9000000000000000001) E := by
  unfold f_W_motion
  rw [h, rq_thr]
  rfl
theorem x2_motion {M E : gM} {a1 : Int32} (h : f_X8_motion M a1 = rThr 2 E) : f_W_motion M a1 = qRet (-9000000000000000003) E := by
  unfold f_W_motion
  rw [h, rq_thr]
  rfl
theorem x0_respond {M E : gM} {a1 : Int32} (h : f_X8_respond M a1 = rThr 0 E) : f_W_respond M a1 = qRet (-9000000000000000001) E := by
  unfold f_W_respond
  rw [h, rq_thr]
  rfl
theorem x2_respond {M E : gM} {a1 : Int32} (h : f_X8_respond M a1 = rThr 2 E) : f_W_respond M a1 = qRet (-9000000000000000003) E := by
  unfold f_W_respond
  rw [h, rq_thr]
  rfl
theorem x0_ruling {M E : gM} {a1 : Int32} {a2 : Int32} (h : f_X8_ruling M a1 a2 = rThr 0 E) : f_W_ruling M a1 a2 = qRet (-9000000000000000001) E := by
  unfold f_W_ruling
  rw [h, rq_thr]
  rfl
theorem x1_ruling {M E : gM} {a1 : Int32} {a2 : Int32} (h : f_X8_ruling M a1 a2 = rThr 1 E) : f_W_ruling M a1 a2 = qRet (-9000000000000000002) E := by
  unfold f_W_ruling
  rw [h, rq_thr]
  rfl
theorem x2_ruling {M E : gM} {a1 : Int32} {a2 : Int32} (h : f_X8_ruling M a1 a2 = rThr 2 E) : f_W_ruling M a1 a2 = qRet (-9000000000000000003) E := by
  unfold f_W_ruling
  rw [h, rq_thr]
  rfl
theorem x0_judge {M E : gM} {a1 : Int32} {a2 : Int32} (h : f_X8_judge M a1 a2 = rThr 0 E) : f_W_judge M a1 a2 = qRet (-9000000000000000001) E := by
  unfold f_W_judge
  rw [h, rq_thr]
  rfl
theorem x1_judge {M E : gM} {a1 : Int32} {a2 : Int32} (h : f_X8_judge M a1 a2 = rThr 1 E) : f_W_judge M a1 a2 = qRet (-9000000000000000002) E := by
  unfold f_W_judge
  rw [h, rq_thr]
  rfl
theorem x2_judge {M E : gM} {a1 : Int32} {a2 : Int32} (h : f_X8_judge M a1 a2 = rThr 2 E) : f_W_judge M a1 a2 = qRet (-9000000000000000003) E := by
  unfold f_W_judge
  rw [h, rq_thr]
  rfl
theorem x0_vacate {M E : gM} {a1 : Int32} (h : f_X8_vacate M a1 = rThr 0 E) : f_W_vacate M a1 = qRet (-9000000000000000001) E := by
  unfold f_W_vacate
  rw [h, rq_thr]
  rfl
theorem x2_vacate {M E : gM} {a1 : Int32} (h : f_X8_vacate M a1 = rThr 2 E) : f_W_vacate M a1 = qRet (-9000000000000000003) E := by
  unfold f_W_vacate
  rw [h, rq_thr]
  rfl
theorem x0_appeal {M E : gM} {a1 : Int32} (h : f_X8_appeal M a1 = rThr 0 E) : f_W_appeal M a1 = qRet (-9000000000000000001) E := by
  unfold f_W_appeal
  rw [h, rq_thr]
  rfl
theorem x2_appeal {M E : gM} {a1 : Int32} (h : f_X8_appeal M a1 = rThr 2 E) : f_W_appeal M a1 = qRet (-9000000000000000003) E := by
  unfold f_W_appeal
  rw [h, rq_thr]
  rfl
theorem x0_decide {M E : gM} {a1 : Int32} {a2 : Int32} {a3 : Int32} (h : f_X8_decide M a1 a2 a3 = rThr 0 E) : f_W_decide M a1 a2 a3 = qRet (-9000000000000000001) E := by
  unfold f_W_decide
  rw [h, rq_thr]
  rfl
theorem x1_decide {M E : gM} {a1 : Int32} {a2 : Int32} {a3 : Int32} (h : f_X8_decide M a1 a2 a3 = rThr 1 E) : f_W_decide M a1 a2 a3 = qRet (-9000000000000000002) E := by
  unfold f_W_decide
  rw [h, rq_thr]
  rfl
theorem x2_decide {M E : gM} {a1 : Int32} {a2 : Int32} {a3 : Int32} (h : f_X8_decide M a1 a2 a3 = rThr 2 E) : f_W_decide M a1 a2 a3 = qRet (-9000000000000000003) E := by
  unfold f_W_decide
  rw [h, rq_thr]
  rfl
theorem x0_settle {M E : gM} {a1 : Int32} (h : f_X8_settle M a1 = rThr 0 E) : f_W_settle M a1 = qRet (-9000000000000000001) E := by
  unfold f_W_settle
  rw [h, rq_thr]
  rfl
theorem x2_settle {M E : gM} {a1 : Int32} (h : f_X8_settle M a1 = rThr 2 E) : f_W_settle M a1 = qRet (-9000000000000000003) E := by
  unfold f_W_settle
  rw [h, rq_thr]
  rfl
theorem x0_pay {M E : gM} {a1 : Int32} {a2 : Int32} (h : f_X8_pay M a1 a2 = rThr 0 E) : f_W_pay M a1 a2 = qRet (-9000000000000000001) E := by
  unfold f_W_pay
  rw [h, rq_thr]
  rfl
theorem x1_pay {M E : gM} {a1 : Int32} {a2 : Int32} (h : f_X8_pay M a1 a2 = rThr 1 E) : f_W_pay M a1 a2 = qRet (-9000000000000000002) E := by
  unfold f_W_pay
  rw [h, rq_thr]
  rfl
theorem x2_pay {M E : gM} {a1 : Int32} {a2 : Int32} (h : f_X8_pay M a1 a2 = rThr 2 E) : f_W_pay M a1 a2 = qRet (-9000000000000000003) E := by
  unfold f_W_pay
  rw [h, rq_thr]
  rfl
theorem x0_stay {M E : gM} {a1 : Int32} {a2 : Int32} (h : f_X8_stay M a1 a2 = rThr 0 E) : f_W_stay M a1 a2 = qRet (-9000000000000000001) E := by
  unfold f_W_stay
  rw [h, rq_thr]
  rfl
theorem x2_stay {M E : gM} {a1 : Int32} {a2 : Int32} (h : f_X8_stay M a1 a2 = rThr 2 E) : f_W_stay M a1 a2 = qRet (-9000000000000000003) E := by
  unfold f_W_stay
  rw [h, rq_thr]
  rfl
theorem x0_defect {M E : gM} {a1 : Int32} (h : f_X8_defect M a1 = rThr 0 E) : f_W_defect M a1 = qRet (-9000000000000000001) E := by
  unfold f_W_defect
  rw [h, rq_thr]
  rfl
theorem x2_defect {M E : gM} {a1 : Int32} (h : f_X8_defect M a1 = rThr 2 E) : f_W_defect M a1 = qRet (-9000000000000000003) E := by
  unfold f_W_defect
  rw [h, rq_thr]
  rfl
theorem x0_cure {M E : gM} {a1 : Int32} (h : f_X8_cure M a1 = rThr 0 E) : f_W_cure M a1 = qRet (-9000000000000000001) E := by
  unfold f_W_cure
  rw [h, rq_thr]
  rfl
theorem x2_cure {M E : gM} {a1 : Int32} (h : f_X8_cure M a1 = rThr 2 E) : f_W_cure M a1 = qRet (-9000000000000000003) E := by
  unfold f_W_cure
  rw [h, rq_thr]
  rfl
theorem x0_extend {M E : gM} {a1 : Int32} {a2 : Int32} {a3 : Int32} (h : f_X8_extend M a1 a2 a3 = rThr 0 E) : f_W_extend M a1 a2 a3 = qRet (-9000000000000000001) E := by
  unfold f_W_extend
  rw [h, rq_thr]
  rfl
theorem x1_extend {M E : gM} {a1 : Int32} {a2 : Int32} {a3 : Int32} (h : f_X8_extend M a1 a2 a3 = rThr 1 E) : f_W_extend M a1 a2 a3 = qRet (-9000000000000000002) E := by
  unfold f_W_extend
  rw [h, rq_thr]
  rfl
theorem x2_extend {M E : gM} {a1 : Int32} {a2 : Int32} {a3 : Int32} (h : f_X8_extend M a1 a2 a3 = rThr 2 E) : f_W_extend M a1 a2 a3 = qRet (-9000000000000000003) E := by
  unfold f_W_extend
  rw [h, rq_thr]
  rfl
theorem x0_hearing {M E : gM} {a1 : Int32} {a2 : Int32} {a3 : Int32} (h : f_X8_hearing M a1 a2 a3 = rThr 0 E) : f_W_hearing M a1 a2 a3 = qRet (-9000000000000000001) E := by
  unfold f_W_hearing
  rw [h, rq_thr]
  rfl
theorem x1_hearing {M E : gM} {a1 : Int32} {a2 : Int32} {a3 : Int32} (h : f_X8_hearing M a1 a2 a3 = rThr 1 E) : f_W_hearing M a1 a2 a3 = qRet (-9000000000000000002) E := by
  unfold f_W_hearing
  rw [h, rq_thr]
  rfl
theorem x2_hearing {M E : gM} {a1 : Int32} {a2 : Int32} {a3 : Int32} (h : f_X8_hearing M a1 a2 a3 = rThr 2 E) : f_W_hearing M a1 a2 a3 = qRet (-9000000000000000003) E := by
  unfold f_W_hearing
  rw [h, rq_thr]
  rfl
theorem r_hearing {M E : gM} {a1 : Int32} {a2 : Int32} {a3 : Int32} {v : Int32} (h : f_X8_hearing M a1 a2 a3 = rRet v E) : f_W_hearing M a1 a2 a3 = qRet v.toInt64 E := by
  unfold f_W_hearing
  rw [h, rq_ret]
theorem x0_goesOn {M E : gM} {a1 : Int32} (h : f_X8_continueHearing M a1 = rThr 0 E) : f_W_goesOn M a1 = qRet (-9000000000000000001) E := by
  unfold f_W_goesOn
  rw [h, rq_thr]
  rfl
theorem x2_goesOn {M E : gM} {a1 : Int32} (h : f_X8_continueHearing M a1 = rThr 2 E) : f_W_goesOn M a1 = qRet (-9000000000000000003) E := by
  unfold f_W_goesOn
  rw [h, rq_thr]
  rfl
theorem r_goesOn {M E : gM} {a1 : Int32} {v : Int32} (h : f_X8_continueHearing M a1 = rRet v E) : f_W_goesOn M a1 = qRet v.toInt64 E := by
  unfold f_W_goesOn
  rw [h, rq_ret]
theorem x0_hearingAt {M E : gM} {a1 : Int32} (h : f_X8_hearingAt M a1 = rThr 0 E) : f_W_hearingAt M a1 = qRet (-9000000000000000001) E := by
  unfold f_W_hearingAt
  rw [h, rq_thr]
  rfl
theorem r_hearingAt {M E : gM} {a1 : Int32} {v : Int32} (h : f_X8_hearingAt M a1 = rRet v E) : f_W_hearingAt M a1 = qRet v.toInt64 E := by
  unfold f_W_hearingAt
  rw [h, rq_ret]
theorem x0_strike {M E : gM} {a1 : Int32} {a2 : Int32} {a3 : Int32} (h : f_X8_strike M a1 a2 a3 = rThr 0 E) : f_W_strike M a1 a2 a3 = qRet (-9000000000000000001) E := by
  unfold f_W_strike
  rw [h, rq_thr]
  rfl
theorem x2_strike {M E : gM} {a1 : Int32} {a2 : Int32} {a3 : Int32} (h : f_X8_strike M a1 a2 a3 = rThr 2 E) : f_W_strike M a1 a2 a3 = qRet (-9000000000000000003) E := by
  unfold f_W_strike
  rw [h, rq_thr]
  rfl
theorem r_strike {M E : gM} {a1 : Int32} {a2 : Int32} {a3 : Int32} {v : Int32} (h : f_X8_strike M a1 a2 a3 = rRet v E) : f_W_strike M a1 a2 a3 = qRet v.toInt64 E := by
  unfold f_W_strike
  rw [h, rq_ret]
theorem x0_dismiss {M E : gM} {a1 : Int32} {a2 : Int32} (h : f_X8_dismiss M a1 a2 = rThr 0 E) : f_W_dismiss M a1 a2 = qRet (-9000000000000000001) E := by
  unfold f_W_dismiss
  rw [h, rq_thr]
  rfl
theorem x2_dismiss {M E : gM} {a1 : Int32} {a2 : Int32} (h : f_X8_dismiss M a1 a2 = rThr 2 E) : f_W_dismiss M a1 a2 = qRet (-9000000000000000003) E := by
  unfold f_W_dismiss
  rw [h, rq_thr]
  rfl
theorem r_dismiss {M E : gM} {a1 : Int32} {a2 : Int32} {v : Int32} (h : f_X8_dismiss M a1 a2 = rRet v E) : f_W_dismiss M a1 a2 = qRet v.toInt64 E := by
  unfold f_W_dismiss
  rw [h, rq_ret]
theorem x0_seat {M E : gM} {a1 : Int32} {a2 : Int32} (h : f_X8_seat M a1 a2 = rThr 0 E) : f_W_seat M a1 a2 = qRet (-9000000000000000001) E := by
  unfold f_W_seat
  rw [h, rq_thr]
  rfl
theorem r_seat {M E : gM} {a1 : Int32} {a2 : Int32} {v : Int32} (h : f_X8_seat M a1 a2 = rRet v E) : f_W_seat M a1 a2 = qRet v.toInt64 E := by
  unfold f_W_seat
  rw [h, rq_ret]
theorem x0_exhibit {M E : gM} {a1 : Int32} {a2 : Int32} (h : f_X8_exhibit M a1 a2 = rThr 0 E) : f_W_exhibit M a1 a2 = qRet (-9000000000000000001) E := by
  unfold f_W_exhibit
  rw [h, rq_thr]
  rfl
theorem x2_exhibit {M E : gM} {a1 : Int32} {a2 : Int32} (h : f_X8_exhibit M a1 a2 = rThr 2 E) : f_W_exhibit M a1 a2 = qRet (-9000000000000000003) E := by
  unfold f_W_exhibit
  rw [h, rq_thr]
  rfl
theorem r_exhibit {M E : gM} {a1 : Int32} {a2 : Int32} {v : Int32} (h : f_X8_exhibit M a1 a2 = rRet v E) : f_W_exhibit M a1 a2 = qRet v.toInt64 E := by
  unfold f_W_exhibit
  rw [h, rq_ret]
theorem x0_hand {M E : gM} {a1 : Int32} {a2 : Int32} {a3 : Int32} (h : f_X8_hand M a1 a2 a3 = rThr 0 E) : f_W_hand M a1 a2 a3 = qRet (-9000000000000000001) E := by
  unfold f_W_hand
  rw [h, rq_thr]
  rfl
theorem r_hand {M E : gM} {a1 : Int32} {a2 : Int32} {a3 : Int32} {v : Int32} (h : f_X8_hand M a1 a2 a3 = rRet v E) : f_W_hand M a1 a2 a3 = qRet (if v = 0 then 0 else 1) E := by
  unfold f_W_hand
  rw [h, rq_ret]
  by_cases c : v = 0
  · rw [if_pos c, if_pos c]
  · rw [if_neg c, if_neg c]
theorem x0_object {M E : gM} {a1 : Int32} {a2 : Int32} (h : f_X8_object M a1 a2 = rThr 0 E) : f_W_object M a1 a2 = qRet (-9000000000000000001) E := by
  unfold f_W_object
  rw [h, rq_thr]
  rfl
theorem x2_object {M E : gM} {a1 : Int32} {a2 : Int32} (h : f_X8_object M a1 a2 = rThr 2 E) : f_W_object M a1 a2 = qRet (-9000000000000000003) E := by
  unfold f_W_object
  rw [h, rq_thr]
  rfl
theorem x0_sustain {M E : gM} {a1 : Int32} {a2 : Int32} {a3 : Int32} (h : f_X8_sustain M a1 a2 a3 = rThr 0 E) : f_W_sustain M a1 a2 a3 = qRet (-9000000000000000001) E := by
  unfold f_W_sustain
  rw [h, rq_thr]
  rfl
theorem x2_sustain {M E : gM} {a1 : Int32} {a2 : Int32} {a3 : Int32} (h : f_X8_sustain M a1 a2 a3 = rThr 2 E) : f_W_sustain M a1 a2 a3 = qRet (-9000000000000000003) E := by
  unfold f_W_sustain
  rw [h, rq_thr]
  rfl
theorem x0_admitted {M E : gM} {a1 : Int32} (h : f_X8_isAdmitted M a1 = rThr 0 E) : f_W_admitted M a1 = qRet (-9000000000000000001) E := by
  unfold f_W_admitted
  rw [h, rq_thr]
  rfl
theorem r_admitted {M E : gM} {a1 : Int32} {v : Int32} (h : f_X8_isAdmitted M a1 = rRet v E) : f_W_admitted M a1 = qRet (if v = 0 then 0 else 1) E := by
  unfold f_W_admitted
  rw [h, rq_ret]
  by_cases c : v = 0
  · rw [if_pos c, if_pos c]
  · rw [if_neg c, if_neg c]
theorem x0_seal {M E : gM} {a1 : Int32} {a2 : Int32} (h : f_X8_seal M a1 a2 = rThr 0 E) : f_W_seal M a1 a2 = qRet (-9000000000000000001) E := by
  unfold f_W_seal
  rw [h, rq_thr]
  rfl
theorem x0_maySee {M E : gM} {a1 : Int32} {a2 : Int32} {a3 : Int32} (h : f_X8_maySee M a1 a2 a3 = rThr 0 E) : f_W_maySee M a1 a2 a3 = qRet (-9000000000000000001) E := by
  unfold f_W_maySee
  rw [h, rq_thr]
  rfl
theorem x1_maySee {M E : gM} {a1 : Int32} {a2 : Int32} {a3 : Int32} (h : f_X8_maySee M a1 a2 a3 = rThr 1 E) : f_W_maySee M a1 a2 a3 = qRet (-9000000000000000002) E := by
  unfold f_W_maySee
  rw [h, rq_thr]
  rfl
theorem r_maySee {M E : gM} {a1 : Int32} {a2 : Int32} {a3 : Int32} {v : Int32} (h : f_X8_maySee M a1 a2 a3 = rRet v E) : f_W_maySee M a1 a2 a3 = qRet (if v = 0 then 0 else 1) E := by
  unfold f_W_maySee
  rw [h, rq_ret]
  by_cases c : v = 0
  · rw [if_pos c, if_pos c]
  · rw [if_neg c, if_neg c]
theorem x0_certify {M E : gM} {a1 : Int32} (h : f_X8_certify M a1 = rThr 0 E) : f_W_certify M a1 = qRet (-9000000000000000001) E := by
  unfold f_W_certify
  rw [h, rq_thr]
  rfl
theorem x2_certify {M E : gM} {a1 : Int32} (h : f_X8_certify M a1 = rThr 2 E) : f_W_certify M a1 = qRet (-9000000000000000003) E := by
  unfold f_W_certify
  rw [h, rq_thr]
  rfl
theorem x0_member {M E : gM} {a1 : Int32} {a2 : Int32} {a3 : Int32} (h : f_X8_member M a1 a2 a3 = rThr 0 E) : f_W_member M a1 a2 a3 = qRet (-9000000000000000001) E := by
  unfold f_W_member
  rw [h, rq_thr]
  rfl
theorem x2_member {M E : gM} {a1 : Int32} {a2 : Int32} {a3 : Int32} (h : f_X8_member M a1 a2 a3 = rThr 2 E) : f_W_member M a1 a2 a3 = qRet (-9000000000000000003) E := by
  unfold f_W_member
  rw [h, rq_thr]
  rfl
theorem r_member {M E : gM} {a1 : Int32} {a2 : Int32} {a3 : Int32} {v : Int32} (h : f_X8_member M a1 a2 a3 = rRet v E) : f_W_member M a1 a2 a3 = qRet v.toInt64 E := by
  unfold f_W_member
  rw [h, rq_ret]
theorem x0_share {M E : gM} {a1 : Int32} {a2 : Int32} (h : f_X8_share M a1 a2 = rThr 0 E) : f_W_share M a1 a2 = qRet (-9000000000000000001) E := by
  unfold f_W_share
  rw [h, rq_thr]
  rfl
theorem r_share {M E : gM} {a1 : Int32} {a2 : Int32} {v : Int32} (h : f_X8_share M a1 a2 = rRet v E) : f_W_share M a1 a2 = qRet v.toInt64 E := by
  unfold f_W_share
  rw [h, rq_ret]
theorem x0_entryAt {M E : gM} {a1 : Int32} {a2 : Int32} (h : f_X8_entryAt M a1 a2 = rThr 0 E) : f_W_entryAt M a1 a2 = qRet (-9000000000000000001) E := by
  unfold f_W_entryAt
  rw [h, rq_thr]
  rfl
theorem r_entryAt {M E : gM} {a1 : Int32} {a2 : Int32} {v : Int32} (h : f_X8_entryAt M a1 a2 = rRet v E) : f_W_entryAt M a1 a2 = qRet v.toInt64 E := by
  unfold f_W_entryAt
  rw [h, rq_ret]
theorem x0_counts {M E : gM} {a1 : Int32} (h : f_X8_counts M a1 = rThr 0 E) : f_W_counts M a1 = qRet (-9000000000000000001) E := by
  unfold f_W_counts
  rw [h, rq_thr]
  rfl
theorem r_counts {M E : gM} {a1 : Int32} {v : Int32} (h : f_X8_counts M a1 = rRet v E) : f_W_counts M a1 = qRet (if v = 0 then 0 else 1) E := by
  unfold f_W_counts
  rw [h, rq_ret]
  by_cases c : v = 0
  · rw [if_pos c, if_pos c]
  · rw [if_neg c, if_neg c]
theorem x0_stateOf {M E : gM} {a1 : Int32} (h : f_X8_stateOf M a1 = rThr 0 E) : f_W_stateOf M a1 = qRet (-9000000000000000001) E := by
  unfold f_W_stateOf
  rw [h, rq_thr]
  rfl
theorem r_stateOf {M E : gM} {a1 : Int32} {v : Int32} (h : f_X8_stateOf M a1 = rRet v E) : f_W_stateOf M a1 = qRet v.toInt64 E := by
  unfold f_W_stateOf
  rw [h, rq_ret]
theorem x0_stateByDocket {M E : gM} {a1 : Int32} (h : f_X8_stateByDocket M a1 = rThr 0 E) : f_W_stateByDocket M a1 = qRet (-9000000000000000001) E := by
  unfold f_W_stateByDocket
  rw [h, rq_thr]
  rfl
theorem r_stateByDocket {M E : gM} {a1 : Int32} {v : Int32} (h : f_X8_stateByDocket M a1 = rRet v E) : f_W_stateByDocket M a1 = qRet v.toInt64 E := by
  unfold f_W_stateByDocket
  rw [h, rq_ret]
theorem x0_amountOf {M E : gM} {a1 : Int32} (h : f_X8_amountOf M a1 = rThr 0 E) : f_W_amountOf M a1 = qRet (-9000000000000000001) E := by
  unfold f_W_amountOf
  rw [h, rq_thr]
  rfl
theorem r_amountOf {M E : gM} {a1 : Int32} {v : Int32} (h : f_X8_amountOf M a1 = rRet v E) : f_W_amountOf M a1 = qRet v.toInt64 E := by
  unfold f_W_amountOf
  rw [h, rq_ret]
theorem x0_balance {M E : gM} {a1 : Int32} (h : f_X8_balance M a1 = rThr 0 E) : f_W_balance M a1 = qRet (-9000000000000000001) E := by
  unfold f_W_balance
  rw [h, rq_thr]
  rfl
theorem r_balance {M E : gM} {a1 : Int32} {v : Int32} (h : f_X8_balance M a1 = rRet v E) : f_W_balance M a1 = qRet v.toInt64 E := by
  unfold f_W_balance
  rw [h, rq_ret]
theorem x0_caseOf {M E : gM} {a1 : Int32} (h : f_X8_caseOf M a1 = rThr 0 E) : f_W_caseOf M a1 = qRet (-9000000000000000001) E := by
  unfold f_W_caseOf
  rw [h, rq_thr]
  rfl
theorem r_caseOf {M E : gM} {a1 : Int32} {v : Int32} (h : f_X8_caseOf M a1 = rRet v E) : f_W_caseOf M a1 = qRet v.toInt64 E := by
  unfold f_W_caseOf
  rw [h, rq_ret]
theorem x0_answered {M E : gM} {a1 : Int32} (h : f_X8_isAnswered M a1 = rThr 0 E) : f_W_answered M a1 = qRet (-9000000000000000001) E := by
  unfold f_W_answered
  rw [h, rq_thr]
  rfl
theorem r_answered {M E : gM} {a1 : Int32} {v : Int32} (h : f_X8_isAnswered M a1 = rRet v E) : f_W_answered M a1 = qRet (if v = 0 then 0 else 1) E := by
  unfold f_W_answered
  rw [h, rq_ret]
  by_cases c : v = 0
  · rw [if_pos c, if_pos c]
  · rw [if_neg c, if_neg c]
theorem x0_due {M E : gM} {a1 : Int32} {a2 : Int32} (h : f_X8_due M a1 a2 = rThr 0 E) : f_W_due M a1 a2 = qRet (-9000000000000000001) E := by
  unfold f_W_due
  rw [h, rq_thr]
  rfl
theorem r_due {M E : gM} {a1 : Int32} {a2 : Int32} {v : Int32} (h : f_X8_due M a1 a2 = rRet v E) : f_W_due M a1 a2 = qRet v.toInt64 E := by
  unfold f_W_due
  rw [h, rq_ret]
theorem x0_dueByDays {M E : gM} {a1 : Int32} {a2 : Int32} (h : f_X8_dueByDays M a1 a2 = rThr 0 E) : f_W_dueByDays M a1 a2 = qRet (-9000000000000000001) E := by
  unfold f_W_dueByDays
  rw [h, rq_thr]
  rfl
theorem r_dueByDays {M E : gM} {a1 : Int32} {a2 : Int32} {v : Int32} (h : f_X8_dueByDays M a1 a2 = rRet v E) : f_W_dueByDays M a1 a2 = qRet v.toInt64 E := by
  unfold f_W_dueByDays
  rw [h, rq_ret]
