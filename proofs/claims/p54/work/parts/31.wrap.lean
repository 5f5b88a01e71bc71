theorem cl_L_31 : Cond.classLink RL 31 (gEx 0) ∈ gWS := gIx 504 (by decide +kernel) rfl
theorem cl_L_15 : Cond.classLink RL 15 (gEx 1) ∈ gWS := gIx 384 (by decide +kernel) rfl
theorem cl_L_19 : Cond.classLink RL 19 (gEx 2) ∈ gWS := gIx 385 (by decide +kernel) rfl
theorem lc_L_17 : Cond.constantLong RL 17 (-9000000000000000002) ∈ gWS := gIn (by decide +kernel) rfl
theorem lc_L_21 : Cond.constantLong RL 21 (-9000000000000000003) ∈ gWS := gIn (by decide +kernel) rfl
theorem lc_L_33 : Cond.constantLong RL 33 (-9000000000000000001) ∈ gWS := gIn (by decide +kernel) rfl
theorem lc_L_189 : Cond.constantLong RL 189 5 ∈ gWS := gIn (by decide +kernel) rfl
theorem lc_L_195 : Cond.constantLong RL 195 2 ∈ gWS := gIn (by decide +kernel) rfl
theorem lc_L_204 : Cond.constantLong RL 204 (-1) ∈ gWS := gIn (by decide +kernel) rfl
theorem lc_L_217 : Cond.constantLong RL 217 12 ∈ gWS := gIn (by decide +kernel) rfl
theorem lc_L_219 : Cond.constantLong RL 219 3 ∈ gWS := gIn (by decide +kernel) rfl
theorem lc_L_224 : Cond.constantLong RL 224 4 ∈ gWS := gIn (by decide +kernel) rfl
def f_W_pass (M : gM) (a1 : Int32) : gQ := rq (f_X8_pass M a1) (fun v M1 => qRet v.toInt64 (gh M1 (f_X9_pass (f_L_pass M a1).2.2 a1))) (fun ex M1 => if ex = 1 then qRet (-9000000000000000002) M1 else if ex = 2 then qRet (-9000000000000000003) M1 else qStuck)
abbrev rm_L_pass : Room := { frames := 8, cells := 2, slots := 12, locals := 132 }
theorem mw_X8_pass : Cond.instanceMethod yX8_pass ∈ gWS ∧ Cond.selects RX8 yX8_pass yX8_pass ∈ gWS ∧ Cond.initialized RX8 ∈ gWS ∧ Cond.code yX8_pass cX8_pass 2 (some .int) ∈ gWS := ⟨gIx 387 (by decide +kernel) rfl, gIx 388 (by decide +kernel) rfl, gIx 36 (by decide +kernel) rfl, gIx 389 (by decide +kernel) rfl⟩
set_option maxRecDepth 20000 in
set_option maxHeartbeats 4000000 in
theorem c_L_pass {l : Launch} (hfl : l.stackTraces = false) (Z : gZ) (M : gM) (a1 : Int32) : gMetW l yL_pass cL_pass 3 [(0, 6, 7, 15), (0, 6, 12, 19)] rm_L_pass 2 Z M [.ref (zad Z 0), .int a1] (f_W_pass M a1) := by
  refine v_enter (by decide) (Nat.le_of_ble_eq_true rfl) (fun hF p e s m args below meth c hC hN hlk hrt hT => ?_)
  refine v_lv0 (lv1 := [(0, .ref (zad Z 0)), (1, .int a1)]) rfl ?_
  refine v_aload_n hC 0 dL_pass_0 rfl rfl ?_
  refine v_iload_n hC 1 dL_pass_1 rfl rfl ?_
  refine v_callHi (n := 1) hC [.int a1] 0 8 (by decide) rfl rfl (fun hne => c_X8_pass hfl Z M a1 hne) (rq_ne hF) (gIx 386 (by decide +kernel) rfl) mw_X8_pass.1 mw_X8_pass.2.1 mw_X8_pass.2.2.1 mw_X8_pass.2.2.2 ⟨rfl, by decide, by decide, by decide +kernel⟩ rfl rfl ⟨by decide, by decide⟩ rfl rfl (Nat.le_of_ble_eq_true rfl) (by decide) (by decide) dL_pass_2 (fun ex M1 hr => ?_) (fun v M1 hr => ?_)
  · have e0 : f_W_pass M a1 = (if ex = 1 then qRet (-9000000000000000002) M1 else if ex = 2 then qRet (-9000000000000000003) M1 else qStuck) := by
      unfold f_W_pass
      rw [hr]
      exact rq_thr _ _ _ _
    rw [e0] at hF ⊢
    by_cases h0 : ex = 1
    · subst h0
      rw [if_pos rfl] at hF ⊢
      refine ⟨[], ⟨0, 6, 7, 15⟩, [⟨0, 6, 12, 19⟩], gEx 1, hT.trans rfl, fun z hz => ?_, rfl, by decide, cl_L_15, by decide, fun q9 => ?_⟩
      · cases hz
      · refine v_astore_n hC (lv1 := [(2, .ref q9), (0, .ref (zad Z 0)), (1, .int a1)]) dL_pass_7 rfl (by decide) rfl ?_
        refine v_ldc2 hC (v := (-9000000000000000002)) lc_L_17 dL_pass_8 ?_
        exact v_lret hC rfl hlk hrt (by decide) dL_pass_11
    · rw [if_neg h0] at hF ⊢
      by_cases h1 : ex = 2
      · subst h1
        rw [if_pos rfl] at hF ⊢
        refine ⟨[⟨0, 6, 7, 15⟩], ⟨0, 6, 12, 19⟩, [], gEx 2, hT.trans rfl, fun z hz => ?_, rfl, by decide, cl_L_19, by decide, fun q9 => ?_⟩
        · simp only [List.mem_cons, List.not_mem_nil, or_false] at hz
          subst hz
          exact Or.inr ⟨by decide, gEx 1, cl_L_15, hN 2 1 (by decide) (by decide) (by decide)⟩
        · refine v_astore_n hC (lv1 := [(2, .ref q9), (0, .ref (zad Z 0)), (1, .int a1)]) dL_pass_12 rfl (by decide) rfl ?_
          refine v_ldc2 hC (v := (-9000000000000000003)) lc_L_21 dL_pass_13 ?_
          exact v_lret hC rfl hlk hrt (by decide) dL_pass_16
      · rw [if_neg h1] at hF ⊢
        exact absurd rfl hF
  · have e0 : f_W_pass M a1 = qRet v.toInt64 (gh M1 (f_X9_pass (f_L_pass M a1).2.2 a1)) := by
      unfold f_W_pass
      rw [hr]
      rfl
    rw [e0] at hF ⊢
    refine v_i2l hC dL_pass_5 ?_
    exact v_lret hC (gL_gh _ _) hlk hrt (by decide) dL_pass_6
def f_W_holiday (M : gM) (a1 : Int32) : gQ := rq (f_X8_holiday M a1) (fun v M1 => if v = 0 then qRet 0 (gh M1 (f_X9_holiday (f_L_holiday M a1).2.2 a1)) else qRet 1 (gh M1 (f_X9_holiday (f_L_holiday M a1).2.2 a1))) (fun ex M1 => if ex = 1 then qRet (-9000000000000000002) M1 else if ex = 2 then qRet (-9000000000000000003) M1 else qStuck)
abbrev rm_L_holiday : Room := { frames := 7, cells := 1, slots := 6, locals := 112 }
theorem mw_X8_holiday : Cond.instanceMethod yX8_holiday ∈ gWS ∧ Cond.selects RX8 yX8_holiday yX8_holiday ∈ gWS ∧ Cond.initialized RX8 ∈ gWS ∧ Cond.code yX8_holiday cX8_holiday 3 (some .boolean) ∈ gWS := ⟨gIx 484 (by decide +kernel) rfl, gIx 485 (by decide +kernel) rfl, gIx 36 (by decide +kernel) rfl, gIx 486 (by decide +kernel) rfl⟩
set_option maxRecDepth 20000 in
set_option maxHeartbeats 4000000 in
theorem c_L_holiday {l : Launch} (hfl : l.stackTraces = false) (Z : gZ) (M : gM) (a1 : Int32) : gMetW l yL_holiday cL_holiday 3 [(0, 13, 14, 15), (0, 13, 19, 19)] rm_L_holiday 1 Z M [.ref (zad Z 0), .int a1] (f_W_holiday M a1) := by
  refine v_enter (by decide) (Nat.le_of_ble_eq_true rfl) (fun hF p e s m args below meth c hC hN hlk hrt hT => ?_)
  refine v_lv0 (lv1 := [(0, .ref (zad Z 0)), (1, .int a1)]) rfl ?_
  refine v_aload_n hC 0 dL_holiday_0 rfl rfl ?_
  refine v_iload_n hC 1 dL_holiday_1 rfl rfl ?_
  refine v_callHi (n := 1) hC [.int a1] 0 8 (by decide) rfl rfl (fun hne => c_X8_holiday hfl Z M a1 hne) (rq_ne hF) (gIx 483 (by decide +kernel) rfl) mw_X8_holiday.1 mw_X8_holiday.2.1 mw_X8_holiday.2.2.1 mw_X8_holiday.2.2.2 ⟨rfl, by decide, by decide, by decide +kernel⟩ rfl rfl ⟨by decide, by decide⟩ rfl rfl (Nat.le_of_ble_eq_true rfl) (by decide) (by decide) dL_holiday_2 (fun ex M1 hr => ?_) (fun v M1 hr => ?_)
  · have e0 : f_W_holiday M a1 = (if ex = 1 then qRet (-9000000000000000002) M1 else if ex = 2 then qRet (-9000000000000000003) M1 else qStuck) := by
      unfold f_W_holiday
      rw [hr]
      exact rq_thr _ _ _ _
    rw [e0] at hF ⊢
    by_cases h0 : ex = 1
    · subst h0
      rw [if_pos rfl] at hF ⊢
      refine ⟨[], ⟨0, 13, 14, 15⟩, [⟨0, 13, 19, 19⟩], gEx 1, hT.trans rfl, fun z hz => ?_, rfl, by decide, cl_L_15, by decide, fun q9 => ?_⟩
      · cases hz
      · refine v_astore_n hC (lv1 := [(2, .ref q9), (0, .ref (zad Z 0)), (1, .int a1)]) dL_holiday_14 rfl (by decide) rfl ?_
        refine v_ldc2 hC (v := (-9000000000000000002)) lc_L_17 dL_holiday_15 ?_
        exact v_lret hC rfl hlk hrt (by decide) dL_holiday_18
    · rw [if_neg h0] at hF ⊢
      by_cases h1 : ex = 2
      · subst h1
        rw [if_pos rfl] at hF ⊢
        refine ⟨[⟨0, 13, 14, 15⟩], ⟨0, 13, 19, 19⟩, [], gEx 2, hT.trans rfl, fun z hz => ?_, rfl, by decide, cl_L_19, by decide, fun q9 => ?_⟩
        · simp only [List.mem_cons, List.not_mem_nil, or_false] at hz
          subst hz
          exact Or.inr ⟨by decide, gEx 1, cl_L_15, hN 2 1 (by decide) (by decide) (by decide)⟩
        · refine v_astore_n hC (lv1 := [(2, .ref q9), (0, .ref (zad Z 0)), (1, .int a1)]) dL_holiday_19 rfl (by decide) rfl ?_
          refine v_ldc2 hC (v := (-9000000000000000003)) lc_L_21 dL_holiday_20 ?_
          exact v_lret hC rfl hlk hrt (by decide) dL_holiday_23
      · rw [if_neg h1] at hF ⊢
        exact absurd rfl hF
  · have e0 : f_W_holiday M a1 = (if v = 0 then qRet 0 (gh M1 (f_X9_holiday (f_L_holiday M a1).2.2 a1)) else qRet 1 (gh M1 (f_X9_holiday (f_L_holiday M a1).2.2 a1))) := by
      unfold f_W_holiday
      rw [hr]
      rfl
    rw [e0] at hF ⊢
    refine v_if_eq (tgt := 12) hC dL_holiday_5 (by decide) (fun h => ?_) (fun h => ?_)
    · rw [if_pos h] at hF ⊢
      refine v_lconst hC (v := 0) dL_holiday_12 (by decide) ?_
      exact v_lret hC (gL_gh _ _) hlk hrt (by decide) dL_holiday_13
    · rw [if_neg h] at hF ⊢
      refine v_lconst hC (v := 1) dL_holiday_8 (by decide) ?_
      refine v_goto (tgt := 13) hC dL_holiday_9 (by decide) ?_
      exact v_lret hC (gL_gh _ _) hlk hrt (by decide) dL_holiday_13
def f_W_setRule (M : gM) (a1 : Int32) (a2 : Int32) (a3 : Int32) : gQ := rq (f_X8_setRule M a1 a2 a3) (fun v M1 => qRet v.toInt64 (gh M1 (f_X9_setRule (f_L_setRule M a1 a2 a3).2.2 a1 a2 a3))) (fun ex M1 => if ex = 0 then qRet (-9000000000000000001) M1 else if ex = 1 then qRet (-9000000000000000002) M1 else qStuck)
abbrev rm_L_setRule : Room := { frames := 8, cells := 1, slots := 6, locals := 135 }
theorem mw_X8_setRule : Cond.instanceMethod yX8_setRule ∈ gWS ∧ Cond.selects RX8 yX8_setRule yX8_setRule ∈ gWS ∧ Cond.initialized RX8 ∈ gWS ∧ Cond.code yX8_setRule cX8_setRule 5 (some .int) ∈ gWS := ⟨gIx 506 (by decide +kernel) rfl, gIx 507 (by decide +kernel) rfl, gIx 36 (by decide +kernel) rfl, gIx 508 (by decide +kernel) rfl⟩
set_option maxRecDepth 20000 in
set_option maxHeartbeats 4000000 in
theorem c_L_setRule {l : Launch} (hfl : l.stackTraces = false) (Z : gZ) (M : gM) (a1 : Int32) (a2 : Int32) (a3 : Int32) : gMetW l yL_setRule cL_setRule 5 [(0, 8, 9, 31), (0, 8, 15, 15)] rm_L_setRule 1 Z M [.ref (zad Z 0), .int a1, .int a2, .int a3] (f_W_setRule M a1 a2 a3) := by
  refine v_enter (by decide) (Nat.le_of_ble_eq_true rfl) (fun hF p e s m args below meth c hC hN hlk hrt hT => ?_)
  refine v_lv0 (lv1 := [(0, .ref (zad Z 0)), (1, .int a1), (2, .int a2), (3, .int a3)]) rfl ?_
  refine v_aload_n hC 0 dL_setRule_0 rfl rfl ?_
  refine v_iload_n hC 1 dL_setRule_1 rfl rfl ?_
  refine v_iload_n hC 2 dL_setRule_2 rfl rfl ?_
  refine v_iload_n hC 3 dL_setRule_3 rfl rfl ?_
  refine v_callHi (n := 3) hC [.int a1, .int a2, .int a3] 0 8 (by decide) rfl rfl (fun hne => c_X8_setRule hfl Z M a1 a2 a3 hne) (rq_ne hF) (gIx 505 (by decide +kernel) rfl) mw_X8_setRule.1 mw_X8_setRule.2.1 mw_X8_setRule.2.2.1 mw_X8_setRule.2.2.2 ⟨rfl, by decide, by decide, by decide +kernel⟩ rfl rfl ⟨by decide, by decide⟩ rfl rfl (Nat.le_of_ble_eq_true rfl) (by decide) (by decide) dL_setRule_4 (fun ex M1 hr => ?_) (fun v M1 hr => ?_)
  · have e0 : f_W_setRule M a1 a2 a3 = (if ex = 0 then qRet (-9000000000000000001) M1 else if ex = 1 then qRet (-9000000000000000002) M1 else qStuck) := by
      unfold f_W_setRule
      rw [hr]
      exact rq_thr _ _ _ _
    rw [e0] at hF ⊢
    by_cases h0 : ex = 0
    · subst h0
      rw [if_pos rfl] at hF ⊢
      refine ⟨[], ⟨0, 8, 9, 31⟩, [⟨0, 8, 15, 15⟩], gEx 0, hT.trans rfl, fun z hz => ?_, rfl, by decide, cl_L_31, by decide, fun q9 => ?_⟩
      · cases hz
      · refine v_astore hC (lv1 := [(4, .ref q9), (0, .ref (zad Z 0)), (1, .int a1), (2, .int a2), (3, .int a3)]) dL_setRule_9 (by decide) rfl ?_
        refine v_ldc2 hC (v := (-9000000000000000001)) lc_L_33 dL_setRule_11 ?_
        exact v_lret hC rfl hlk hrt (by decide) dL_setRule_14
    · rw [if_neg h0] at hF ⊢
      by_cases h1 : ex = 1
      · subst h1
        rw [if_pos rfl] at hF ⊢
        refine ⟨[⟨0, 8, 9, 31⟩], ⟨0, 8, 15, 15⟩, [], gEx 1, hT.trans rfl, fun z hz => ?_, rfl, by decide, cl_L_15, by decide, fun q9 => ?_⟩
        · simp only [List.mem_cons, List.not_mem_nil, or_false] at hz
          subst hz
          exact Or.inr ⟨by decide, gEx 0, cl_L_31, hN 1 0 (by decide) (by decide) (by decide)⟩
        · refine v_astore hC (lv1 := [(4, .ref q9), (0, .ref (zad Z 0)), (1, .int a1), (2, .int a2), (3, .int a3)]) dL_setRule_15 (by decide) rfl ?_
          refine v_ldc2 hC (v := (-9000000000000000002)) lc_L_17 dL_setRule_17 ?_
          exact v_lret hC rfl hlk hrt (by decide) dL_setRule_20
      · rw [if_neg h1] at hF ⊢
        exact absurd rfl hF
  · have e0 : f_W_setRule M a1 a2 a3 = qRet v.toInt64 (gh M1 (f_X9_setRule (f_L_setRule M a1 a2 a3).2.2 a1 a2 a3)) := by
      unfold f_W_setRule
      rw [hr]
      rfl
    rw [e0] at hF ⊢
    refine v_i2l hC dL_setRule_7 ?_
    exact v_lret hC (gL_gh _ _) hlk hrt (by decide) dL_setRule_8
def f_W_open (M : gM) (a1 : Int32) : gQ := rq (f_X8_open M a1) (fun v M1 => qRet v.toInt64 (gh M1 (f_X9_open (f_L_open M a1).2.2 a1))) (fun ex M1 => if ex = 0 then qRet (-9000000000000000001) M1 else if ex = 2 then qRet (-9000000000000000003) M1 else qStuck)
abbrev rm_L_open : Room := { frames := 7, cells := 1, slots := 6, locals := 111 }
theorem mw_X8_open : Cond.instanceMethod yX8_open ∈ gWS ∧ Cond.selects RX8 yX8_open yX8_open ∈ gWS ∧ Cond.initialized RX8 ∈ gWS ∧ Cond.code yX8_open cX8_open 2 (some .int) ∈ gWS := ⟨gIx 530 (by decide +kernel) rfl, gIx 531 (by decide +kernel) rfl, gIx 36 (by decide +kernel) rfl, gIx 532 (by decide +kernel) rfl⟩
set_option maxRecDepth 20000 in
set_option maxHeartbeats 4000000 in
theorem c_L_open {l : Launch} (hfl : l.stackTraces = false) (Z : gZ) (M : gM) (a1 : Int32) : gMetW l yL_open cL_open 3 [(0, 6, 7, 31), (0, 6, 12, 19)] rm_L_open 1 Z M [.ref (zad Z 0), .int a1] (f_W_open M a1) := by
  refine v_enter (by decide) (Nat.le_of_ble_eq_true rfl) (fun hF p e s m args below meth c hC hN hlk hrt hT => ?_)
  refine v_lv0 (lv1 := [(0, .ref (zad Z 0)), (1, .int a1)]) rfl ?_
  refine v_aload_n hC 0 dL_open_0 rfl rfl ?_
  refine v_iload_n hC 1 dL_open_1 rfl rfl ?_
  refine v_callHi (n := 1) hC [.int a1] 0 8 (by decide) rfl rfl (fun hne => c_X8_open hfl Z M a1 hne) (rq_ne hF) (gIx 529 (by decide +kernel) rfl) mw_X8_open.1 mw_X8_open.2.1 mw_X8_open.2.2.1 mw_X8_open.2.2.2 ⟨rfl, by decide, by decide, by decide +kernel⟩ rfl rfl ⟨by decide, by decide⟩ rfl rfl (Nat.le_of_ble_eq_true rfl) (by decide) (by decide) dL_open_2 (fun ex M1 hr => ?_) (fun v M1 hr => ?_)
  · have e0 : f_W_open M a1 = (if ex = 0 then qRet (-9000000000000000001) M1 else if ex = 2 then qRet (-9000000000000000003) M1 else qStuck) := by
      unfold f_W_open
      rw [hr]
      exact rq_thr _ _ _ _
    rw [e0] at hF ⊢
    by_cases h0 : ex = 0
    · subst h0
      rw [if_pos rfl] at hF ⊢
      refine ⟨[], ⟨0, 6, 7, 31⟩, [⟨0, 6, 12, 19⟩], gEx 0, hT.trans rfl, fun z hz => ?_, rfl, by decide, cl_L_31, by decide, fun q9 => ?_⟩
      · cases hz
      · refine v_astore_n hC (lv1 := [(2, .ref q9), (0, .ref (zad Z 0)), (1, .int a1)]) dL_open_7 rfl (by decide) rfl ?_
        refine v_ldc2 hC (v := (-9000000000000000001)) lc_L_33 dL_open_8 ?_
        exact v_lret hC rfl hlk hrt (by decide) dL_open_11
    · rw [if_neg h0] at hF ⊢
      by_cases h1 : ex = 2
      · subst h1
        rw [if_pos rfl] at hF ⊢
        refine ⟨[⟨0, 6, 7, 31⟩], ⟨0, 6, 12, 19⟩, [], gEx 2, hT.trans rfl, fun z hz => ?_, rfl, by decide, cl_L_19, by decide, fun q9 => ?_⟩
        · simp only [List.mem_cons, List.not_mem_nil, or_false] at hz
          subst hz
          exact Or.inr ⟨by decide, gEx 0, cl_L_31, hN 2 0 (by decide) (by decide) (by decide)⟩
        · refine v_astore_n hC (lv1 := [(2, .ref q9), (0, .ref (zad Z 0)), (1, .int a1)]) dL_open_12 rfl (by decide) rfl ?_
          refine v_ldc2 hC (v := (-9000000000000000003)) lc_L_21 dL_open_13 ?_
          exact v_lret hC rfl hlk hrt (by decide) dL_open_16
      · rw [if_neg h1] at hF ⊢
        exact absurd rfl hF
  · have e0 : f_W_open M a1 = qRet v.toInt64 (gh M1 (f_X9_open (f_L_open M a1).2.2 a1)) := by
      unfold f_W_open
      rw [hr]
      rfl
    rw [e0] at hF ⊢
    refine v_i2l hC dL_open_5 ?_
    exact v_lret hC (gL_gh _ _) hlk hrt (by decide) dL_open_6
def f_W_join (M : gM) (a1 : Int32) (a2 : Int32) (a3 : Int32) : gQ := rq (f_X8_join M a1 a2 a3) (fun v M1 => qRet v.toInt64 (gh M1 (f_X9_join (f_L_join M a1 a2 a3).2.2 a1 a2 a3))) (fun ex M1 => if ex = 0 then qRet (-9000000000000000001) M1 else if ex = 2 then qRet (-9000000000000000003) M1 else qStuck)
abbrev rm_L_join : Room := { frames := 8, cells := 4, slots := 24, locals := 134 }
theorem mw_X8_join : Cond.instanceMethod yX8_join ∈ gWS ∧ Cond.selects RX8 yX8_join yX8_join ∈ gWS ∧ Cond.initialized RX8 ∈ gWS ∧ Cond.code yX8_join cX8_join 4 (some .int) ∈ gWS := ⟨gIx 543 (by decide +kernel) rfl, gIx 544 (by decide +kernel) rfl, gIx 36 (by decide +kernel) rfl, gIx 545 (by decide +kernel) rfl⟩
set_option maxRecDepth 20000 in
set_option maxHeartbeats 4000000 in
theorem c_L_join {l : Launch} (hfl : l.stackTraces = false) (Z : gZ) (M : gM) (a1 : Int32) (a2 : Int32) (a3 : Int32) : gMetW l yL_join cL_join 5 [(0, 8, 9, 31), (0, 8, 15, 19)] rm_L_join 4 Z M [.ref (zad Z 0), .int a1, .int a2, .int a3] (f_W_join M a1 a2 a3) := by
  refine v_enter (by decide) (Nat.le_of_ble_eq_true rfl) (fun hF p e s m args below meth c hC hN hlk hrt hT => ?_)
  refine v_lv0 (lv1 := [(0, .ref (zad Z 0)), (1, .int a1), (2, .int a2), (3, .int a3)]) rfl ?_
  refine v_aload_n hC 0 dL_join_0 rfl rfl ?_
  refine v_iload_n hC 1 dL_join_1 rfl rfl ?_
  refine v_iload_n hC 2 dL_join_2 rfl rfl ?_
  refine v_iload_n hC 3 dL_join_3 rfl rfl ?_
  refine v_callHi (n := 3) hC [.int a1, .int a2, .int a3] 0 8 (by decide) rfl rfl (fun hne => c_X8_join hfl Z M a1 a2 a3 hne) (rq_ne hF) (gIx 542 (by decide +kernel) rfl) mw_X8_join.1 mw_X8_join.2.1 mw_X8_join.2.2.1 mw_X8_join.2.2.2 ⟨rfl, by decide, by decide, by decide +kernel⟩ rfl rfl ⟨by decide, by decide⟩ rfl rfl (Nat.le_of_ble_eq_true rfl) (by decide) (by decide) dL_join_4 (fun ex M1 hr => ?_) (fun v M1 hr => ?_)
  · have e0 : f_W_join M a1 a2 a3 = (if ex = 0 then qRet (-9000000000000000001) M1 else if ex = 2 then qRet (-9000000000000000003) M1 else qStuck) := by
      unfold f_W_join
      rw [hr]
      exact rq_thr _ _ _ _
    rw [e0] at hF ⊢
    by_cases h0 : ex = 0
    · subst h0
      rw [if_pos rfl] at hF ⊢
      refine ⟨[], ⟨0, 8, 9, 31⟩, [⟨0, 8, 15, 19⟩], gEx 0, hT.trans rfl, fun z hz => ?_, rfl, by decide, cl_L_31, by decide, fun q9 => ?_⟩
      · cases hz
      · refine v_astore hC (lv1 := [(4, .ref q9), (0, .ref (zad Z 0)), (1, .int a1), (2, .int a2), (3, .int a3)]) dL_join_9 (by decide) rfl ?_
        refine v_ldc2 hC (v := (-9000000000000000001)) lc_L_33 dL_join_11 ?_
        exact v_lret hC rfl hlk hrt (by decide) dL_join_14
    · rw [if_neg h0] at hF ⊢
      by_cases h1 : ex = 2
      · subst h1
        rw [if_pos rfl] at hF ⊢
        refine ⟨[⟨0, 8, 9, 31⟩], ⟨0, 8, 15, 19⟩, [], gEx 2, hT.trans rfl, fun z hz => ?_, rfl, by decide, cl_L_19, by decide, fun q9 => ?_⟩
        · simp only [List.mem_cons, List.not_mem_nil, or_false] at hz
          subst hz
          exact Or.inr ⟨by decide, gEx 0, cl_L_31, hN 2 0 (by decide) (by decide) (by decide)⟩
        · refine v_astore hC (lv1 := [(4, .ref q9), (0, .ref (zad Z 0)), (1, .int a1), (2, .int a2), (3, .int a3)]) dL_join_15 (by decide) rfl ?_
          refine v_ldc2 hC (v := (-9000000000000000003)) lc_L_21 dL_join_17 ?_
          exact v_lret hC rfl hlk hrt (by decide) dL_join_20
      · rw [if_neg h1] at hF ⊢
        exact absurd rfl hF
  · have e0 : f_W_join M a1 a2 a3 = qRet v.toInt64 (gh M1 (f_X9_join (f_L_join M a1 a2 a3).2.2 a1 a2 a3)) := by
      unfold f_W_join
      rw [hr]
      rfl
    rw [e0] at hF ⊢
    refine v_i2l hC dL_join_7 ?_
    exact v_lret hC (gL_gh _ _) hlk hrt (by decide) dL_join_8
def f_W_lead (M : gM) (a1 : Int32) (a2 : Int32) : gQ := rq (f_X8_lead M a1 a2) (fun v M1 => qRet v.toInt64 M1) (fun ex M1 => if ex = 0 then qRet (-9000000000000000001) M1 else if ex = 2 then qRet (-9000000000000000003) M1 else qStuck)
abbrev rm_L_lead : Room := { frames := 8, cells := 3, slots := 18, locals := 134 }
theorem mw_X8_lead : Cond.instanceMethod yX8_lead ∈ gWS ∧ Cond.selects RX8 yX8_lead yX8_lead ∈ gWS ∧ Cond.initialized RX8 ∈ gWS ∧ Cond.code yX8_lead cX8_lead 4 (some .int) ∈ gWS := ⟨gIx 858 (by decide +kernel) rfl, gIx 859 (by decide +kernel) rfl, gIx 36 (by decide +kernel) rfl, gIx 860 (by decide +kernel) rfl⟩
set_option maxRecDepth 20000 in
set_option maxHeartbeats 4000000 in
theorem c_L_lead {l : Launch} (hfl : l.stackTraces = false) (Z : gZ) (M : gM) (a1 : Int32) (a2 : Int32) : gMetW l yL_lead cL_lead 4 [(0, 7, 8, 31), (0, 7, 13, 19)] rm_L_lead 3 Z M [.ref (zad Z 0), .int a1, .int a2] (f_W_lead M a1 a2) := by
  refine v_enter (by decide) (Nat.le_of_ble_eq_true rfl) (fun hF p e s m args below meth c hC hN hlk hrt hT => ?_)
  refine v_lv0 (lv1 := [(0, .ref (zad Z 0)), (1, .int a1), (2, .int a2)]) rfl ?_
  refine v_aload_n hC 0 dL_lead_0 rfl rfl ?_
  refine v_iload_n hC 1 dL_lead_1 rfl rfl ?_
  refine v_iload_n hC 2 dL_lead_2 rfl rfl ?_
  refine v_callHi (n := 2) hC [.int a1, .int a2] 0 8 (by decide) rfl rfl (fun hne => c_X8_lead hfl Z M a1 a2 hne) (rq_ne hF) (gIx 857 (by decide +kernel) rfl) mw_X8_lead.1 mw_X8_lead.2.1 mw_X8_lead.2.2.1 mw_X8_lead.2.2.2 ⟨rfl, by decide, by decide, by decide +kernel⟩ rfl rfl ⟨by decide, by decide⟩ rfl rfl (Nat.le_of_ble_eq_true rfl) (by decide) (by decide) dL_lead_3 (fun ex M1 hr => ?_) (fun v M1 hr => ?_)
  · have e0 : f_W_lead M a1 a2 = (if ex = 0 then qRet (-9000000000000000001) M1 else if ex = 2 then qRet (-9000000000000000003) M1 else qStuck) := by
      unfold f_W_lead
      rw [hr]
      exact rq_thr _ _ _ _
    rw [e0] at hF ⊢
    by_cases h0 : ex = 0
    · subst h0
      rw [if_pos rfl] at hF ⊢
      refine ⟨[], ⟨0, 7, 8, 31⟩, [⟨0, 7, 13, 19⟩], gEx 0, hT.trans rfl, fun z hz => ?_, rfl, by decide, cl_L_31, by decide, fun q9 => ?_⟩
      · cases hz
      · refine v_astore_n hC (lv1 := [(3, .ref q9), (0, .ref (zad Z 0)), (1, .int a1), (2, .int a2)]) dL_lead_8 rfl (by decide) rfl ?_
        refine v_ldc2 hC (v := (-9000000000000000001)) lc_L_33 dL_lead_9 ?_
        exact v_lret hC rfl hlk hrt (by decide) dL_lead_12
    · rw [if_neg h0] at hF ⊢
      by_cases h1 : ex = 2
      · subst h1
        rw [if_pos rfl] at hF ⊢
        refine ⟨[⟨0, 7, 8, 31⟩], ⟨0, 7, 13, 19⟩, [], gEx 2, hT.trans rfl, fun z hz => ?_, rfl, by decide, cl_L_19, by decide, fun q9 => ?_⟩
        · simp only [List.mem_cons, List.not_mem_nil, or_false] at hz
          subst hz
          exact Or.inr ⟨by decide, gEx 0, cl_L_31, hN 2 0 (by decide) (by decide) (by decide)⟩
        · refine v_astore_n hC (lv1 := [(3, .ref q9), (0, .ref (zad Z 0)), (1, .int a1), (2, .int a2)]) dL_lead_13 rfl (by decide) rfl ?_
          refine v_ldc2 hC (v := (-9000000000000000003)) lc_L_21 dL_lead_14 ?_
          exact v_lret hC rfl hlk hrt (by decide) dL_lead_17
      · rw [if_neg h1] at hF ⊢
        exact absurd rfl hF
  · have e0 : f_W_lead M a1 a2 = qRet v.toInt64 M1 := by
      unfold f_W_lead
      rw [hr]
      rfl
    rw [e0] at hF ⊢
    refine v_i2l hC dL_lead_6 ?_
    exact v_lret hC rfl hlk hrt (by decide) dL_lead_7
def f_W_claim (M : gM) (a1 : Int32) (a2 : Int32) (a3 : Int32) (a4 : Int32) : gQ := rq (f_X8_claim M a1 a2 a3 a4) (fun v M1 => qRet v.toInt64 (gh M1 (f_X9_claim (f_L_claim M a1 a2 a3 a4).2.2 a1 a2 a3 a4))) (fun ex M1 => if ex = 0 then qRet (-9000000000000000001) M1 else if ex = 1 then qRet (-9000000000000000002) M1 else if ex = 2 then qRet (-9000000000000000003) M1 else qStuck)
abbrev rm_L_claim : Room := { frames := 8, cells := 5, slots := 30, locals := 136 }
theorem mw_X8_claim : Cond.instanceMethod yX8_claim ∈ gWS ∧ Cond.selects RX8 yX8_claim yX8_claim ∈ gWS ∧ Cond.initialized RX8 ∈ gWS ∧ Cond.code yX8_claim cX8_claim 5 (some .int) ∈ gWS := ⟨gIx 574 (by decide +kernel) rfl, gIx 575 (by decide +kernel) rfl, gIx 36 (by decide +kernel) rfl, gIx 576 (by decide +kernel) rfl⟩
set_option maxRecDepth 20000 in
set_option maxHeartbeats 4000000 in
theorem c_L_claim {l : Launch} (hfl : l.stackTraces = false) (Z : gZ) (M : gM) (a1 : Int32) (a2 : Int32) (a3 : Int32) (a4 : Int32) : gMetW l yL_claim cL_claim 6 [(0, 10, 11, 31), (0, 10, 17, 15), (0, 10, 23, 19)] rm_L_claim 5 Z M [.ref (zad Z 0), .int a1, .int a2, .int a3, .int a4] (f_W_claim M a1 a2 a3 a4) := by
  refine v_enter (by decide) (Nat.le_of_ble_eq_true rfl) (fun hF p e s m args below meth c hC hN hlk hrt hT => ?_)
  refine v_lv0 (lv1 := [(0, .ref (zad Z 0)), (1, .int a1), (2, .int a2), (3, .int a3), (4, .int a4)]) rfl ?_
  refine v_aload_n hC 0 dL_claim_0 rfl rfl ?_
  refine v_iload_n hC 1 dL_claim_1 rfl rfl ?_
  refine v_iload_n hC 2 dL_claim_2 rfl rfl ?_
  refine v_iload_n hC 3 dL_claim_3 rfl rfl ?_
  refine v_iload hC 4 dL_claim_4 rfl ?_
  refine v_callHi (n := 4) hC [.int a1, .int a2, .int a3, .int a4] 0 8 (by decide) rfl rfl (fun hne => c_X8_claim hfl Z M a1 a2 a3 a4 hne) (rq_ne hF) (gIx 573 (by decide +kernel) rfl) mw_X8_claim.1 mw_X8_claim.2.1 mw_X8_claim.2.2.1 mw_X8_claim.2.2.2 ⟨rfl, by decide, by decide, by decide +kernel⟩ rfl rfl ⟨by decide, by decide⟩ rfl rfl (Nat.le_of_ble_eq_true rfl) (by decide) (by decide) dL_claim_6 (fun ex M1 hr => ?_) (fun v M1 hr => ?_)
  · have e0 : f_W_claim M a1 a2 a3 a4 = (if ex = 0 then qRet (-9000000000000000001) M1 else if ex = 1 then qRet (-9000000000000000002) M1 else if ex = 2 then qRet (-9000000000000000003) M1 else qStuck) := by
      unfold f_W_claim
      rw [hr]
      exact rq_thr _ _ _ _
    rw [e0] at hF ⊢
    by_cases h0 : ex = 0
    · subst h0
      rw [if_pos rfl] at hF ⊢
      refine ⟨[], ⟨0, 10, 11, 31⟩, [⟨0, 10, 17, 15⟩, ⟨0, 10, 23, 19⟩], gEx 0, hT.trans rfl, fun z hz => ?_, rfl, by decide, cl_L_31, by decide, fun q9 => ?_⟩
      · cases hz
      · refine v_astore hC (lv1 := [(5, .ref q9), (0, .ref (zad Z 0)), (1, .int a1), (2, .int a2), (3, .int a3), (4, .int a4)]) dL_claim_11 (by decide) rfl ?_
        refine v_ldc2 hC (v := (-9000000000000000001)) lc_L_33 dL_claim_13 ?_
        exact v_lret hC rfl hlk hrt (by decide) dL_claim_16
    · rw [if_neg h0] at hF ⊢
      by_cases h1 : ex = 1
      · subst h1
        rw [if_pos rfl] at hF ⊢
        refine ⟨[⟨0, 10, 11, 31⟩], ⟨0, 10, 17, 15⟩, [⟨0, 10, 23, 19⟩], gEx 1, hT.trans rfl, fun z hz => ?_, rfl, by decide, cl_L_15, by decide, fun q9 => ?_⟩
        · simp only [List.mem_cons, List.not_mem_nil, or_false] at hz
          subst hz
          exact Or.inr ⟨by decide, gEx 0, cl_L_31, hN 1 0 (by decide) (by decide) (by decide)⟩
        · refine v_astore hC (lv1 := [(5, .ref q9), (0, .ref (zad Z 0)), (1, .int a1), (2, .int a2), (3, .int a3), (4, .int a4)]) dL_claim_17 (by decide) rfl ?_
          refine v_ldc2 hC (v := (-9000000000000000002)) lc_L_17 dL_claim_19 ?_
          exact v_lret hC rfl hlk hrt (by decide) dL_claim_22
      · rw [if_neg h1] at hF ⊢
        by_cases h2 : ex = 2
        · subst h2
          rw [if_pos rfl] at hF ⊢
          refine ⟨[⟨0, 10, 11, 31⟩, ⟨0, 10, 17, 15⟩], ⟨0, 10, 23, 19⟩, [], gEx 2, hT.trans rfl, fun z hz => ?_, rfl, by decide, cl_L_19, by decide, fun q9 => ?_⟩
          · simp only [List.mem_cons, List.not_mem_nil, or_false] at hz
            rcases hz with hz | hz
            · subst hz
              exact Or.inr ⟨by decide, gEx 0, cl_L_31, hN 2 0 (by decide) (by decide) (by decide)⟩
            · subst hz
              exact Or.inr ⟨by decide, gEx 1, cl_L_15, hN 2 1 (by decide) (by decide) (by decide)⟩
          · refine v_astore hC (lv1 := [(5, .ref q9), (0, .ref (zad Z 0)), (1, .int a1), (2, .int a2), (3, .int a3), (4, .int a4)]) dL_claim_23 (by decide) rfl ?_
            refine v_ldc2 hC (v := (-9000000000000000003)) lc_L_21 dL_claim_25 ?_
            exact v_lret hC rfl hlk hrt (by decide) dL_claim_28
        · rw [if_neg h2] at hF ⊢
          exact absurd rfl hF
  · have e0 : f_W_claim M a1 a2 a3 a4 = qRet v.toInt64 (gh M1 (f_X9_claim (f_L_claim M a1 a2 a3 a4).2.2 a1 a2 a3 a4)) := by
      unfold f_W_claim
      rw [hr]
      rfl
    rw [e0] at hF ⊢
    refine v_i2l hC dL_claim_9 ?_
    exact v_lret hC (gL_gh _ _) hlk hrt (by decide) dL_claim_10
def f_W_sever (M : gM) (a1 : Int32) : gQ := rq (f_X8_sever M a1) (fun v M1 => qRet v.toInt64 M1) (fun ex M1 => if ex = 0 then qRet (-9000000000000000001) M1 else if ex = 2 then qRet (-9000000000000000003) M1 else qStuck)
abbrev rm_L_sever : Room := { frames := 8, cells := 2, slots := 12, locals := 136 }
theorem mw_X8_sever : Cond.instanceMethod yX8_sever ∈ gWS ∧ Cond.selects RX8 yX8_sever yX8_sever ∈ gWS ∧ Cond.initialized RX8 ∈ gWS ∧ Cond.code yX8_sever cX8_sever 6 (some .int) ∈ gWS := ⟨gIx 870 (by decide +kernel) rfl, gIx 871 (by decide +kernel) rfl, gIx 36 (by decide +kernel) rfl, gIx 872 (by decide +kernel) rfl⟩
set_option maxRecDepth 20000 in
set_option maxHeartbeats 4000000 in
theorem c_L_sever {l : Launch} (hfl : l.stackTraces = false) (Z : gZ) (M : gM) (a1 : Int32) : gMetW l yL_sever cL_sever 3 [(0, 6, 7, 31), (0, 6, 12, 19)] rm_L_sever 2 Z M [.ref (zad Z 0), .int a1] (f_W_sever M a1) := by
  refine v_enter (by decide) (Nat.le_of_ble_eq_true rfl) (fun hF p e s m args below meth c hC hN hlk hrt hT => ?_)
  refine v_lv0 (lv1 := [(0, .ref (zad Z 0)), (1, .int a1)]) rfl ?_
  refine v_aload_n hC 0 dL_sever_0 rfl rfl ?_
  refine v_iload_n hC 1 dL_sever_1 rfl rfl ?_
  refine v_callHi (n := 1) hC [.int a1] 0 8 (by decide) rfl rfl (fun hne => c_X8_sever hfl Z M a1 hne) (rq_ne hF) (gIx 869 (by decide +kernel) rfl) mw_X8_sever.1 mw_X8_sever.2.1 mw_X8_sever.2.2.1 mw_X8_sever.2.2.2 ⟨rfl, by decide, by decide, by decide +kernel⟩ rfl rfl ⟨by decide, by decide⟩ rfl rfl (Nat.le_of_ble_eq_true rfl) (by decide) (by decide) dL_sever_2 (fun ex M1 hr => ?_) (fun v M1 hr => ?_)
  · have e0 : f_W_sever M a1 = (if ex = 0 then qRet (-9000000000000000001) M1 else if ex = 2 then qRet (-9000000000000000003) M1 else qStuck) := by
      unfold f_W_sever
      rw [hr]
      exact rq_thr _ _ _ _
    rw [e0] at hF ⊢
    by_cases h0 : ex = 0
    · subst h0
      rw [if_pos rfl] at hF ⊢
      refine ⟨[], ⟨0, 6, 7, 31⟩, [⟨0, 6, 12, 19⟩], gEx 0, hT.trans rfl, fun z hz => ?_, rfl, by decide, cl_L_31, by decide, fun q9 => ?_⟩
      · cases hz
      · refine v_astore_n hC (lv1 := [(2, .ref q9), (0, .ref (zad Z 0)), (1, .int a1)]) dL_sever_7 rfl (by decide) rfl ?_
        refine v_ldc2 hC (v := (-9000000000000000001)) lc_L_33 dL_sever_8 ?_
        exact v_lret hC rfl hlk hrt (by decide) dL_sever_11
    · rw [if_neg h0] at hF ⊢
      by_cases h1 : ex = 2
      · subst h1
        rw [if_pos rfl] at hF ⊢
        refine ⟨[⟨0, 6, 7, 31⟩], ⟨0, 6, 12, 19⟩, [], gEx 2, hT.trans rfl, fun z hz => ?_, rfl, by decide, cl_L_19, by decide, fun q9 => ?_⟩
        · simp only [List.mem_cons, List.not_mem_nil, or_false] at hz
          subst hz
          exact Or.inr ⟨by decide, gEx 0, cl_L_31, hN 2 0 (by decide) (by decide) (by decide)⟩
        · refine v_astore_n hC (lv1 := [(2, .ref q9), (0, .ref (zad Z 0)), (1, .int a1)]) dL_sever_12 rfl (by decide) rfl ?_
          refine v_ldc2 hC (v := (-9000000000000000003)) lc_L_21 dL_sever_13 ?_
          exact v_lret hC rfl hlk hrt (by decide) dL_sever_16
      · rw [if_neg h1] at hF ⊢
        exact absurd rfl hF
  · have e0 : f_W_sever M a1 = qRet v.toInt64 M1 := by
      unfold f_W_sever
      rw [hr]
      rfl
    rw [e0] at hF ⊢
    refine v_i2l hC dL_sever_5 ?_
    exact v_lret hC rfl hlk hrt (by decide) dL_sever_6
def f_W_serve (M : gM) (a1 : Int32) (a2 : Int32) : gQ := rq (f_X8_serve M a1 a2) (fun v M1 => qRet v.toInt64 (gh M1 (f_X9_serve (f_L_serve M a1 a2).2.2 a1 a2))) (fun ex M1 => if ex = 0 then qRet (-9000000000000000001) M1 else if ex = 2 then qRet (-9000000000000000003) M1 else qStuck)
abbrev rm_L_serve : Room := { frames := 8, cells := 2, slots := 12, locals := 134 }
theorem mw_X8_serve : Cond.instanceMethod yX8_serve ∈ gWS ∧ Cond.selects RX8 yX8_serve yX8_serve ∈ gWS ∧ Cond.initialized RX8 ∈ gWS ∧ Cond.code yX8_serve cX8_serve 4 (some .int) ∈ gWS := ⟨gIx 597 (by decide +kernel) rfl, gIx 598 (by decide +kernel) rfl, gIx 36 (by decide +kernel) rfl, gIx 599 (by decide +kernel) rfl⟩
set_option maxRecDepth 20000 in
set_option maxHeartbeats 4000000 in
theorem c_L_serve {l : Launch} (hfl : l.stackTraces = false) (Z : gZ) (M : gM) (a1 : Int32) (a2 : Int32) : gMetW l yL_serve cL_serve 4 [(0, 7, 8, 31), (0, 7, 13, 19)] rm_L_serve 2 Z M [.ref (zad Z 0), .int a1, .int a2] (f_W_serve M a1 a2) := by
  refine v_enter (by decide) (Nat.le_of_ble_eq_true rfl) (fun hF p e s m args below meth c hC hN hlk hrt hT => ?_)
  refine v_lv0 (lv1 := [(0, .ref (zad Z 0)), (1, .int a1), (2, .int a2)]) rfl ?_
  refine v_aload_n hC 0 dL_serve_0 rfl rfl ?_
  refine v_iload_n hC 1 dL_serve_1 rfl rfl ?_
  refine v_iload_n hC 2 dL_serve_2 rfl rfl ?_
  refine v_callHi (n := 2) hC [.int a1, .int a2] 0 8 (by decide) rfl rfl (fun hne => c_X8_serve hfl Z M a1 a2 hne) (rq_ne hF) (gIx 596 (by decide +kernel) rfl) mw_X8_serve.1 mw_X8_serve.2.1 mw_X8_serve.2.2.1 mw_X8_serve.2.2.2 ⟨rfl, by decide, by decide, by decide +kernel⟩ rfl rfl ⟨by decide, by decide⟩ rfl rfl (Nat.le_of_ble_eq_true rfl) (by decide) (by decide) dL_serve_3 (fun ex M1 hr => ?_) (fun v M1 hr => ?_)
  · have e0 : f_W_serve M a1 a2 = (if ex = 0 then qRet (-9000000000000000001) M1 else if ex = 2 then qRet (-9000000000000000003) M1 else qStuck) := by
      unfold f_W_serve
      rw [hr]
      exact rq_thr _ _ _ _
    rw [e0] at hF ⊢
    by_cases h0 : ex = 0
    · subst h0
      rw [if_pos rfl] at hF ⊢
      refine ⟨[], ⟨0, 7, 8, 31⟩, [⟨0, 7, 13, 19⟩], gEx 0, hT.trans rfl, fun z hz => ?_, rfl, by decide, cl_L_31, by decide, fun q9 => ?_⟩
      · cases hz
      · refine v_astore_n hC (lv1 := [(3, .ref q9), (0, .ref (zad Z 0)), (1, .int a1), (2, .int a2)]) dL_serve_8 rfl (by decide) rfl ?_
        refine v_ldc2 hC (v := (-9000000000000000001)) lc_L_33 dL_serve_9 ?_
        exact v_lret hC rfl hlk hrt (by decide) dL_serve_12
    · rw [if_neg h0] at hF ⊢
      by_cases h1 : ex = 2
      · subst h1
        rw [if_pos rfl] at hF ⊢
        refine ⟨[⟨0, 7, 8, 31⟩], ⟨0, 7, 13, 19⟩, [], gEx 2, hT.trans rfl, fun z hz => ?_, rfl, by decide, cl_L_19, by decide, fun q9 => ?_⟩
        · simp only [List.mem_cons, List.not_mem_nil, or_false] at hz
          subst hz
          exact Or.inr ⟨by decide, gEx 0, cl_L_31, hN 2 0 (by decide) (by decide) (by decide)⟩
        · refine v_astore_n hC (lv1 := [(3, .ref q9), (0, .ref (zad Z 0)), (1, .int a1), (2, .int a2)]) dL_serve_13 rfl (by decide) rfl ?_
          refine v_ldc2 hC (v := (-9000000000000000003)) lc_L_21 dL_serve_14 ?_
          exact v_lret hC rfl hlk hrt (by decide) dL_serve_17
      · rw [if_neg h1] at hF ⊢
        exact absurd rfl hF
  · have e0 : f_W_serve M a1 a2 = qRet v.toInt64 (gh M1 (f_X9_serve (f_L_serve M a1 a2).2.2 a1 a2)) := by
      unfold f_W_serve
      rw [hr]
      rfl
    rw [e0] at hF ⊢
    refine v_i2l hC dL_serve_6 ?_
    exact v_lret hC (gL_gh _ _) hlk hrt (by decide) dL_serve_7
def f_W_answer (M : gM) (a1 : Int32) : gQ := rq (f_X8_answer M a1) (fun v M1 => qRet v.toInt64 (gh M1 (f_X9_answer (f_L_answer M a1).2.2 a1))) (fun ex M1 => if ex = 0 then qRet (-9000000000000000001) M1 else if ex = 2 then qRet (-9000000000000000003) M1 else qStuck)
abbrev rm_L_answer : Room := { frames := 8, cells := 2, slots := 12, locals := 155 }
theorem mw_X8_answer : Cond.instanceMethod yX8_answer ∈ gWS ∧ Cond.selects RX8 yX8_answer yX8_answer ∈ gWS ∧ Cond.initialized RX8 ∈ gWS ∧ Cond.code yX8_answer cX8_answer 2 (some .int) ∈ gWS := ⟨gIx 882 (by decide +kernel) rfl, gIx 883 (by decide +kernel) rfl, gIx 36 (by decide +kernel) rfl, gIx 884 (by decide +kernel) rfl⟩
set_option maxRecDepth 20000 in
set_option maxHeartbeats 4000000 in
theorem c_L_answer {l : Launch} (hfl : l.stackTraces = false) (Z : gZ) (M : gM) (a1 : Int32) : gMetW l yL_answer cL_answer 3 [(0, 6, 7, 31), (0, 6, 12, 19)] rm_L_answer 2 Z M [.ref (zad Z 0), .int a1] (f_W_answer M a1) := by
  refine v_enter (by decide) (Nat.le_of_ble_eq_true rfl) (fun hF p e s m args below meth c hC hN hlk hrt hT => ?_)
  refine v_lv0 (lv1 := [(0, .ref (zad Z 0)), (1, .int a1)]) rfl ?_
  refine v_aload_n hC 0 dL_answer_0 rfl rfl ?_
  refine v_iload_n hC 1 dL_answer_1 rfl rfl ?_
  refine v_callHi (n := 1) hC [.int a1] 0 8 (by decide) rfl rfl (fun hne => c_X8_answer hfl Z M a1 hne) (rq_ne hF) (gIx 881 (by decide +kernel) rfl) mw_X8_answer.1 mw_X8_answer.2.1 mw_X8_answer.2.2.1 mw_X8_answer.2.2.2 ⟨rfl, by decide, by decide, by decide +kernel⟩ rfl rfl ⟨by decide, by decide⟩ rfl rfl (Nat.le_of_ble_eq_true rfl) (by decide) (by decide) dL_answer_2 (fun ex M1 hr => ?_) (fun v M1 hr => ?_)
  · have e0 : f_W_answer M a1 = (if ex = 0 then qRet (-9000000000000000001) M1 else if ex = 2 then qRet (-9000000000000000003) M1 else qStuck) := by
      unfold f_W_answer
      rw [hr]
      exact rq_thr _ _ _ _
    rw [e0] at hF ⊢
    by_cases h0 : ex = 0
    · subst h0
      rw [if_pos rfl] at hF ⊢
      refine ⟨[], ⟨0, 6, 7, 31⟩, [⟨0, 6, 12, 19⟩], gEx 0, hT.trans rfl, fun z hz => ?_, rfl, by decide, cl_L_31, by decide, fun q9 => ?_⟩
      · cases hz
      · refine v_astore_n hC (lv1 := [(2, .ref q9), (0, .ref (zad Z 0)), (1, .int a1)]) dL_answer_7 rfl (by decide) rfl ?_
        refine v_ldc2 hC (v := (-9000000000000000001)) lc_L_33 dL_answer_8 ?_
        exact v_lret hC rfl hlk hrt (by decide) dL_answer_11
    · rw [if_neg h0] at hF ⊢
      by_cases h1 : ex = 2
      · subst h1
        rw [if_pos rfl] at hF ⊢
        refine ⟨[⟨0, 6, 7, 31⟩], ⟨0, 6, 12, 19⟩, [], gEx 2, hT.trans rfl, fun z hz => ?_, rfl, by decide, cl_L_19, by decide, fun q9 => ?_⟩
        · simp only [List.mem_cons, List.not_mem_nil, or_false] at hz
          subst hz
          exact Or.inr ⟨by decide, gEx 0, cl_L_31, hN 2 0 (by decide) (by decide) (by decide)⟩
        · refine v_astore_n hC (lv1 := [(2, .ref q9), (0, .ref (zad Z 0)), (1, .int a1)]) dL_answer_12 rfl (by decide) rfl ?_
          refine v_ldc2 hC (v := (-9000000000000000003)) lc_L_21 dL_answer_13 ?_
          exact v_lret hC rfl hlk hrt (by decide) dL_answer_16
      · rw [if_neg h1] at hF ⊢
        exact absurd rfl hF
  · have e0 : f_W_answer M a1 = qRet v.toInt64 (gh M1 (f_X9_answer (f_L_answer M a1).2.2 a1)) := by
      unfold f_W_answer
      rw [hr]
      rfl
    rw [e0] at hF ⊢
    refine v_i2l hC dL_answer_5 ?_
    exact v_lret hC (gL_gh _ _) hlk hrt (by decide) dL_answer_6
def f_W_motion (M : gM) (a1 : Int32) : gQ := rq (f_X8_motion M a1) (fun v M1 => qRet v.toInt64 (gh M1 (f_X9_motion (f_L_motion M a1).2.2 a1))) (fun ex M1 => if ex = 0 then qRet (-9000000000000000001) M1 else if ex = 2 then qRet (-9000000000000000003) M1 else qStuck)
abbrev rm_L_motion : Room := { frames := 8, cells := 2, slots := 12, locals := 155 }
theorem mw_X8_motion : Cond.instanceMethod yX8_motion ∈ gWS ∧ Cond.selects RX8 yX8_motion yX8_motion ∈ gWS ∧ Cond.initialized RX8 ∈ gWS ∧ Cond.code yX8_motion cX8_motion 2 (some .int) ∈ gWS := ⟨gIx 901 (by decide +kernel) rfl, gIx 902 (by decide +kernel) rfl, gIx 36 (by decide +kernel) rfl, gIx 903 (by decide +kernel) rfl⟩
set_option maxRecDepth 20000 in
set_option maxHeartbeats 4000000 in
theorem c_L_motion {l : Launch} (hfl : l.stackTraces = false) (Z : gZ) (M : gM) (a1 : Int32) : gMetW l yL_motion cL_motion 3 [(0, 6, 7, 31), (0, 6, 12, 19)] rm_L_motion 2 Z M [.ref (zad Z 0), .int a1] (f_W_motion M a1) := by
  refine v_enter (by decide) (Nat.le_of_ble_eq_true rfl) (fun hF p e s m args below meth c hC hN hlk hrt hT => ?_)
  refine v_lv0 (lv1 := [(0, .ref (zad Z 0)), (1, .int a1)]) rfl ?_
  refine v_aload_n hC 0 dL_motion_0 rfl rfl ?_
  refine v_iload_n hC 1 dL_motion_1 rfl rfl ?_
  refine v_callHi (n := 1) hC [.int a1] 0 8 (by decide) rfl rfl (fun hne => c_X8_motion hfl Z M a1 hne) (rq_ne hF) (gIx 900 (by decide +kernel) rfl) mw_X8_motion.1 mw_X8_motion.2.1 mw_X8_motion.2.2.1 mw_X8_motion.2.2.2 ⟨rfl, by decide, by decide, by decide +kernel⟩ rfl rfl ⟨by decide, by decide⟩ rfl rfl (Nat.le_of_ble_eq_true rfl) (by decide) (by decide) dL_motion_2 (fun ex M1 hr => ?_) (fun v M1 hr => ?_)
  · have e0 : f_W_motion M a1 = (if ex = 0 then qRet (-9000000000000000001) M1 else if ex = 2 then qRet (-9000000000000000003) M1 else qStuck) := by
      unfold f_W_motion
      rw [hr]
      exact rq_thr _ _ _ _
    rw [e0] at hF ⊢
    by_cases h0 : ex = 0
    · subst h0
      rw [if_pos rfl] at hF ⊢
      refine ⟨[], ⟨0, 6, 7, 31⟩, [⟨0, 6, 12, 19⟩], gEx 0, hT.trans rfl, fun z hz => ?_, rfl, by decide, cl_L_31, by decide, fun q9 => ?_⟩
      · cases hz
      · refine v_astore_n hC (lv1 := [(2, .ref q9), (0, .ref (zad Z 0)), (1, .int a1)]) dL_motion_7 rfl (by decide) rfl ?_
        refine v_ldc2 hC (v := (-9000000000000000001)) lc_L_33 dL_motion_8 ?_
        exact v_lret hC rfl hlk hrt (by decide) dL_motion_11
    · rw [if_neg h0] at hF ⊢
      by_cases h1 : ex = 2
      · subst h1
        rw [if_pos rfl] at hF ⊢
        refine ⟨[⟨0, 6, 7, 31⟩], ⟨0, 6, 12, 19⟩, [], gEx 2, hT.trans rfl, fun z hz => ?_, rfl, by decide, cl_L_19, by decide, fun q9 => ?_⟩
        · simp only [List.mem_cons, List.not_mem_nil, or_false] at hz
          subst hz
          exact Or.inr ⟨by decide, gEx 0, cl_L_31, hN 2 0 (by decide) (by decide) (by decide)⟩
        · refine v_astore_n hC (lv1 := [(2, .ref q9), (0, .ref (zad Z 0)), (1, .int a1)]) dL_motion_12 rfl (by decide) rfl ?_
          refine v_ldc2 hC (v := (-9000000000000000003)) lc_L_21 dL_motion_13 ?_
          exact v_lret hC rfl hlk hrt (by decide) dL_motion_16
      · rw [if_neg h1] at hF ⊢
        exact absurd rfl hF
  · have e0 : f_W_motion M a1 = qRet v.toInt64 (gh M1 (f_X9_motion (f_L_motion M a1).2.2 a1)) := by
      unfold f_W_motion
      rw [hr]
      rfl
    rw [e0] at hF ⊢
    refine v_i2l hC dL_motion_5 ?_
    exact v_lret hC (gL_gh _ _) hlk hrt (by decide) dL_motion_6
def f_W_respond (M : gM) (a1 : Int32) : gQ := rq (f_X8_respond M a1) (fun v M1 => qRet v.toInt64 (gh M1 (f_X9_respond (f_L_respond M a1).2.2 a1))) (fun ex M1 => if ex = 0 then qRet (-9000000000000000001) M1 else if ex = 2 then qRet (-9000000000000000003) M1 else qStuck)
abbrev rm_L_respond : Room := { frames := 9, cells := 3, slots := 18, locals := 153 }
theorem mw_X8_respond : Cond.instanceMethod yX8_respond ∈ gWS ∧ Cond.selects RX8 yX8_respond yX8_respond ∈ gWS ∧ Cond.initialized RX8 ∈ gWS ∧ Cond.code yX8_respond cX8_respond 2 (some .int) ∈ gWS := ⟨gIx 908 (by decide +kernel) rfl, gIx 909 (by decide +kernel) rfl, gIx 36 (by decide +kernel) rfl, gIx 910 (by decide +kernel) rfl⟩
set_option maxRecDepth 20000 in
set_option maxHeartbeats 4000000 in
theorem c_L_respond {l : Launch} (hfl : l.stackTraces = false) (Z : gZ) (M : gM) (a1 : Int32) : gMetW l yL_respond cL_respond 3 [(0, 6, 7, 31), (0, 6, 12, 19)] rm_L_respond 3 Z M [.ref (zad Z 0), .int a1] (f_W_respond M a1) := by
  refine v_enter (by decide) (Nat.le_of_ble_eq_true rfl) (fun hF p e s m args below meth c hC hN hlk hrt hT => ?_)
  refine v_lv0 (lv1 := [(0, .ref (zad Z 0)), (1, .int a1)]) rfl ?_
  refine v_aload_n hC 0 dL_respond_0 rfl rfl ?_
  refine v_iload_n hC 1 dL_respond_1 rfl rfl ?_
  refine v_callHi (n := 1) hC [.int a1] 0 8 (by decide) rfl rfl (fun hne => c_X8_respond hfl Z M a1 hne) (rq_ne hF) (gIx 907 (by decide +kernel) rfl) mw_X8_respond.1 mw_X8_respond.2.1 mw_X8_respond.2.2.1 mw_X8_respond.2.2.2 ⟨rfl, by decide, by decide, by decide +kernel⟩ rfl rfl ⟨by decide, by decide⟩ rfl rfl (Nat.le_of_ble_eq_true rfl) (by decide) (by decide) dL_respond_2 (fun ex M1 hr => ?_) (fun v M1 hr => ?_)
  · have e0 : f_W_respond M a1 = (if ex = 0 then qRet (-9000000000000000001) M1 else if ex = 2 then qRet (-9000000000000000003) M1 else qStuck) := by
      unfold f_W_respond
      rw [hr]
      exact rq_thr _ _ _ _
    rw [e0] at hF ⊢
    by_cases h0 : ex = 0
    · subst h0
      rw [if_pos rfl] at hF ⊢
      refine ⟨[], ⟨0, 6, 7, 31⟩, [⟨0, 6, 12, 19⟩], gEx 0, hT.trans rfl, fun z hz => ?_, rfl, by decide, cl_L_31, by decide, fun q9 => ?_⟩
      · cases hz
      · refine v_astore_n hC (lv1 := [(2, .ref q9), (0, .ref (zad Z 0)), (1, .int a1)]) dL_respond_7 rfl (by decide) rfl ?_
        refine v_ldc2 hC (v := (-9000000000000000001)) lc_L_33 dL_respond_8 ?_
        exact v_lret hC rfl hlk hrt (by decide) dL_respond_11
    · rw [if_neg h0] at hF ⊢
      by_cases h1 : ex = 2
      · subst h1
        rw [if_pos rfl] at hF ⊢
        refine ⟨[⟨0, 6, 7, 31⟩], ⟨0, 6, 12, 19⟩, [], gEx 2, hT.trans rfl, fun z hz => ?_, rfl, by decide, cl_L_19, by decide, fun q9 => ?_⟩
        · simp only [List.mem_cons, List.not_mem_nil, or_false] at hz
          subst hz
          exact Or.inr ⟨by decide, gEx 0, cl_L_31, hN 2 0 (by decide) (by decide) (by decide)⟩
        · refine v_astore_n hC (lv1 := [(2, .ref q9), (0, .ref (zad Z 0)), (1, .int a1)]) dL_respond_12 rfl (by decide) rfl ?_
          refine v_ldc2 hC (v := (-9000000000000000003)) lc_L_21 dL_respond_13 ?_
          exact v_lret hC rfl hlk hrt (by decide) dL_respond_16
      · rw [if_neg h1] at hF ⊢
        exact absurd rfl hF
  · have e0 : f_W_respond M a1 = qRet v.toInt64 (gh M1 (f_X9_respond (f_L_respond M a1).2.2 a1)) := by
      unfold f_W_respond
      rw [hr]
      rfl
    rw [e0] at hF ⊢
    refine v_i2l hC dL_respond_5 ?_
    exact v_lret hC (gL_gh _ _) hlk hrt (by decide) dL_respond_6
def f_W_ruling (M : gM) (a1 : Int32) (a2 : Int32) : gQ := rq (f_X8_ruling M a1 a2) (fun v M1 => qRet v.toInt64 (gh M1 (f_X9_ruling (f_L_ruling M a1 a2).2.2 a1 a2))) (fun ex M1 => if ex = 0 then qRet (-9000000000000000001) M1 else if ex = 1 then qRet (-9000000000000000002) M1 else if ex = 2 then qRet (-9000000000000000003) M1 else qStuck)
abbrev rm_L_ruling : Room := { frames := 9, cells := 3, slots := 18, locals := 156 }
theorem mw_X8_ruling : Cond.instanceMethod yX8_ruling ∈ gWS ∧ Cond.selects RX8 yX8_ruling yX8_ruling ∈ gWS ∧ Cond.initialized RX8 ∈ gWS ∧ Cond.code yX8_ruling cX8_ruling 5 (some .int) ∈ gWS := ⟨gIx 919 (by decide +kernel) rfl, gIx 920 (by decide +kernel) rfl, gIx 36 (by decide +kernel) rfl, gIx 921 (by decide +kernel) rfl⟩
set_option maxRecDepth 20000 in
set_option maxHeartbeats 4000000 in
theorem c_L_ruling {l : Launch} (hfl : l.stackTraces = false) (Z : gZ) (M : gM) (a1 : Int32) (a2 : Int32) : gMetW l yL_ruling cL_ruling 4 [(0, 7, 8, 31), (0, 7, 13, 15), (0, 7, 18, 19)] rm_L_ruling 3 Z M [.ref (zad Z 0), .int a1, .int a2] (f_W_ruling M a1 a2) := by
  refine v_enter (by decide) (Nat.le_of_ble_eq_true rfl) (fun hF p e s m args below meth c hC hN hlk hrt hT => ?_)
  refine v_lv0 (lv1 := [(0, .ref (zad Z 0)), (1, .int a1), (2, .int a2)]) rfl ?_
  refine v_aload_n hC 0 dL_ruling_0 rfl rfl ?_
  refine v_iload_n hC 1 dL_ruling_1 rfl rfl ?_
  refine v_iload_n hC 2 dL_ruling_2 rfl rfl ?_
  refine v_callHi (n := 2) hC [.int a1, .int a2] 0 8 (by decide) rfl rfl (fun hne => c_X8_ruling hfl Z M a1 a2 hne) (rq_ne hF) (gIx 918 (by decide +kernel) rfl) mw_X8_ruling.1 mw_X8_ruling.2.1 mw_X8_ruling.2.2.1 mw_X8_ruling.2.2.2 ⟨rfl, by decide, by decide, by decide +kernel⟩ rfl rfl ⟨by decide, by decide⟩ rfl rfl (Nat.le_of_ble_eq_true rfl) (by decide) (by decide) dL_ruling_3 (fun ex M1 hr => ?_) (fun v M1 hr => ?_)
  · have e0 : f_W_ruling M a1 a2 = (if ex = 0 then qRet (-9000000000000000001) M1 else if ex = 1 then qRet (-9000000000000000002) M1 else if ex = 2 then qRet (-9000000000000000003) M1 else qStuck) := by
      unfold f_W_ruling
      rw [hr]
      exact rq_thr _ _ _ _
    rw [e0] at hF ⊢
    by_cases h0 : ex = 0
    · subst h0
      rw [if_pos rfl] at hF ⊢
      refine ⟨[], ⟨0, 7, 8, 31⟩, [⟨0, 7, 13, 15⟩, ⟨0, 7, 18, 19⟩], gEx 0, hT.trans rfl, fun z hz => ?_, rfl, by decide, cl_L_31, by decide, fun q9 => ?_⟩
      · cases hz
      · refine v_astore_n hC (lv1 := [(3, .ref q9), (0, .ref (zad Z 0)), (1, .int a1), (2, .int a2)]) dL_ruling_8 rfl (by decide) rfl ?_
        refine v_ldc2 hC (v := (-9000000000000000001)) lc_L_33 dL_ruling_9 ?_
        exact v_lret hC rfl hlk hrt (by decide) dL_ruling_12
    · rw [if_neg h0] at hF ⊢
      by_cases h1 : ex = 1
      · subst h1
        rw [if_pos rfl] at hF ⊢
        refine ⟨[⟨0, 7, 8, 31⟩], ⟨0, 7, 13, 15⟩, [⟨0, 7, 18, 19⟩], gEx 1, hT.trans rfl, fun z hz => ?_, rfl, by decide, cl_L_15, by decide, fun q9 => ?_⟩
        · simp only [List.mem_cons, List.not_mem_nil, or_false] at hz
          subst hz
          exact Or.inr ⟨by decide, gEx 0, cl_L_31, hN 1 0 (by decide) (by decide) (by decide)⟩
        · refine v_astore_n hC (lv1 := [(3, .ref q9), (0, .ref (zad Z 0)), (1, .int a1), (2, .int a2)]) dL_ruling_13 rfl (by decide) rfl ?_
          refine v_ldc2 hC (v := (-9000000000000000002)) lc_L_17 dL_ruling_14 ?_
          exact v_lret hC rfl hlk hrt (by decide) dL_ruling_17
      · rw [if_neg h1] at hF ⊢
        by_cases h2 : ex = 2
        · subst h2
          rw [if_pos rfl] at hF ⊢
          refine ⟨[⟨0, 7, 8, 31⟩, ⟨0, 7, 13, 15⟩], ⟨0, 7, 18, 19⟩, [], gEx 2, hT.trans rfl, fun z hz => ?_, rfl, by decide, cl_L_19, by decide, fun q9 => ?_⟩
          · simp only [List.mem_cons, List.not_mem_nil, or_false] at hz
            rcases hz with hz | hz
            · subst hz
              exact Or.inr ⟨by decide, gEx 0, cl_L_31, hN 2 0 (by decide) (by decide) (by decide)⟩
            · subst hz
              exact Or.inr ⟨by decide, gEx 1, cl_L_15, hN 2 1 (by decide) (by decide) (by decide)⟩
          · refine v_astore_n hC (lv1 := [(3, .ref q9), (0, .ref (zad Z 0)), (1, .int a1), (2, .int a2)]) dL_ruling_18 rfl (by decide) rfl ?_
            refine v_ldc2 hC (v := (-9000000000000000003)) lc_L_21 dL_ruling_19 ?_
            exact v_lret hC rfl hlk hrt (by decide) dL_ruling_22
        · rw [if_neg h2] at hF ⊢
          exact absurd rfl hF
  · have e0 : f_W_ruling M a1 a2 = qRet v.toInt64 (gh M1 (f_X9_ruling (f_L_ruling M a1 a2).2.2 a1 a2)) := by
      unfold f_W_ruling
      rw [hr]
      rfl
    rw [e0] at hF ⊢
    refine v_i2l hC dL_ruling_6 ?_
    exact v_lret hC (gL_gh _ _) hlk hrt (by decide) dL_ruling_7
def f_W_judge (M : gM) (a1 : Int32) (a2 : Int32) : gQ := rq (f_X8_judge M a1 a2) (fun v M1 => qRet v.toInt64 (gh M1 (f_X9_judge (f_L_judge M a1 a2).2.2 a1 a2))) (fun ex M1 => if ex = 0 then qRet (-9000000000000000001) M1 else if ex = 1 then qRet (-9000000000000000002) M1 else if ex = 2 then qRet (-9000000000000000003) M1 else qStuck)
abbrev rm_L_judge : Room := { frames := 8, cells := 2, slots := 12, locals := 159 }
theorem mw_X8_judge : Cond.instanceMethod yX8_judge ∈ gWS ∧ Cond.selects RX8 yX8_judge yX8_judge ∈ gWS ∧ Cond.initialized RX8 ∈ gWS ∧ Cond.code yX8_judge cX8_judge 6 (some .int) ∈ gWS := ⟨gIx 926 (by decide +kernel) rfl, gIx 927 (by decide +kernel) rfl, gIx 36 (by decide +kernel) rfl, gIx 928 (by decide +kernel) rfl⟩
set_option maxRecDepth 20000 in
set_option maxHeartbeats 4000000 in
theorem c_L_judge {l : Launch} (hfl : l.stackTraces = false) (Z : gZ) (M : gM) (a1 : Int32) (a2 : Int32) : gMetW l yL_judge cL_judge 4 [(0, 7, 8, 31), (0, 7, 13, 15), (0, 7, 18, 19)] rm_L_judge 2 Z M [.ref (zad Z 0), .int a1, .int a2] (f_W_judge M a1 a2) := by
  refine v_enter (by decide) (Nat.le_of_ble_eq_true rfl) (fun hF p e s m args below meth c hC hN hlk hrt hT => ?_)
  refine v_lv0 (lv1 := [(0, .ref (zad Z 0)), (1, .int a1), (2, .int a2)]) rfl ?_
  refine v_aload_n hC 0 dL_judge_0 rfl rfl ?_
  refine v_iload_n hC 1 dL_judge_1 rfl rfl ?_
  refine v_iload_n hC 2 dL_judge_2 rfl rfl ?_
  refine v_callHi (n := 2) hC [.int a1, .int a2] 0 8 (by decide) rfl rfl (fun hne => c_X8_judge hfl Z M a1 a2 hne) (rq_ne hF) (gIx 925 (by decide +kernel) rfl) mw_X8_judge.1 mw_X8_judge.2.1 mw_X8_judge.2.2.1 mw_X8_judge.2.2.2 ⟨rfl, by decide, by decide, by decide +kernel⟩ rfl rfl ⟨by decide, by decide⟩ rfl rfl (Nat.le_of_ble_eq_true rfl) (by decide) (by decide) dL_judge_3 (fun ex M1 hr => ?_) (fun v M1 hr => ?_)
  · have e0 : f_W_judge M a1 a2 = (if ex = 0 then qRet (-9000000000000000001) M1 else if ex = 1 then qRet (-9000000000000000002) M1 else if ex = 2 then qRet (-9000000000000000003) M1 else qStuck) := by
      unfold f_W_judge
      rw [hr]
      exact rq_thr _ _ _ _
    rw [e0] at hF ⊢
    by_cases h0 : ex = 0
    · subst h0
      rw [if_pos rfl] at hF ⊢
      refine ⟨[], ⟨0, 7, 8, 31⟩, [⟨0, 7, 13, 15⟩, ⟨0, 7, 18, 19⟩], gEx 0, hT.trans rfl, fun z hz => ?_, rfl, by decide, cl_L_31, by decide, fun q9 => ?_⟩
      · cases hz
      · refine v_astore_n hC (lv1 := [(3, .ref q9), (0, .ref (zad Z 0)), (1, .int a1), (2, .int a2)]) dL_judge_8 rfl (by decide) rfl ?_
        refine v_ldc2 hC (v := (-9000000000000000001)) lc_L_33 dL_judge_9 ?_
        exact v_lret hC rfl hlk hrt (by decide) dL_judge_12
    · rw [if_neg h0] at hF ⊢
      by_cases h1 : ex = 1
      · subst h1
        rw [if_pos rfl] at hF ⊢
        refine ⟨[⟨0, 7, 8, 31⟩], ⟨0, 7, 13, 15⟩, [⟨0, 7, 18, 19⟩], gEx 1, hT.trans rfl, fun z hz => ?_, rfl, by decide, cl_L_15, by decide, fun q9 => ?_⟩
        · simp only [List.mem_cons, List.not_mem_nil, or_false] at hz
          subst hz
          exact Or.inr ⟨by decide, gEx 0, cl_L_31, hN 1 0 (by decide) (by decide) (by decide)⟩
        · refine v_astore_n hC (lv1 := [(3, .ref q9), (0, .ref (zad Z 0)), (1, .int a1), (2, .int a2)]) dL_judge_13 rfl (by decide) rfl ?_
          refine v_ldc2 hC (v := (-9000000000000000002)) lc_L_17 dL_judge_14 ?_
          exact v_lret hC rfl hlk hrt (by decide) dL_judge_17
      · rw [if_neg h1] at hF ⊢
        by_cases h2 : ex = 2
        · subst h2
          rw [if_pos rfl] at hF ⊢
          refine ⟨[⟨0, 7, 8, 31⟩, ⟨0, 7, 13, 15⟩], ⟨0, 7, 18, 19⟩, [], gEx 2, hT.trans rfl, fun z hz => ?_, rfl, by decide, cl_L_19, by decide, fun q9 => ?_⟩
          · simp only [List.mem_cons, List.not_mem_nil, or_false] at hz
            rcases hz with hz | hz
            · subst hz
              exact Or.inr ⟨by decide, gEx 0, cl_L_31, hN 2 0 (by decide) (by decide) (by decide)⟩
            · subst hz
              exact Or.inr ⟨by decide, gEx 1, cl_L_15, hN 2 1 (by decide) (by decide) (by decide)⟩
          · refine v_astore_n hC (lv1 := [(3, .ref q9), (0, .ref (zad Z 0)), (1, .int a1), (2, .int a2)]) dL_judge_18 rfl (by decide) rfl ?_
            refine v_ldc2 hC (v := (-9000000000000000003)) lc_L_21 dL_judge_19 ?_
            exact v_lret hC rfl hlk hrt (by decide) dL_judge_22
        · rw [if_neg h2] at hF ⊢
          exact absurd rfl hF
  · have e0 : f_W_judge M a1 a2 = qRet v.toInt64 (gh M1 (f_X9_judge (f_L_judge M a1 a2).2.2 a1 a2)) := by
      unfold f_W_judge
      rw [hr]
      rfl
    rw [e0] at hF ⊢
    refine v_i2l hC dL_judge_6 ?_
    exact v_lret hC (gL_gh _ _) hlk hrt (by decide) dL_judge_7
def f_W_vacate (M : gM) (a1 : Int32) : gQ := rq (f_X8_vacate M a1) (fun v M1 => qRet v.toInt64 (gh M1 (f_X9_vacate (f_L_vacate M a1).2.2 a1))) (fun ex M1 => if ex = 0 then qRet (-9000000000000000001) M1 else if ex = 2 then qRet (-9000000000000000003) M1 else qStuck)
abbrev rm_L_vacate : Room := { frames := 8, cells := 2, slots := 12, locals := 134 }
theorem mw_X8_vacate : Cond.instanceMethod yX8_vacate ∈ gWS ∧ Cond.selects RX8 yX8_vacate yX8_vacate ∈ gWS ∧ Cond.initialized RX8 ∈ gWS ∧ Cond.code yX8_vacate cX8_vacate 4 (some .int) ∈ gWS := ⟨gIx 942 (by decide +kernel) rfl, gIx 943 (by decide +kernel) rfl, gIx 36 (by decide +kernel) rfl, gIx 944 (by decide +kernel) rfl⟩
set_option maxRecDepth 20000 in
set_option maxHeartbeats 4000000 in
theorem c_L_vacate {l : Launch} (hfl : l.stackTraces = false) (Z : gZ) (M : gM) (a1 : Int32) : gMetW l yL_vacate cL_vacate 3 [(0, 6, 7, 31), (0, 6, 12, 19)] rm_L_vacate 2 Z M [.ref (zad Z 0), .int a1] (f_W_vacate M a1) := by
  refine v_enter (by decide) (Nat.le_of_ble_eq_true rfl) (fun hF p e s m args below meth c hC hN hlk hrt hT => ?_)
  refine v_lv0 (lv1 := [(0, .ref (zad Z 0)), (1, .int a1)]) rfl ?_
  refine v_aload_n hC 0 dL_vacate_0 rfl rfl ?_
  refine v_iload_n hC 1 dL_vacate_1 rfl rfl ?_
  refine v_callHi (n := 1) hC [.int a1] 0 8 (by decide) rfl rfl (fun hne => c_X8_vacate hfl Z M a1 hne) (rq_ne hF) (gIx 941 (by decide +kernel) rfl) mw_X8_vacate.1 mw_X8_vacate.2.1 mw_X8_vacate.2.2.1 mw_X8_vacate.2.2.2 ⟨rfl, by decide, by decide, by decide +kernel⟩ rfl rfl ⟨by decide, by decide⟩ rfl rfl (Nat.le_of_ble_eq_true rfl) (by decide) (by decide) dL_vacate_2 (fun ex M1 hr => ?_) (fun v M1 hr => ?_)
  · have e0 : f_W_vacate M a1 = (if ex = 0 then qRet (-9000000000000000001) M1 else if ex = 2 then qRet (-9000000000000000003) M1 else qStuck) := by
      unfold f_W_vacate
      rw [hr]
      exact rq_thr _ _ _ _
    rw [e0] at hF ⊢
    by_cases h0 : ex = 0
    · subst h0
      rw [if_pos rfl] at hF ⊢
      refine ⟨[], ⟨0, 6, 7, 31⟩, [⟨0, 6, 12, 19⟩], gEx 0, hT.trans rfl, fun z hz => ?_, rfl, by decide, cl_L_31, by decide, fun q9 => ?_⟩
      · cases hz
      · refine v_astore_n hC (lv1 := [(2, .ref q9), (0, .ref (zad Z 0)), (1, .int a1)]) dL_vacate_7 rfl (by decide) rfl ?_
        refine v_ldc2 hC (v := (-9000000000000000001)) lc_L_33 dL_vacate_8 ?_
        exact v_lret hC rfl hlk hrt (by decide) dL_vacate_11
    · rw [if_neg h0] at hF ⊢
      by_cases h1 : ex = 2
      · subst h1
        rw [if_pos rfl] at hF ⊢
        refine ⟨[⟨0, 6, 7, 31⟩], ⟨0, 6, 12, 19⟩, [], gEx 2, hT.trans rfl, fun z hz => ?_, rfl, by decide, cl_L_19, by decide, fun q9 => ?_⟩
        · simp only [List.mem_cons, List.not_mem_nil, or_false] at hz
          subst hz
          exact Or.inr ⟨by decide, gEx 0, cl_L_31, hN 2 0 (by decide) (by decide) (by decide)⟩
        · refine v_astore_n hC (lv1 := [(2, .ref q9), (0, .ref (zad Z 0)), (1, .int a1)]) dL_vacate_12 rfl (by decide) rfl ?_
          refine v_ldc2 hC (v := (-9000000000000000003)) lc_L_21 dL_vacate_13 ?_
          exact v_lret hC rfl hlk hrt (by decide) dL_vacate_16
      · rw [if_neg h1] at hF ⊢
        exact absurd rfl hF
  · have e0 : f_W_vacate M a1 = qRet v.toInt64 (gh M1 (f_X9_vacate (f_L_vacate M a1).2.2 a1)) := by
      unfold f_W_vacate
      rw [hr]
      rfl
    rw [e0] at hF ⊢
    refine v_i2l hC dL_vacate_5 ?_
    exact v_lret hC (gL_gh _ _) hlk hrt (by decide) dL_vacate_6
def f_W_appeal (M : gM) (a1 : Int32) : gQ := rq (f_X8_appeal M a1) (fun v M1 => qRet v.toInt64 (gh M1 (f_X9_appeal (f_L_appeal M a1).2.2 a1))) (fun ex M1 => if ex = 0 then qRet (-9000000000000000001) M1 else if ex = 2 then qRet (-9000000000000000003) M1 else qStuck)
abbrev rm_L_appeal : Room := { frames := 8, cells := 2, slots := 12, locals := 133 }
theorem mw_X8_appeal : Cond.instanceMethod yX8_appeal ∈ gWS ∧ Cond.selects RX8 yX8_appeal yX8_appeal ∈ gWS ∧ Cond.initialized RX8 ∈ gWS ∧ Cond.code yX8_appeal cX8_appeal 3 (some .int) ∈ gWS := ⟨gIx 957 (by decide +kernel) rfl, gIx 958 (by decide +kernel) rfl, gIx 36 (by decide +kernel) rfl, gIx 959 (by decide +kernel) rfl⟩
set_option maxRecDepth 20000 in
set_option maxHeartbeats 4000000 in
theorem c_L_appeal {l : Launch} (hfl : l.stackTraces = false) (Z : gZ) (M : gM) (a1 : Int32) : gMetW l yL_appeal cL_appeal 3 [(0, 6, 7, 31), (0, 6, 12, 19)] rm_L_appeal 2 Z M [.ref (zad Z 0), .int a1] (f_W_appeal M a1) := by
  refine v_enter (by decide) (Nat.le_of_ble_eq_true rfl) (fun hF p e s m args below meth c hC hN hlk hrt hT => ?_)
  refine v_lv0 (lv1 := [(0, .ref (zad Z 0)), (1, .int a1)]) rfl ?_
  refine v_aload_n hC 0 dL_appeal_0 rfl rfl ?_
  refine v_iload_n hC 1 dL_appeal_1 rfl rfl ?_
  refine v_callHi (n := 1) hC [.int a1] 0 8 (by decide) rfl rfl (fun hne => c_X8_appeal hfl Z M a1 hne) (rq_ne hF) (gIx 956 (by decide +kernel) rfl) mw_X8_appeal.1 mw_X8_appeal.2.1 mw_X8_appeal.2.2.1 mw_X8_appeal.2.2.2 ⟨rfl, by decide, by decide, by decide +kernel⟩ rfl rfl ⟨by decide, by decide⟩ rfl rfl (Nat.le_of_ble_eq_true rfl) (by decide) (by decide) dL_appeal_2 (fun ex M1 hr => ?_) (fun v M1 hr => ?_)
  · have e0 : f_W_appeal M a1 = (if ex = 0 then qRet (-9000000000000000001) M1 else if ex = 2 then qRet (-9000000000000000003) M1 else qStuck) := by
      unfold f_W_appeal
      rw [hr]
      exact rq_thr _ _ _ _
    rw [e0] at hF ⊢
    by_cases h0 : ex = 0
    · subst h0
      rw [if_pos rfl] at hF ⊢
      refine ⟨[], ⟨0, 6, 7, 31⟩, [⟨0, 6, 12, 19⟩], gEx 0, hT.trans rfl, fun z hz => ?_, rfl, by decide, cl_L_31, by decide, fun q9 => ?_⟩
      · cases hz
      · refine v_astore_n hC (lv1 := [(2, .ref q9), (0, .ref (zad Z 0)), (1, .int a1)]) dL_appeal_7 rfl (by decide) rfl ?_
        refine v_ldc2 hC (v := (-9000000000000000001)) lc_L_33 dL_appeal_8 ?_
        exact v_lret hC rfl hlk hrt (by decide) dL_appeal_11
    · rw [if_neg h0] at hF ⊢
      by_cases h1 : ex = 2
      · subst h1
        rw [if_pos rfl] at hF ⊢
        refine ⟨[⟨0, 6, 7, 31⟩], ⟨0, 6, 12, 19⟩, [], gEx 2, hT.trans rfl, fun z hz => ?_, rfl, by decide, cl_L_19, by decide, fun q9 => ?_⟩
        · simp only [List.mem_cons, List.not_mem_nil, or_false] at hz
          subst hz
          exact Or.inr ⟨by decide, gEx 0, cl_L_31, hN 2 0 (by decide) (by decide) (by decide)⟩
        · refine v_astore_n hC (lv1 := [(2, .ref q9), (0, .ref (zad Z 0)), (1, .int a1)]) dL_appeal_12 rfl (by decide) rfl ?_
          refine v_ldc2 hC (v := (-9000000000000000003)) lc_L_21 dL_appeal_13 ?_
          exact v_lret hC rfl hlk hrt (by decide) dL_appeal_16
      · rw [if_neg h1] at hF ⊢
        exact absurd rfl hF
  · have e0 : f_W_appeal M a1 = qRet v.toInt64 (gh M1 (f_X9_appeal (f_L_appeal M a1).2.2 a1)) := by
      unfold f_W_appeal
      rw [hr]
      rfl
    rw [e0] at hF ⊢
    refine v_i2l hC dL_appeal_5 ?_
    exact v_lret hC (gL_gh _ _) hlk hrt (by decide) dL_appeal_6
def f_W_decide (M : gM) (a1 : Int32) (a2 : Int32) (a3 : Int32) : gQ := rq (f_X8_decide M a1 a2 a3) (fun v M1 => qRet v.toInt64 (gh M1 (f_X9_decide (f_L_decide M a1 a2 a3).2.2 a1 a2 a3))) (fun ex M1 => if ex = 0 then qRet (-9000000000000000001) M1 else if ex = 1 then qRet (-9000000000000000002) M1 else if ex = 2 then qRet (-9000000000000000003) M1 else qStuck)
abbrev rm_L_decide : Room := { frames := 8, cells := 2, slots := 12, locals := 136 }
theorem mw_X8_decide : Cond.instanceMethod yX8_decide ∈ gWS ∧ Cond.selects RX8 yX8_decide yX8_decide ∈ gWS ∧ Cond.initialized RX8 ∈ gWS ∧ Cond.code yX8_decide cX8_decide 6 (some .int) ∈ gWS := ⟨gIx 968 (by decide +kernel) rfl, gIx 969 (by decide +kernel) rfl, gIx 36 (by decide +kernel) rfl, gIx 970 (by decide +kernel) rfl⟩
set_option maxRecDepth 20000 in
set_option maxHeartbeats 4000000 in
theorem c_L_decide {l : Launch} (hfl : l.stackTraces = false) (Z : gZ) (M : gM) (a1 : Int32) (a2 : Int32) (a3 : Int32) : gMetW l yL_decide cL_decide 5 [(0, 8, 9, 31), (0, 8, 15, 15), (0, 8, 21, 19)] rm_L_decide 2 Z M [.ref (zad Z 0), .int a1, .int a2, .int a3] (f_W_decide M a1 a2 a3) := by
  refine v_enter (by decide) (Nat.le_of_ble_eq_true rfl) (fun hF p e s m args below meth c hC hN hlk hrt hT => ?_)
  refine v_lv0 (lv1 := [(0, .ref (zad Z 0)), (1, .int a1), (2, .int a2), (3, .int a3)]) rfl ?_
  refine v_aload_n hC 0 dL_decide_0 rfl rfl ?_
  refine v_iload_n hC 1 dL_decide_1 rfl rfl ?_
  refine v_iload_n hC 2 dL_decide_2 rfl rfl ?_
  refine v_iload_n hC 3 dL_decide_3 rfl rfl ?_
  refine v_callHi (n := 3) hC [.int a1, .int a2, .int a3] 0 8 (by decide) rfl rfl (fun hne => c_X8_decide hfl Z M a1 a2 a3 hne) (rq_ne hF) (gIx 967 (by decide +kernel) rfl) mw_X8_decide.1 mw_X8_decide.2.1 mw_X8_decide.2.2.1 mw_X8_decide.2.2.2 ⟨rfl, by decide, by decide, by decide +kernel⟩ rfl rfl ⟨by decide, by decide⟩ rfl rfl (Nat.le_of_ble_eq_true rfl) (by decide) (by decide) dL_decide_4 (fun ex M1 hr => ?_) (fun v M1 hr => ?_)
  · have e0 : f_W_decide M a1 a2 a3 = (if ex = 0 then qRet (-9000000000000000001) M1 else if ex = 1 then qRet (-9000000000000000002) M1 else if ex = 2 then qRet (-9000000000000000003) M1 else qStuck) := by
      unfold f_W_decide
      rw [hr]
      exact rq_thr _ _ _ _
    rw [e0] at hF ⊢
    by_cases h0 : ex = 0
    · subst h0
      rw [if_pos rfl] at hF ⊢
      refine ⟨[], ⟨0, 8, 9, 31⟩, [⟨0, 8, 15, 15⟩, ⟨0, 8, 21, 19⟩], gEx 0, hT.trans rfl, fun z hz => ?_, rfl, by decide, cl_L_31, by decide, fun q9 => ?_⟩
      · cases hz
      · refine v_astore hC (lv1 := [(4, .ref q9), (0, .ref (zad Z 0)), (1, .int a1), (2, .int a2), (3, .int a3)]) dL_decide_9 (by decide) rfl ?_
        refine v_ldc2 hC (v := (-9000000000000000001)) lc_L_33 dL_decide_11 ?_
        exact v_lret hC rfl hlk hrt (by decide) dL_decide_14
    · rw [if_neg h0] at hF ⊢
      by_cases h1 : ex = 1
      · subst h1
        rw [if_pos rfl] at hF ⊢
        refine ⟨[⟨0, 8, 9, 31⟩], ⟨0, 8, 15, 15⟩, [⟨0, 8, 21, 19⟩], gEx 1, hT.trans rfl, fun z hz => ?_, rfl, by decide, cl_L_15, by decide, fun q9 => ?_⟩
        · simp only [List.mem_cons, List.not_mem_nil, or_false] at hz
          subst hz
          exact Or.inr ⟨by decide, gEx 0, cl_L_31, hN 1 0 (by decide) (by decide) (by decide)⟩
        · refine v_astore hC (lv1 := [(4, .ref q9), (0, .ref (zad Z 0)), (1, .int a1), (2, .int a2), (3, .int a3)]) dL_decide_15 (by decide) rfl ?_
          refine v_ldc2 hC (v := (-9000000000000000002)) lc_L_17 dL_decide_17 ?_
          exact v_lret hC rfl hlk hrt (by decide) dL_decide_20
      · rw [if_neg h1] at hF ⊢
        by_cases h2 : ex = 2
        · subst h2
          rw [if_pos rfl] at hF ⊢
          refine ⟨[⟨0, 8, 9, 31⟩, ⟨0, 8, 15, 15⟩], ⟨0, 8, 21, 19⟩, [], gEx 2, hT.trans rfl, fun z hz => ?_, rfl, by decide, cl_L_19, by decide, fun q9 => ?_⟩
          · simp only [List.mem_cons, List.not_mem_nil, or_false] at hz
            rcases hz with hz | hz
            · subst hz
              exact Or.inr ⟨by decide, gEx 0, cl_L_31, hN 2 0 (by decide) (by decide) (by decide)⟩
            · subst hz
              exact Or.inr ⟨by decide, gEx 1, cl_L_15, hN 2 1 (by decide) (by decide) (by decide)⟩
          · refine v_astore hC (lv1 := [(4, .ref q9), (0, .ref (zad Z 0)), (1, .int a1), (2, .int a2), (3, .int a3)]) dL_decide_21 (by decide) rfl ?_
            refine v_ldc2 hC (v := (-9000000000000000003)) lc_L_21 dL_decide_23 ?_
            exact v_lret hC rfl hlk hrt (by decide) dL_decide_26
        · rw [if_neg h2] at hF ⊢
          exact absurd rfl hF
  · have e0 : f_W_decide M a1 a2 a3 = qRet v.toInt64 (gh M1 (f_X9_decide (f_L_decide M a1 a2 a3).2.2 a1 a2 a3)) := by
      unfold f_W_decide
      rw [hr]
      rfl
    rw [e0] at hF ⊢
    refine v_i2l hC dL_decide_7 ?_
    exact v_lret hC (gL_gh _ _) hlk hrt (by decide) dL_decide_8
def f_W_settle (M : gM) (a1 : Int32) : gQ := rq (f_X8_settle M a1) (fun v M1 => qRet v.toInt64 (gh M1 (f_X9_settle (f_L_settle M a1).2.2 a1))) (fun ex M1 => if ex = 0 then qRet (-9000000000000000001) M1 else if ex = 2 then qRet (-9000000000000000003) M1 else qStuck)
abbrev rm_L_settle : Room := { frames := 8, cells := 2, slots := 12, locals := 134 }
theorem mw_X8_settle : Cond.instanceMethod yX8_settle ∈ gWS ∧ Cond.selects RX8 yX8_settle yX8_settle ∈ gWS ∧ Cond.initialized RX8 ∈ gWS ∧ Cond.code yX8_settle cX8_settle 4 (some .int) ∈ gWS := ⟨gIx 977 (by decide +kernel) rfl, gIx 978 (by decide +kernel) rfl, gIx 36 (by decide +kernel) rfl, gIx 979 (by decide +kernel) rfl⟩
set_option maxRecDepth 20000 in
set_option maxHeartbeats 4000000 in
theorem c_L_settle {l : Launch} (hfl : l.stackTraces = false) (Z : gZ) (M : gM) (a1 : Int32) : gMetW l yL_settle cL_settle 3 [(0, 6, 7, 31), (0, 6, 12, 19)] rm_L_settle 2 Z M [.ref (zad Z 0), .int a1] (f_W_settle M a1) := by
  refine v_enter (by decide) (Nat.le_of_ble_eq_true rfl) (fun hF p e s m args below meth c hC hN hlk hrt hT => ?_)
  refine v_lv0 (lv1 := [(0, .ref (zad Z 0)), (1, .int a1)]) rfl ?_
  refine v_aload_n hC 0 dL_settle_0 rfl rfl ?_
  refine v_iload_n hC 1 dL_settle_1 rfl rfl ?_
  refine v_callHi (n := 1) hC [.int a1] 0 8 (by decide) rfl rfl (fun hne => c_X8_settle hfl Z M a1 hne) (rq_ne hF) (gIx 976 (by decide +kernel) rfl) mw_X8_settle.1 mw_X8_settle.2.1 mw_X8_settle.2.2.1 mw_X8_settle.2.2.2 ⟨rfl, by decide, by decide, by decide +kernel⟩ rfl rfl ⟨by decide, by decide⟩ rfl rfl (Nat.le_of_ble_eq_true rfl) (by decide) (by decide) dL_settle_2 (fun ex M1 hr => ?_) (fun v M1 hr => ?_)
  · have e0 : f_W_settle M a1 = (if ex = 0 then qRet (-9000000000000000001) M1 else if ex = 2 then qRet (-9000000000000000003) M1 else qStuck) := by
      unfold f_W_settle
      rw [hr]
      exact rq_thr _ _ _ _
    rw [e0] at hF ⊢
    by_cases h0 : ex = 0
    · subst h0
      rw [if_pos rfl] at hF ⊢
      refine ⟨[], ⟨0, 6, 7, 31⟩, [⟨0, 6, 12, 19⟩], gEx 0, hT.trans rfl, fun z hz => ?_, rfl, by decide, cl_L_31, by decide, fun q9 => ?_⟩
      · cases hz
      · refine v_astore_n hC (lv1 := [(2, .ref q9), (0, .ref (zad Z 0)), (1, .int a1)]) dL_settle_7 rfl (by decide) rfl ?_
        refine v_ldc2 hC (v := (-9000000000000000001)) lc_L_33 dL_settle_8 ?_
        exact v_lret hC rfl hlk hrt (by decide) dL_settle_11
    · rw [if_neg h0] at hF ⊢
      by_cases h1 : ex = 2
      · subst h1
        rw [if_pos rfl] at hF ⊢
        refine ⟨[⟨0, 6, 7, 31⟩], ⟨0, 6, 12, 19⟩, [], gEx 2, hT.trans rfl, fun z hz => ?_, rfl, by decide, cl_L_19, by decide, fun q9 => ?_⟩
        · simp only [List.mem_cons, List.not_mem_nil, or_false] at hz
          subst hz
          exact Or.inr ⟨by decide, gEx 0, cl_L_31, hN 2 0 (by decide) (by decide) (by decide)⟩
        · refine v_astore_n hC (lv1 := [(2, .ref q9), (0, .ref (zad Z 0)), (1, .int a1)]) dL_settle_12 rfl (by decide) rfl ?_
          refine v_ldc2 hC (v := (-9000000000000000003)) lc_L_21 dL_settle_13 ?_
          exact v_lret hC rfl hlk hrt (by decide) dL_settle_16
      · rw [if_neg h1] at hF ⊢
        exact absurd rfl hF
  · have e0 : f_W_settle M a1 = qRet v.toInt64 (gh M1 (f_X9_settle (f_L_settle M a1).2.2 a1)) := by
      unfold f_W_settle
      rw [hr]
      rfl
    rw [e0] at hF ⊢
    refine v_i2l hC dL_settle_5 ?_
    exact v_lret hC (gL_gh _ _) hlk hrt (by decide) dL_settle_6
def f_W_pay (M : gM) (a1 : Int32) (a2 : Int32) : gQ := rq (f_X8_pay M a1 a2) (fun v M1 => qRet v.toInt64 (gh M1 (f_X9_pay (f_L_pay M a1 a2).2.2 a1 a2))) (fun ex M1 => if ex = 0 then qRet (-9000000000000000001) M1 else if ex = 1 then qRet (-9000000000000000002) M1 else if ex = 2 then qRet (-9000000000000000003) M1 else qStuck)
abbrev rm_L_pay : Room := { frames := 8, cells := 3, slots := 18, locals := 135 }
theorem mw_X8_pay : Cond.instanceMethod yX8_pay ∈ gWS ∧ Cond.selects RX8 yX8_pay yX8_pay ∈ gWS ∧ Cond.initialized RX8 ∈ gWS ∧ Cond.code yX8_pay cX8_pay 4 (some .int) ∈ gWS := ⟨gIx 984 (by decide +kernel) rfl, gIx 985 (by decide +kernel) rfl, gIx 36 (by decide +kernel) rfl, gIx 986 (by decide +kernel) rfl⟩
set_option maxRecDepth 20000 in
set_option maxHeartbeats 4000000 in
theorem c_L_pay {l : Launch} (hfl : l.stackTraces = false) (Z : gZ) (M : gM) (a1 : Int32) (a2 : Int32) : gMetW l yL_pay cL_pay 4 [(0, 7, 8, 31), (0, 7, 13, 15), (0, 7, 18, 19)] rm_L_pay 3 Z M [.ref (zad Z 0), .int a1, .int a2] (f_W_pay M a1 a2) := by
  refine v_enter (by decide) (Nat.le_of_ble_eq_true rfl) (fun hF p e s m args below meth c hC hN hlk hrt hT => ?_)
  refine v_lv0 (lv1 := [(0, .ref (zad Z 0)), (1, .int a1), (2, .int a2)]) rfl ?_
  refine v_aload_n hC 0 dL_pay_0 rfl rfl ?_
  refine v_iload_n hC 1 dL_pay_1 rfl rfl ?_
  refine v_iload_n hC 2 dL_pay_2 rfl rfl ?_
  refine v_callHi (n := 2) hC [.int a1, .int a2] 0 8 (by decide) rfl rfl (fun hne => c_X8_pay hfl Z M a1 a2 hne) (rq_ne hF) (gIx 983 (by decide +kernel) rfl) mw_X8_pay.1 mw_X8_pay.2.1 mw_X8_pay.2.2.1 mw_X8_pay.2.2.2 ⟨rfl, by decide, by decide, by decide +kernel⟩ rfl rfl ⟨by decide, by decide⟩ rfl rfl (Nat.le_of_ble_eq_true rfl) (by decide) (by decide) dL_pay_3 (fun ex M1 hr => ?_) (fun v M1 hr => ?_)
  · have e0 : f_W_pay M a1 a2 = (if ex = 0 then qRet (-9000000000000000001) M1 else if ex = 1 then qRet (-9000000000000000002) M1 else if ex = 2 then qRet (-9000000000000000003) M1 else qStuck) := by
      unfold f_W_pay
      rw [hr]
      exact rq_thr _ _ _ _
    rw [e0] at hF ⊢
    by_cases h0 : ex = 0
    · subst h0
      rw [if_pos rfl] at hF ⊢
      refine ⟨[], ⟨0, 7, 8, 31⟩, [⟨0, 7, 13, 15⟩, ⟨0, 7, 18, 19⟩], gEx 0, hT.trans rfl, fun z hz => ?_, rfl, by decide, cl_L_31, by decide, fun q9 => ?_⟩
      · cases hz
      · refine v_astore_n hC (lv1 := [(3, .ref q9), (0, .ref (zad Z 0)), (1, .int a1), (2, .int a2)]) dL_pay_8 rfl (by decide) rfl ?_
        refine v_ldc2 hC (v := (-9000000000000000001)) lc_L_33 dL_pay_9 ?_
        exact v_lret hC rfl hlk hrt (by decide) dL_pay_12
    · rw [if_neg h0] at hF ⊢
      by_cases h1 : ex = 1
      · subst h1
        rw [if_pos rfl] at hF ⊢
        refine ⟨[⟨0, 7, 8, 31⟩], ⟨0, 7, 13, 15⟩, [⟨0, 7, 18, 19⟩], gEx 1, hT.trans rfl, fun z hz => ?_, rfl, by decide, cl_L_15, by decide, fun q9 => ?_⟩
        · simp only [List.mem_cons, List.not_mem_nil, or_false] at hz
          subst hz
          exact Or.inr ⟨by decide, gEx 0, cl_L_31, hN 1 0 (by decide) (by decide) (by decide)⟩
        · refine v_astore_n hC (lv1 := [(3, .ref q9), (0, .ref (zad Z 0)), (1, .int a1), (2, .int a2)]) dL_pay_13 rfl (by decide) rfl ?_
          refine v_ldc2 hC (v := (-9000000000000000002)) lc_L_17 dL_pay_14 ?_
          exact v_lret hC rfl hlk hrt (by decide) dL_pay_17
      · rw [if_neg h1] at hF ⊢
        by_cases h2 : ex = 2
        · subst h2
          rw [if_pos rfl] at hF ⊢
          refine ⟨[⟨0, 7, 8, 31⟩, ⟨0, 7, 13, 15⟩], ⟨0, 7, 18, 19⟩, [], gEx 2, hT.trans rfl, fun z hz => ?_, rfl, by decide, cl_L_19, by decide, fun q9 => ?_⟩
          · simp only [List.mem_cons, List.not_mem_nil, or_false] at hz
            rcases hz with hz | hz
            · subst hz
              exact Or.inr ⟨by decide, gEx 0, cl_L_31, hN 2 0 (by decide) (by decide) (by decide)⟩
            · subst hz
              exact Or.inr ⟨by decide, gEx 1, cl_L_15, hN 2 1 (by decide) (by decide) (by decide)⟩
          · refine v_astore_n hC (lv1 := [(3, .ref q9), (0, .ref (zad Z 0)), (1, .int a1), (2, .int a2)]) dL_pay_18 rfl (by decide) rfl ?_
            refine v_ldc2 hC (v := (-9000000000000000003)) lc_L_21 dL_pay_19 ?_
            exact v_lret hC rfl hlk hrt (by decide) dL_pay_22
        · rw [if_neg h2] at hF ⊢
          exact absurd rfl hF
  · have e0 : f_W_pay M a1 a2 = qRet v.toInt64 (gh M1 (f_X9_pay (f_L_pay M a1 a2).2.2 a1 a2)) := by
      unfold f_W_pay
      rw [hr]
      rfl
    rw [e0] at hF ⊢
    refine v_i2l hC dL_pay_6 ?_
    exact v_lret hC (gL_gh _ _) hlk hrt (by decide) dL_pay_7
def f_W_stay (M : gM) (a1 : Int32) (a2 : Int32) : gQ := rq (f_X8_stay M a1 a2) (fun v M1 => qRet v.toInt64 (gh M1 (f_X9_stay (f_L_stay M a1 a2).2.2 a1 a2))) (fun ex M1 => if ex = 0 then qRet (-9000000000000000001) M1 else if ex = 2 then qRet (-9000000000000000003) M1 else qStuck)
abbrev rm_L_stay : Room := { frames := 8, cells := 2, slots := 12, locals := 134 }
theorem mw_X8_stay : Cond.instanceMethod yX8_stay ∈ gWS ∧ Cond.selects RX8 yX8_stay yX8_stay ∈ gWS ∧ Cond.initialized RX8 ∈ gWS ∧ Cond.code yX8_stay cX8_stay 4 (some .int) ∈ gWS := ⟨gIx 636 (by decide +kernel) rfl, gIx 637 (by decide +kernel) rfl, gIx 36 (by decide +kernel) rfl, gIx 638 (by decide +kernel) rfl⟩
set_option maxRecDepth 20000 in
set_option maxHeartbeats 4000000 in
theorem c_L_stay {l : Launch} (hfl : l.stackTraces = false) (Z : gZ) (M : gM) (a1 : Int32) (a2 : Int32) : gMetW l yL_stay cL_stay 4 [(0, 7, 8, 31), (0, 7, 13, 19)] rm_L_stay 2 Z M [.ref (zad Z 0), .int a1, .int a2] (f_W_stay M a1 a2) := by
  refine v_enter (by decide) (Nat.le_of_ble_eq_true rfl) (fun hF p e s m args below meth c hC hN hlk hrt hT => ?_)
  refine v_lv0 (lv1 := [(0, .ref (zad Z 0)), (1, .int a1), (2, .int a2)]) rfl ?_
  refine v_aload_n hC 0 dL_stay_0 rfl rfl ?_
  refine v_iload_n hC 1 dL_stay_1 rfl rfl ?_
  refine v_iload_n hC 2 dL_stay_2 rfl rfl ?_
  refine v_callHi (n := 2) hC [.int a1, .int a2] 0 8 (by decide) rfl rfl (fun hne => c_X8_stay hfl Z M a1 a2 hne) (rq_ne hF) (gIx 635 (by decide +kernel) rfl) mw_X8_stay.1 mw_X8_stay.2.1 mw_X8_stay.2.2.1 mw_X8_stay.2.2.2 ⟨rfl, by decide, by decide, by decide +kernel⟩ rfl rfl ⟨by decide, by decide⟩ rfl rfl (Nat.le_of_ble_eq_true rfl) (by decide) (by decide) dL_stay_3 (fun ex M1 hr => ?_) (fun v M1 hr => ?_)
  · have e0 : f_W_stay M a1 a2 = (if ex = 0 then qRet (-9000000000000000001) M1 else if ex = 2 then qRet (-9000000000000000003) M1 else qStuck) := by
      unfold f_W_stay
      rw [hr]
      exact rq_thr _ _ _ _
    rw [e0] at hF ⊢
    by_cases h0 : ex = 0
    · subst h0
      rw [if_pos rfl] at hF ⊢
      refine ⟨[], ⟨0, 7, 8, 31⟩, [⟨0, 7, 13, 19⟩], gEx 0, hT.trans rfl, fun z hz => ?_, rfl, by decide, cl_L_31, by decide, fun q9 => ?_⟩
      · cases hz
      · refine v_astore_n hC (lv1 := [(3, .ref q9), (0, .ref (zad Z 0)), (1, .int a1), (2, .int a2)]) dL_stay_8 rfl (by decide) rfl ?_
        refine v_ldc2 hC (v := (-9000000000000000001)) lc_L_33 dL_stay_9 ?_
        exact v_lret hC rfl hlk hrt (by decide) dL_stay_12
    · rw [if_neg h0] at hF ⊢
      by_cases h1 : ex = 2
      · subst h1
        rw [if_pos rfl] at hF ⊢
        refine ⟨[⟨0, 7, 8, 31⟩], ⟨0, 7, 13, 19⟩, [], gEx 2, hT.trans rfl, fun z hz => ?_, rfl, by decide, cl_L_19, by decide, fun q9 => ?_⟩
        · simp only [List.mem_cons, List.not_mem_nil, or_false] at hz
          subst hz
          exact Or.inr ⟨by decide, gEx 0, cl_L_31, hN 2 0 (by decide) (by decide) (by decide)⟩
        · refine v_astore_n hC (lv1 := [(3, .ref q9), (0, .ref (zad Z 0)), (1, .int a1), (2, .int a2)]) dL_stay_13 rfl (by decide) rfl ?_
          refine v_ldc2 hC (v := (-9000000000000000003)) lc_L_21 dL_stay_14 ?_
          exact v_lret hC rfl hlk hrt (by decide) dL_stay_17
      · rw [if_neg h1] at hF ⊢
        exact absurd rfl hF
  · have e0 : f_W_stay M a1 a2 = qRet v.toInt64 (gh M1 (f_X9_stay (f_L_stay M a1 a2).2.2 a1 a2)) := by
      unfold f_W_stay
      rw [hr]
      rfl
    rw [e0] at hF ⊢
    refine v_i2l hC dL_stay_6 ?_
    exact v_lret hC (gL_gh _ _) hlk hrt (by decide) dL_stay_7
def f_W_defect (M : gM) (a1 : Int32) : gQ := rq (f_X8_defect M a1) (fun v M1 => qRet v.toInt64 (gh M1 (f_X9_defect (f_L_defect M a1).2.2 a1))) (fun ex M1 => if ex = 0 then qRet (-9000000000000000001) M1 else if ex = 2 then qRet (-9000000000000000003) M1 else qStuck)
abbrev rm_L_defect : Room := { frames := 8, cells := 2, slots := 12, locals := 134 }
theorem mw_X8_defect : Cond.instanceMethod yX8_defect ∈ gWS ∧ Cond.selects RX8 yX8_defect yX8_defect ∈ gWS ∧ Cond.initialized RX8 ∈ gWS ∧ Cond.code yX8_defect cX8_defect 4 (some .int) ∈ gWS := ⟨gIx 992 (by decide +kernel) rfl, gIx 993 (by decide +kernel) rfl, gIx 36 (by decide +kernel) rfl, gIx 994 (by decide +kernel) rfl⟩
set_option maxRecDepth 20000 in
set_option maxHeartbeats 4000000 in
theorem c_L_defect {l : Launch} (hfl : l.stackTraces = false) (Z : gZ) (M : gM) (a1 : Int32) : gMetW l yL_defect cL_defect 3 [(0, 6, 7, 31), (0, 6, 12, 19)] rm_L_defect 2 Z M [.ref (zad Z 0), .int a1] (f_W_defect M a1) := by
  refine v_enter (by decide) (Nat.le_of_ble_eq_true rfl) (fun hF p e s m args below meth c hC hN hlk hrt hT => ?_)
  refine v_lv0 (lv1 := [(0, .ref (zad Z 0)), (1, .int a1)]) rfl ?_
  refine v_aload_n hC 0 dL_defect_0 rfl rfl ?_
  refine v_iload_n hC 1 dL_defect_1 rfl rfl ?_
  refine v_callHi (n := 1) hC [.int a1] 0 8 (by decide) rfl rfl (fun hne => c_X8_defect hfl Z M a1 hne) (rq_ne hF) (gIx 991 (by decide +kernel) rfl) mw_X8_defect.1 mw_X8_defect.2.1 mw_X8_defect.2.2.1 mw_X8_defect.2.2.2 ⟨rfl, by decide, by decide, by decide +kernel⟩ rfl rfl ⟨by decide, by decide⟩ rfl rfl (Nat.le_of_ble_eq_true rfl) (by decide) (by decide) dL_defect_2 (fun ex M1 hr => ?_) (fun v M1 hr => ?_)
  · have e0 : f_W_defect M a1 = (if ex = 0 then qRet (-9000000000000000001) M1 else if ex = 2 then qRet (-9000000000000000003) M1 else qStuck) := by
      unfold f_W_defect
      rw [hr]
      exact rq_thr _ _ _ _
    rw [e0] at hF ⊢
    by_cases h0 : ex = 0
    · subst h0
      rw [if_pos rfl] at hF ⊢
      refine ⟨[], ⟨0, 6, 7, 31⟩, [⟨0, 6, 12, 19⟩], gEx 0, hT.trans rfl, fun z hz => ?_, rfl, by decide, cl_L_31, by decide, fun q9 => ?_⟩
      · cases hz
      · refine v_astore_n hC (lv1 := [(2, .ref q9), (0, .ref (zad Z 0)), (1, .int a1)]) dL_defect_7 rfl (by decide) rfl ?_
        refine v_ldc2 hC (v := (-9000000000000000001)) lc_L_33 dL_defect_8 ?_
        exact v_lret hC rfl hlk hrt (by decide) dL_defect_11
    · rw [if_neg h0] at hF ⊢
      by_cases h1 : ex = 2
      · subst h1
        rw [if_pos rfl] at hF ⊢
        refine ⟨[⟨0, 6, 7, 31⟩], ⟨0, 6, 12, 19⟩, [], gEx 2, hT.trans rfl, fun z hz => ?_, rfl, by decide, cl_L_19, by decide, fun q9 => ?_⟩
        · simp only [List.mem_cons, List.not_mem_nil, or_false] at hz
          subst hz
          exact Or.inr ⟨by decide, gEx 0, cl_L_31, hN 2 0 (by decide) (by decide) (by decide)⟩
        · refine v_astore_n hC (lv1 := [(2, .ref q9), (0, .ref (zad Z 0)), (1, .int a1)]) dL_defect_12 rfl (by decide) rfl ?_
          refine v_ldc2 hC (v := (-9000000000000000003)) lc_L_21 dL_defect_13 ?_
          exact v_lret hC rfl hlk hrt (by decide) dL_defect_16
      · rw [if_neg h1] at hF ⊢
        exact absurd rfl hF
  · have e0 : f_W_defect M a1 = qRet v.toInt64 (gh M1 (f_X9_defect (f_L_defect M a1).2.2 a1)) := by
      unfold f_W_defect
      rw [hr]
      rfl
    rw [e0] at hF ⊢
    refine v_i2l hC dL_defect_5 ?_
    exact v_lret hC (gL_gh _ _) hlk hrt (by decide) dL_defect_6
def f_W_cure (M : gM) (a1 : Int32) : gQ := rq (f_X8_cure M a1) (fun v M1 => if v = 0 then qRet 0 (gh M1 (f_X9_cure (f_L_cure M a1).2.2 a1)) else qRet 1 (gh M1 (f_X9_cure (f_L_cure M a1).2.2 a1))) (fun ex M1 => if ex = 0 then qRet (-9000000000000000001) M1 else if ex = 2 then qRet (-9000000000000000003) M1 else qStuck)
abbrev rm_L_cure : Room := { frames := 8, cells := 2, slots := 12, locals := 132 }
theorem mw_X8_cure : Cond.instanceMethod yX8_cure ∈ gWS ∧ Cond.selects RX8 yX8_cure yX8_cure ∈ gWS ∧ Cond.initialized RX8 ∈ gWS ∧ Cond.code yX8_cure cX8_cure 2 (some .boolean) ∈ gWS := ⟨gIx 1000 (by decide +kernel) rfl, gIx 1001 (by decide +kernel) rfl, gIx 36 (by decide +kernel) rfl, gIx 1002 (by decide +kernel) rfl⟩
set_option maxRecDepth 20000 in
set_option maxHeartbeats 4000000 in
theorem c_L_cure {l : Launch} (hfl : l.stackTraces = false) (Z : gZ) (M : gM) (a1 : Int32) : gMetW l yL_cure cL_cure 3 [(0, 13, 14, 31), (0, 13, 19, 19)] rm_L_cure 2 Z M [.ref (zad Z 0), .int a1] (f_W_cure M a1) := by
  refine v_enter (by decide) (Nat.le_of_ble_eq_true rfl) (fun hF p e s m args below meth c hC hN hlk hrt hT => ?_)
  refine v_lv0 (lv1 := [(0, .ref (zad Z 0)), (1, .int a1)]) rfl ?_
  refine v_aload_n hC 0 dL_cure_0 rfl rfl ?_
  refine v_iload_n hC 1 dL_cure_1 rfl rfl ?_
  refine v_callHi (n := 1) hC [.int a1] 0 8 (by decide) rfl rfl (fun hne => c_X8_cure hfl Z M a1 hne) (rq_ne hF) (gIx 999 (by decide +kernel) rfl) mw_X8_cure.1 mw_X8_cure.2.1 mw_X8_cure.2.2.1 mw_X8_cure.2.2.2 ⟨rfl, by decide, by decide, by decide +kernel⟩ rfl rfl ⟨by decide, by decide⟩ rfl rfl (Nat.le_of_ble_eq_true rfl) (by decide) (by decide) dL_cure_2 (fun ex M1 hr => ?_) (fun v M1 hr => ?_)
  · have e0 : f_W_cure M a1 = (if ex = 0 then qRet (-9000000000000000001) M1 else if ex = 2 then qRet (-9000000000000000003) M1 else qStuck) := by
      unfold f_W_cure
      rw [hr]
      exact rq_thr _ _ _ _
    rw [e0] at hF ⊢
    by_cases h0 : ex = 0
    · subst h0
      rw [if_pos rfl] at hF ⊢
      refine ⟨[], ⟨0, 13, 14, 31⟩, [⟨0, 13, 19, 19⟩], gEx 0, hT.trans rfl, fun z hz => ?_, rfl, by decide, cl_L_31, by decide, fun q9 => ?_⟩
      · cases hz
      · refine v_astore_n hC (lv1 := [(2, .ref q9), (0, .ref (zad Z 0)), (1, .int a1)]) dL_cure_14 rfl (by decide) rfl ?_
        refine v_ldc2 hC (v := (-9000000000000000001)) lc_L_33 dL_cure_15 ?_
        exact v_lret hC rfl hlk hrt (by decide) dL_cure_18
    · rw [if_neg h0] at hF ⊢
      by_cases h1 : ex = 2
      · subst h1
        rw [if_pos rfl] at hF ⊢
        refine ⟨[⟨0, 13, 14, 31⟩], ⟨0, 13, 19, 19⟩, [], gEx 2, hT.trans rfl, fun z hz => ?_, rfl, by decide, cl_L_19, by decide, fun q9 => ?_⟩
        · simp only [List.mem_cons, List.not_mem_nil, or_false] at hz
          subst hz
          exact Or.inr ⟨by decide, gEx 0, cl_L_31, hN 2 0 (by decide) (by decide) (by decide)⟩
        · refine v_astore_n hC (lv1 := [(2, .ref q9), (0, .ref (zad Z 0)), (1, .int a1)]) dL_cure_19 rfl (by decide) rfl ?_
          refine v_ldc2 hC (v := (-9000000000000000003)) lc_L_21 dL_cure_20 ?_
          exact v_lret hC rfl hlk hrt (by decide) dL_cure_23
      · rw [if_neg h1] at hF ⊢
        exact absurd rfl hF
  · have e0 : f_W_cure M a1 = (if v = 0 then qRet 0 (gh M1 (f_X9_cure (f_L_cure M a1).2.2 a1)) else qRet 1 (gh M1 (f_X9_cure (f_L_cure M a1).2.2 a1))) := by
      unfold f_W_cure
      rw [hr]
      rfl
    rw [e0] at hF ⊢
    refine v_if_eq (tgt := 12) hC dL_cure_5 (by decide) (fun h => ?_) (fun h => ?_)
    · rw [if_pos h] at hF ⊢
      refine v_lconst hC (v := 0) dL_cure_12 (by decide) ?_
      exact v_lret hC (gL_gh _ _) hlk hrt (by decide) dL_cure_13
    · rw [if_neg h] at hF ⊢
      refine v_lconst hC (v := 1) dL_cure_8 (by decide) ?_
      refine v_goto (tgt := 13) hC dL_cure_9 (by decide) ?_
      exact v_lret hC (gL_gh _ _) hlk hrt (by decide) dL_cure_13
def f_W_extend (M : gM) (a1 : Int32) (a2 : Int32) (a3 : Int32) : gQ := rq (f_X8_extend M a1 a2 a3) (fun v M1 => qRet v.toInt64 (gh M1 (f_X9_extend (f_L_extend M a1 a2 a3).2.2 a1 a2 a3))) (fun ex M1 => if ex = 0 then qRet (-9000000000000000001) M1 else if ex = 1 then qRet (-9000000000000000002) M1 else if ex = 2 then qRet (-9000000000000000003) M1 else qStuck)
abbrev rm_L_extend : Room := { frames := 10, cells := 4, slots := 24, locals := 179 }
theorem mw_X8_extend : Cond.instanceMethod yX8_extend ∈ gWS ∧ Cond.selects RX8 yX8_extend yX8_extend ∈ gWS ∧ Cond.initialized RX8 ∈ gWS ∧ Cond.code yX8_extend cX8_extend 6 (some .int) ∈ gWS := ⟨gIx 651 (by decide +kernel) rfl, gIx 652 (by decide +kernel) rfl, gIx 36 (by decide +kernel) rfl, gIx 653 (by decide +kernel) rfl⟩
set_option maxRecDepth 20000 in
set_option maxHeartbeats 4000000 in
theorem c_L_extend {l : Launch} (hfl : l.stackTraces = false) (Z : gZ) (M : gM) (a1 : Int32) (a2 : Int32) (a3 : Int32) : gMetW l yL_extend cL_extend 5 [(0, 8, 9, 31), (0, 8, 15, 15), (0, 8, 21, 19)] rm_L_extend 4 Z M [.ref (zad Z 0), .int a1, .int a2, .int a3] (f_W_extend M a1 a2 a3) := by
  refine v_enter (by decide) (Nat.le_of_ble_eq_true rfl) (fun hF p e s m args below meth c hC hN hlk hrt hT => ?_)
  refine v_lv0 (lv1 := [(0, .ref (zad Z 0)), (1, .int a1), (2, .int a2), (3, .int a3)]) rfl ?_
  refine v_aload_n hC 0 dL_extend_0 rfl rfl ?_
  refine v_iload_n hC 1 dL_extend_1 rfl rfl ?_
  refine v_iload_n hC 2 dL_extend_2 rfl rfl ?_
  refine v_iload_n hC 3 dL_extend_3 rfl rfl ?_
  refine v_callHi (n := 3) hC [.int a1, .int a2, .int a3] 0 8 (by decide) rfl rfl (fun hne => c_X8_extend hfl Z M a1 a2 a3 hne) (rq_ne hF) (gIx 650 (by decide +kernel) rfl) mw_X8_extend.1 mw_X8_extend.2.1 mw_X8_extend.2.2.1 mw_X8_extend.2.2.2 ⟨rfl, by decide, by decide, by decide +kernel⟩ rfl rfl ⟨by decide, by decide⟩ rfl rfl (Nat.le_of_ble_eq_true rfl) (by decide) (by decide) dL_extend_4 (fun ex M1 hr => ?_) (fun v M1 hr => ?_)
  · have e0 : f_W_extend M a1 a2 a3 = (if ex = 0 then qRet (-9000000000000000001) M1 else if ex = 1 then qRet (-9000000000000000002) M1 else if ex = 2 then qRet (-9000000000000000003) M1 else qStuck) := by
      unfold f_W_extend
      rw [hr]
      exact rq_thr _ _ _ _
    rw [e0] at hF ⊢
    by_cases h0 : ex = 0
    · subst h0
      rw [if_pos rfl] at hF ⊢
      refine ⟨[], ⟨0, 8, 9, 31⟩, [⟨0, 8, 15, 15⟩, ⟨0, 8, 21, 19⟩], gEx 0, hT.trans rfl, fun z hz => ?_, rfl, by decide, cl_L_31, by decide, fun q9 => ?_⟩
      · cases hz
      · refine v_astore hC (lv1 := [(4, .ref q9), (0, .ref (zad Z 0)), (1, .int a1), (2, .int a2), (3, .int a3)]) dL_extend_9 (by decide) rfl ?_
        refine v_ldc2 hC (v := (-9000000000000000001)) lc_L_33 dL_extend_11 ?_
        exact v_lret hC rfl hlk hrt (by decide) dL_extend_14
    · rw [if_neg h0] at hF ⊢
      by_cases h1 : ex = 1
      · subst h1
        rw [if_pos rfl] at hF ⊢
        refine ⟨[⟨0, 8, 9, 31⟩], ⟨0, 8, 15, 15⟩, [⟨0, 8, 21, 19⟩], gEx 1, hT.trans rfl, fun z hz => ?_, rfl, by decide, cl_L_15, by decide, fun q9 => ?_⟩
        · simp only [List.mem_cons, List.not_mem_nil, or_false] at hz
          subst hz
          exact Or.inr ⟨by decide, gEx 0, cl_L_31, hN 1 0 (by decide) (by decide) (by decide)⟩
        · refine v_astore hC (lv1 := [(4, .ref q9), (0, .ref (zad Z 0)), (1, .int a1), (2, .int a2), (3, .int a3)]) dL_extend_15 (by decide) rfl ?_
          refine v_ldc2 hC (v := (-9000000000000000002)) lc_L_17 dL_extend_17 ?_
          exact v_lret hC rfl hlk hrt (by decide) dL_extend_20
      · rw [if_neg h1] at hF ⊢
        by_cases h2 : ex = 2
        · subst h2
          rw [if_pos rfl] at hF ⊢
          refine ⟨[⟨0, 8, 9, 31⟩, ⟨0, 8, 15, 15⟩], ⟨0, 8, 21, 19⟩, [], gEx 2, hT.trans rfl, fun z hz => ?_, rfl, by decide, cl_L_19, by decide, fun q9 => ?_⟩
          · simp only [List.mem_cons, List.not_mem_nil, or_false] at hz
            rcases hz with hz | hz
            · subst hz
              exact Or.inr ⟨by decide, gEx 0, cl_L_31, hN 2 0 (by decide) (by decide) (by decide)⟩
            · subst hz
              exact Or.inr ⟨by decide, gEx 1, cl_L_15, hN 2 1 (by decide) (by decide) (by decide)⟩
          · refine v_astore hC (lv1 := [(4, .ref q9), (0, .ref (zad Z 0)), (1, .int a1), (2, .int a2), (3, .int a3)]) dL_extend_21 (by decide) rfl ?_
            refine v_ldc2 hC (v := (-9000000000000000003)) lc_L_21 dL_extend_23 ?_
            exact v_lret hC rfl hlk hrt (by decide) dL_extend_26
        · rw [if_neg h2] at hF ⊢
          exact absurd rfl hF
  · have e0 : f_W_extend M a1 a2 a3 = qRet v.toInt64 (gh M1 (f_X9_extend (f_L_extend M a1 a2 a3).2.2 a1 a2 a3)) := by
      unfold f_W_extend
      rw [hr]
      rfl
    rw [e0] at hF ⊢
    refine v_i2l hC dL_extend_7 ?_
    exact v_lret hC (gL_gh _ _) hlk hrt (by decide) dL_extend_8
def f_W_hearing (M : gM) (a1 : Int32) (a2 : Int32) (a3 : Int32) : gQ := rq (f_X8_hearing M a1 a2 a3) (fun v M1 => qRet v.toInt64 M1) (fun ex M1 => if ex = 0 then qRet (-9000000000000000001) M1 else if ex = 1 then qRet (-9000000000000000002) M1 else if ex = 2 then qRet (-9000000000000000003) M1 else qStuck)
abbrev rm_L_hearing : Room := { frames := 8, cells := 2, slots := 12, locals := 134 }
theorem mw_X8_hearing : Cond.instanceMethod yX8_hearing ∈ gWS ∧ Cond.selects RX8 yX8_hearing yX8_hearing ∈ gWS ∧ Cond.initialized RX8 ∈ gWS ∧ Cond.code yX8_hearing cX8_hearing 4 (some .int) ∈ gWS := ⟨gIx 1008 (by decide +kernel) rfl, gIx 1009 (by decide +kernel) rfl, gIx 36 (by decide +kernel) rfl, gIx 1010 (by decide +kernel) rfl⟩
set_option maxRecDepth 20000 in
set_option maxHeartbeats 4000000 in
theorem c_L_hearing {l : Launch} (hfl : l.stackTraces = false) (Z : gZ) (M : gM) (a1 : Int32) (a2 : Int32) (a3 : Int32) : gMetW l yL_hearing cL_hearing 5 [(0, 8, 9, 31), (0, 8, 15, 15), (0, 8, 21, 19)] rm_L_hearing 2 Z M [.ref (zad Z 0), .int a1, .int a2, .int a3] (f_W_hearing M a1 a2 a3) := by
  refine v_enter (by decide) (Nat.le_of_ble_eq_true rfl) (fun hF p e s m args below meth c hC hN hlk hrt hT => ?_)
  refine v_lv0 (lv1 := [(0, .ref (zad Z 0)), (1, .int a1), (2, .int a2), (3, .int a3)]) rfl ?_
  refine v_aload_n hC 0 dL_hearing_0 rfl rfl ?_
  refine v_iload_n hC 1 dL_hearing_1 rfl rfl ?_
  refine v_iload_n hC 2 dL_hearing_2 rfl rfl ?_
  refine v_iload_n hC 3 dL_hearing_3 rfl rfl ?_
  refine v_callHi (n := 3) hC [.int a1, .int a2, .int a3] 0 8 (by decide) rfl rfl (fun hne => c_X8_hearing hfl Z M a1 a2 a3 hne) (rq_ne hF) (gIx 1007 (by decide +kernel) rfl) mw_X8_hearing.1 mw_X8_hearing.2.1 mw_X8_hearing.2.2.1 mw_X8_hearing.2.2.2 ⟨rfl, by decide, by decide, by decide +kernel⟩ rfl rfl ⟨by decide, by decide⟩ rfl rfl (Nat.le_of_ble_eq_true rfl) (by decide) (by decide) dL_hearing_4 (fun ex M1 hr => ?_) (fun v M1 hr => ?_)
  · have e0 : f_W_hearing M a1 a2 a3 = (if ex = 0 then qRet (-9000000000000000001) M1 else if ex = 1 then qRet (-9000000000000000002) M1 else if ex = 2 then qRet (-9000000000000000003) M1 else qStuck) := by
      unfold f_W_hearing
      rw [hr]
      exact rq_thr _ _ _ _
    rw [e0] at hF ⊢
    by_cases h0 : ex = 0
    · subst h0
      rw [if_pos rfl] at hF ⊢
      refine ⟨[], ⟨0, 8, 9, 31⟩, [⟨0, 8, 15, 15⟩, ⟨0, 8, 21, 19⟩], gEx 0, hT.trans rfl, fun z hz => ?_, rfl, by decide, cl_L_31, by decide, fun q9 => ?_⟩
      · cases hz
      · refine v_astore hC (lv1 := [(4, .ref q9), (0, .ref (zad Z 0)), (1, .int a1), (2, .int a2), (3, .int a3)]) dL_hearing_9 (by decide) rfl ?_
        refine v_ldc2 hC (v := (-9000000000000000001)) lc_L_33 dL_hearing_11 ?_
        exact v_lret hC rfl hlk hrt (by decide) dL_hearing_14
    · rw [if_neg h0] at hF ⊢
      by_cases h1 : ex = 1
      · subst h1
        rw [if_pos rfl] at hF ⊢
        refine ⟨[⟨0, 8, 9, 31⟩], ⟨0, 8, 15, 15⟩, [⟨0, 8, 21, 19⟩], gEx 1, hT.trans rfl, fun z hz => ?_, rfl, by decide, cl_L_15, by decide, fun q9 => ?_⟩
        · simp only [List.mem_cons, List.not_mem_nil, or_false] at hz
          subst hz
          exact Or.inr ⟨by decide, gEx 0, cl_L_31, hN 1 0 (by decide) (by decide) (by decide)⟩
        · refine v_astore hC (lv1 := [(4, .ref q9), (0, .ref (zad Z 0)), (1, .int a1), (2, .int a2), (3, .int a3)]) dL_hearing_15 (by decide) rfl ?_
          refine v_ldc2 hC (v := (-9000000000000000002)) lc_L_17 dL_hearing_17 ?_
          exact v_lret hC rfl hlk hrt (by decide) dL_hearing_20
      · rw [if_neg h1] at hF ⊢
        by_cases h2 : ex = 2
        · subst h2
          rw [if_pos rfl] at hF ⊢
          refine ⟨[⟨0, 8, 9, 31⟩, ⟨0, 8, 15, 15⟩], ⟨0, 8, 21, 19⟩, [], gEx 2, hT.trans rfl, fun z hz => ?_, rfl, by decide, cl_L_19, by decide, fun q9 => ?_⟩
          · simp only [List.mem_cons, List.not_mem_nil, or_false] at hz
            rcases hz with hz | hz
            · subst hz
              exact Or.inr ⟨by decide, gEx 0, cl_L_31, hN 2 0 (by decide) (by decide) (by decide)⟩
            · subst hz
              exact Or.inr ⟨by decide, gEx 1, cl_L_15, hN 2 1 (by decide) (by decide) (by decide)⟩
          · refine v_astore hC (lv1 := [(4, .ref q9), (0, .ref (zad Z 0)), (1, .int a1), (2, .int a2), (3, .int a3)]) dL_hearing_21 (by decide) rfl ?_
            refine v_ldc2 hC (v := (-9000000000000000003)) lc_L_21 dL_hearing_23 ?_
            exact v_lret hC rfl hlk hrt (by decide) dL_hearing_26
        · rw [if_neg h2] at hF ⊢
          exact absurd rfl hF
  · have e0 : f_W_hearing M a1 a2 a3 = qRet v.toInt64 M1 := by
      unfold f_W_hearing
      rw [hr]
      rfl
    rw [e0] at hF ⊢
    refine v_i2l hC dL_hearing_7 ?_
    exact v_lret hC rfl hlk hrt (by decide) dL_hearing_8
def f_W_goesOn (M : gM) (a1 : Int32) : gQ := rq (f_X8_continueHearing M a1) (fun v M1 => qRet v.toInt64 M1) (fun ex M1 => if ex = 0 then qRet (-9000000000000000001) M1 else if ex = 2 then qRet (-9000000000000000003) M1 else qStuck)
abbrev rm_L_goesOn : Room := { frames := 8, cells := 2, slots := 12, locals := 133 }
theorem mw_X8_continueHearing : Cond.instanceMethod yX8_continueHearing ∈ gWS ∧ Cond.selects RX8 yX8_continueHearing yX8_continueHearing ∈ gWS ∧ Cond.initialized RX8 ∈ gWS ∧ Cond.code yX8_continueHearing cX8_continueHearing 3 (some .int) ∈ gWS := ⟨gIx 1033 (by decide +kernel) rfl, gIx 1034 (by decide +kernel) rfl, gIx 36 (by decide +kernel) rfl, gIx 1035 (by decide +kernel) rfl⟩
set_option maxRecDepth 20000 in
set_option maxHeartbeats 4000000 in
theorem c_L_goesOn {l : Launch} (hfl : l.stackTraces = false) (Z : gZ) (M : gM) (a1 : Int32) : gMetW l yL_goesOn cL_goesOn 3 [(0, 6, 7, 31), (0, 6, 12, 19)] rm_L_goesOn 2 Z M [.ref (zad Z 0), .int a1] (f_W_goesOn M a1) := by
  refine v_enter (by decide) (Nat.le_of_ble_eq_true rfl) (fun hF p e s m args below meth c hC hN hlk hrt hT => ?_)
  refine v_lv0 (lv1 := [(0, .ref (zad Z 0)), (1, .int a1)]) rfl ?_
  refine v_aload_n hC 0 dL_goesOn_0 rfl rfl ?_
  refine v_iload_n hC 1 dL_goesOn_1 rfl rfl ?_
  refine v_callHi (n := 1) hC [.int a1] 0 8 (by decide) rfl rfl (fun hne => c_X8_continueHearing hfl Z M a1 hne) (rq_ne hF) (gIx 1032 (by decide +kernel) rfl) mw_X8_continueHearing.1 mw_X8_continueHearing.2.1 mw_X8_continueHearing.2.2.1 mw_X8_continueHearing.2.2.2 ⟨rfl, by decide, by decide, by decide +kernel⟩ rfl rfl ⟨by decide, by decide⟩ rfl rfl (Nat.le_of_ble_eq_true rfl) (by decide) (by decide) dL_goesOn_2 (fun ex M1 hr => ?_) (fun v M1 hr => ?_)
  · have e0 : f_W_goesOn M a1 = (if ex = 0 then qRet (-9000000000000000001) M1 else if ex = 2 then qRet (-9000000000000000003) M1 else qStuck) := by
      unfold f_W_goesOn
      rw [hr]
      exact rq_thr _ _ _ _
    rw [e0] at hF ⊢
    by_cases h0 : ex = 0
    · subst h0
      rw [if_pos rfl] at hF ⊢
      refine ⟨[], ⟨0, 6, 7, 31⟩, [⟨0, 6, 12, 19⟩], gEx 0, hT.trans rfl, fun z hz => ?_, rfl, by decide, cl_L_31, by decide, fun q9 => ?_⟩
      · cases hz
      · refine v_astore_n hC (lv1 := [(2, .ref q9), (0, .ref (zad Z 0)), (1, .int a1)]) dL_goesOn_7 rfl (by decide) rfl ?_
        refine v_ldc2 hC (v := (-9000000000000000001)) lc_L_33 dL_goesOn_8 ?_
        exact v_lret hC rfl hlk hrt (by decide) dL_goesOn_11
    · rw [if_neg h0] at hF ⊢
      by_cases h1 : ex = 2
      · subst h1
        rw [if_pos rfl] at hF ⊢
        refine ⟨[⟨0, 6, 7, 31⟩], ⟨0, 6, 12, 19⟩, [], gEx 2, hT.trans rfl, fun z hz => ?_, rfl, by decide, cl_L_19, by decide, fun q9 => ?_⟩
        · simp only [List.mem_cons, List.not_mem_nil, or_false] at hz
          subst hz
          exact Or.inr ⟨by decide, gEx 0, cl_L_31, hN 2 0 (by decide) (by decide) (by decide)⟩
        · refine v_astore_n hC (lv1 := [(2, .ref q9), (0, .ref (zad Z 0)), (1, .int a1)]) dL_goesOn_12 rfl (by decide) rfl ?_
          refine v_ldc2 hC (v := (-9000000000000000003)) lc_L_21 dL_goesOn_13 ?_
          exact v_lret hC rfl hlk hrt (by decide) dL_goesOn_16
      · rw [if_neg h1] at hF ⊢
        exact absurd rfl hF
  · have e0 : f_W_goesOn M a1 = qRet v.toInt64 M1 := by
      unfold f_W_goesOn
      rw [hr]
      rfl
    rw [e0] at hF ⊢
    refine v_i2l hC dL_goesOn_5 ?_
    exact v_lret hC rfl hlk hrt (by decide) dL_goesOn_6
def f_W_hearingAt (M : gM) (a1 : Int32) : gQ := rq (f_X8_hearingAt M a1) (fun v M1 => qRet v.toInt64 M1) (fun ex M1 => if ex = 0 then qRet (-9000000000000000001) M1 else qStuck)
abbrev rm_L_hearingAt : Room := { frames := 8, cells := 1, slots := 6, locals := 132 }
theorem mw_X8_hearingAt : Cond.instanceMethod yX8_hearingAt ∈ gWS ∧ Cond.selects RX8 yX8_hearingAt yX8_hearingAt ∈ gWS ∧ Cond.initialized RX8 ∈ gWS ∧ Cond.code yX8_hearingAt cX8_hearingAt 2 (some .int) ∈ gWS := ⟨gIx 1050 (by decide +kernel) rfl, gIx 1051 (by decide +kernel) rfl, gIx 36 (by decide +kernel) rfl, gIx 1052 (by decide +kernel) rfl⟩
set_option maxRecDepth 20000 in
set_option maxHeartbeats 4000000 in
theorem c_L_hearingAt {l : Launch} (hfl : l.stackTraces = false) (Z : gZ) (M : gM) (a1 : Int32) : gMetW l yL_hearingAt cL_hearingAt 3 [(0, 6, 7, 31)] rm_L_hearingAt 1 Z M [.ref (zad Z 0), .int a1] (f_W_hearingAt M a1) := by
  refine v_enter (by decide) (Nat.le_of_ble_eq_true rfl) (fun hF p e s m args below meth c hC hN hlk hrt hT => ?_)
  refine v_lv0 (lv1 := [(0, .ref (zad Z 0)), (1, .int a1)]) rfl ?_
  refine v_aload_n hC 0 dL_hearingAt_0 rfl rfl ?_
  refine v_iload_n hC 1 dL_hearingAt_1 rfl rfl ?_
  refine v_callHi (n := 1) hC [.int a1] 0 8 (by decide) rfl rfl (fun hne => c_X8_hearingAt hfl Z M a1 hne) (rq_ne hF) (gIx 1049 (by decide +kernel) rfl) mw_X8_hearingAt.1 mw_X8_hearingAt.2.1 mw_X8_hearingAt.2.2.1 mw_X8_hearingAt.2.2.2 ⟨rfl, by decide, by decide, by decide +kernel⟩ rfl rfl ⟨by decide, by decide⟩ rfl rfl (Nat.le_of_ble_eq_true rfl) (by decide) (by decide) dL_hearingAt_2 (fun ex M1 hr => ?_) (fun v M1 hr => ?_)
  · have e0 : f_W_hearingAt M a1 = (if ex = 0 then qRet (-9000000000000000001) M1 else qStuck) := by
      unfold f_W_hearingAt
      rw [hr]
      exact rq_thr _ _ _ _
    rw [e0] at hF ⊢
    by_cases h0 : ex = 0
    · subst h0
      rw [if_pos rfl] at hF ⊢
      refine ⟨[], ⟨0, 6, 7, 31⟩, [], gEx 0, hT.trans rfl, fun z hz => ?_, rfl, by decide, cl_L_31, by decide, fun q9 => ?_⟩
      · cases hz
      · refine v_astore_n hC (lv1 := [(2, .ref q9), (0, .ref (zad Z 0)), (1, .int a1)]) dL_hearingAt_7 rfl (by decide) rfl ?_
        refine v_ldc2 hC (v := (-9000000000000000001)) lc_L_33 dL_hearingAt_8 ?_
        exact v_lret hC rfl hlk hrt (by decide) dL_hearingAt_11
    · rw [if_neg h0] at hF ⊢
      exact absurd rfl hF
  · have e0 : f_W_hearingAt M a1 = qRet v.toInt64 M1 := by
      unfold f_W_hearingAt
      rw [hr]
      rfl
    rw [e0] at hF ⊢
    refine v_i2l hC dL_hearingAt_5 ?_
    exact v_lret hC rfl hlk hrt (by decide) dL_hearingAt_6
def f_W_strike (M : gM) (a1 : Int32) (a2 : Int32) (a3 : Int32) : gQ := rq (f_X8_strike M a1 a2 a3) (fun v M1 => qRet v.toInt64 M1) (fun ex M1 => if ex = 0 then qRet (-9000000000000000001) M1 else if ex = 2 then qRet (-9000000000000000003) M1 else qStuck)
abbrev rm_L_strike : Room := { frames := 8, cells := 4, slots := 24, locals := 134 }
theorem mw_X8_strike : Cond.instanceMethod yX8_strike ∈ gWS ∧ Cond.selects RX8 yX8_strike yX8_strike ∈ gWS ∧ Cond.initialized RX8 ∈ gWS ∧ Cond.code yX8_strike cX8_strike 4 (some .int) ∈ gWS := ⟨gIx 1057 (by decide +kernel) rfl, gIx 1058 (by decide +kernel) rfl, gIx 36 (by decide +kernel) rfl, gIx 1059 (by decide +kernel) rfl⟩
set_option maxRecDepth 20000 in
set_option maxHeartbeats 4000000 in
theorem c_L_strike {l : Launch} (hfl : l.stackTraces = false) (Z : gZ) (M : gM) (a1 : Int32) (a2 : Int32) (a3 : Int32) : gMetW l yL_strike cL_strike 5 [(0, 8, 9, 31), (0, 8, 15, 19)] rm_L_strike 4 Z M [.ref (zad Z 0), .int a1, .int a2, .int a3] (f_W_strike M a1 a2 a3) := by
  refine v_enter (by decide) (Nat.le_of_ble_eq_true rfl) (fun hF p e s m args below meth c hC hN hlk hrt hT => ?_)
  refine v_lv0 (lv1 := [(0, .ref (zad Z 0)), (1, .int a1), (2, .int a2), (3, .int a3)]) rfl ?_
  refine v_aload_n hC 0 dL_strike_0 rfl rfl ?_
  refine v_iload_n hC 1 dL_strike_1 rfl rfl ?_
  refine v_iload_n hC 2 dL_strike_2 rfl rfl ?_
  refine v_iload_n hC 3 dL_strike_3 rfl rfl ?_
  refine v_callHi (n := 3) hC [.int a1, .int a2, .int a3] 0 8 (by decide) rfl rfl (fun hne => c_X8_strike hfl Z M a1 a2 a3 hne) (rq_ne hF) (gIx 1056 (by decide +kernel) rfl) mw_X8_strike.1 mw_X8_strike.2.1 mw_X8_strike.2.2.1 mw_X8_strike.2.2.2 ⟨rfl, by decide, by decide, by decide +kernel⟩ rfl rfl ⟨by decide, by decide⟩ rfl rfl (Nat.le_of_ble_eq_true rfl) (by decide) (by decide) dL_strike_4 (fun ex M1 hr => ?_) (fun v M1 hr => ?_)
  · have e0 : f_W_strike M a1 a2 a3 = (if ex = 0 then qRet (-9000000000000000001) M1 else if ex = 2 then qRet (-9000000000000000003) M1 else qStuck) := by
      unfold f_W_strike
      rw [hr]
      exact rq_thr _ _ _ _
    rw [e0] at hF ⊢
    by_cases h0 : ex = 0
    · subst h0
      rw [if_pos rfl] at hF ⊢
      refine ⟨[], ⟨0, 8, 9, 31⟩, [⟨0, 8, 15, 19⟩], gEx 0, hT.trans rfl, fun z hz => ?_, rfl, by decide, cl_L_31, by decide, fun q9 => ?_⟩
      · cases hz
      · refine v_astore hC (lv1 := [(4, .ref q9), (0, .ref (zad Z 0)), (1, .int a1), (2, .int a2), (3, .int a3)]) dL_strike_9 (by decide) rfl ?_
        refine v_ldc2 hC (v := (-9000000000000000001)) lc_L_33 dL_strike_11 ?_
        exact v_lret hC rfl hlk hrt (by decide) dL_strike_14
    · rw [if_neg h0] at hF ⊢
      by_cases h1 : ex = 2
      · subst h1
        rw [if_pos rfl] at hF ⊢
        refine ⟨[⟨0, 8, 9, 31⟩], ⟨0, 8, 15, 19⟩, [], gEx 2, hT.trans rfl, fun z hz => ?_, rfl, by decide, cl_L_19, by decide, fun q9 => ?_⟩
        · simp only [List.mem_cons, List.not_mem_nil, or_false] at hz
          subst hz
          exact Or.inr ⟨by decide, gEx 0, cl_L_31, hN 2 0 (by decide) (by decide) (by decide)⟩
        · refine v_astore hC (lv1 := [(4, .ref q9), (0, .ref (zad Z 0)), (1, .int a1), (2, .int a2), (3, .int a3)]) dL_strike_15 (by decide) rfl ?_
          refine v_ldc2 hC (v := (-9000000000000000003)) lc_L_21 dL_strike_17 ?_
          exact v_lret hC rfl hlk hrt (by decide) dL_strike_20
      · rw [if_neg h1] at hF ⊢
        exact absurd rfl hF
  · have e0 : f_W_strike M a1 a2 a3 = qRet v.toInt64 M1 := by
      unfold f_W_strike
      rw [hr]
      rfl
    rw [e0] at hF ⊢
    refine v_i2l hC dL_strike_7 ?_
    exact v_lret hC rfl hlk hrt (by decide) dL_strike_8
def f_W_dismiss (M : gM) (a1 : Int32) (a2 : Int32) : gQ := rq (f_X8_dismiss M a1 a2) (fun v M1 => qRet v.toInt64 M1) (fun ex M1 => if ex = 0 then qRet (-9000000000000000001) M1 else if ex = 2 then qRet (-9000000000000000003) M1 else qStuck)
abbrev rm_L_dismiss : Room := { frames := 8, cells := 3, slots := 18, locals := 135 }
theorem mw_X8_dismiss : Cond.instanceMethod yX8_dismiss ∈ gWS ∧ Cond.selects RX8 yX8_dismiss yX8_dismiss ∈ gWS ∧ Cond.initialized RX8 ∈ gWS ∧ Cond.code yX8_dismiss cX8_dismiss 5 (some .int) ∈ gWS := ⟨gIx 1092 (by decide +kernel) rfl, gIx 1093 (by decide +kernel) rfl, gIx 36 (by decide +kernel) rfl, gIx 1094 (by decide +kernel) rfl⟩
set_option maxRecDepth 20000 in
set_option maxHeartbeats 4000000 in
theorem c_L_dismiss {l : Launch} (hfl : l.stackTraces = false) (Z : gZ) (M : gM) (a1 : Int32) (a2 : Int32) : gMetW l yL_dismiss cL_dismiss 4 [(0, 7, 8, 31), (0, 7, 13, 19)] rm_L_dismiss 3 Z M [.ref (zad Z 0), .int a1, .int a2] (f_W_dismiss M a1 a2) := by
  refine v_enter (by decide) (Nat.le_of_ble_eq_true rfl) (fun hF p e s m args below meth c hC hN hlk hrt hT => ?_)
  refine v_lv0 (lv1 := [(0, .ref (zad Z 0)), (1, .int a1), (2, .int a2)]) rfl ?_
  refine v_aload_n hC 0 dL_dismiss_0 rfl rfl ?_
  refine v_iload_n hC 1 dL_dismiss_1 rfl rfl ?_
  refine v_iload_n hC 2 dL_dismiss_2 rfl rfl ?_
  refine v_callHi (n := 2) hC [.int a1, .int a2] 0 8 (by decide) rfl rfl (fun hne => c_X8_dismiss hfl Z M a1 a2 hne) (rq_ne hF) (gIx 1091 (by decide +kernel) rfl) mw_X8_dismiss.1 mw_X8_dismiss.2.1 mw_X8_dismiss.2.2.1 mw_X8_dismiss.2.2.2 ⟨rfl, by decide, by decide, by decide +kernel⟩ rfl rfl ⟨by decide, by decide⟩ rfl rfl (Nat.le_of_ble_eq_true rfl) (by decide) (by decide) dL_dismiss_3 (fun ex M1 hr => ?_) (fun v M1 hr => ?_)
  · have e0 : f_W_dismiss M a1 a2 = (if ex = 0 then qRet (-9000000000000000001) M1 else if ex = 2 then qRet (-9000000000000000003) M1 else qStuck) := by
      unfold f_W_dismiss
      rw [hr]
      exact rq_thr _ _ _ _
    rw [e0] at hF ⊢
    by_cases h0 : ex = 0
    · subst h0
      rw [if_pos rfl] at hF ⊢
      refine ⟨[], ⟨0, 7, 8, 31⟩, [⟨0, 7, 13, 19⟩], gEx 0, hT.trans rfl, fun z hz => ?_, rfl, by decide, cl_L_31, by decide, fun q9 => ?_⟩
      · cases hz
      · refine v_astore_n hC (lv1 := [(3, .ref q9), (0, .ref (zad Z 0)), (1, .int a1), (2, .int a2)]) dL_dismiss_8 rfl (by decide) rfl ?_
        refine v_ldc2 hC (v := (-9000000000000000001)) lc_L_33 dL_dismiss_9 ?_
        exact v_lret hC rfl hlk hrt (by decide) dL_dismiss_12
    · rw [if_neg h0] at hF ⊢
      by_cases h1 : ex = 2
      · subst h1
        rw [if_pos rfl] at hF ⊢
        refine ⟨[⟨0, 7, 8, 31⟩], ⟨0, 7, 13, 19⟩, [], gEx 2, hT.trans rfl, fun z hz => ?_, rfl, by decide, cl_L_19, by decide, fun q9 => ?_⟩
        · simp only [List.mem_cons, List.not_mem_nil, or_false] at hz
          subst hz
          exact Or.inr ⟨by decide, gEx 0, cl_L_31, hN 2 0 (by decide) (by decide) (by decide)⟩
        · refine v_astore_n hC (lv1 := [(3, .ref q9), (0, .ref (zad Z 0)), (1, .int a1), (2, .int a2)]) dL_dismiss_13 rfl (by decide) rfl ?_
          refine v_ldc2 hC (v := (-9000000000000000003)) lc_L_21 dL_dismiss_14 ?_
          exact v_lret hC rfl hlk hrt (by decide) dL_dismiss_17
      · rw [if_neg h1] at hF ⊢
        exact absurd rfl hF
  · have e0 : f_W_dismiss M a1 a2 = qRet v.toInt64 M1 := by
      unfold f_W_dismiss
      rw [hr]
      rfl
    rw [e0] at hF ⊢
    refine v_i2l hC dL_dismiss_6 ?_
    exact v_lret hC rfl hlk hrt (by decide) dL_dismiss_7
def f_W_seat (M : gM) (a1 : Int32) (a2 : Int32) : gQ := rq (f_X8_seat M a1 a2) (fun v M1 => qRet v.toInt64 M1) (fun ex M1 => if ex = 0 then qRet (-9000000000000000001) M1 else qStuck)
abbrev rm_L_seat : Room := { frames := 8, cells := 2, slots := 12, locals := 133 }
theorem mw_X8_seat : Cond.instanceMethod yX8_seat ∈ gWS ∧ Cond.selects RX8 yX8_seat yX8_seat ∈ gWS ∧ Cond.initialized RX8 ∈ gWS ∧ Cond.code yX8_seat cX8_seat 3 (some .int) ∈ gWS := ⟨gIx 1116 (by decide +kernel) rfl, gIx 1117 (by decide +kernel) rfl, gIx 36 (by decide +kernel) rfl, gIx 1118 (by decide +kernel) rfl⟩
set_option maxRecDepth 20000 in
set_option maxHeartbeats 4000000 in
theorem c_L_seat {l : Launch} (hfl : l.stackTraces = false) (Z : gZ) (M : gM) (a1 : Int32) (a2 : Int32) : gMetW l yL_seat cL_seat 4 [(0, 7, 8, 31)] rm_L_seat 2 Z M [.ref (zad Z 0), .int a1, .int a2] (f_W_seat M a1 a2) := by
  refine v_enter (by decide) (Nat.le_of_ble_eq_true rfl) (fun hF p e s m args below meth c hC hN hlk hrt hT => ?_)
  refine v_lv0 (lv1 := [(0, .ref (zad Z 0)), (1, .int a1), (2, .int a2)]) rfl ?_
  refine v_aload_n hC 0 dL_seat_0 rfl rfl ?_
  refine v_iload_n hC 1 dL_seat_1 rfl rfl ?_
  refine v_iload_n hC 2 dL_seat_2 rfl rfl ?_
  refine v_callHi (n := 2) hC [.int a1, .int a2] 0 8 (by decide) rfl rfl (fun hne => c_X8_seat hfl Z M a1 a2 hne) (rq_ne hF) (gIx 1115 (by decide +kernel) rfl) mw_X8_seat.1 mw_X8_seat.2.1 mw_X8_seat.2.2.1 mw_X8_seat.2.2.2 ⟨rfl, by decide, by decide, by decide +kernel⟩ rfl rfl ⟨by decide, by decide⟩ rfl rfl (Nat.le_of_ble_eq_true rfl) (by decide) (by decide) dL_seat_3 (fun ex M1 hr => ?_) (fun v M1 hr => ?_)
  · have e0 : f_W_seat M a1 a2 = (if ex = 0 then qRet (-9000000000000000001) M1 else qStuck) := by
      unfold f_W_seat
      rw [hr]
      exact rq_thr _ _ _ _
    rw [e0] at hF ⊢
    by_cases h0 : ex = 0
    · subst h0
      rw [if_pos rfl] at hF ⊢
      refine ⟨[], ⟨0, 7, 8, 31⟩, [], gEx 0, hT.trans rfl, fun z hz => ?_, rfl, by decide, cl_L_31, by decide, fun q9 => ?_⟩
      · cases hz
      · refine v_astore_n hC (lv1 := [(3, .ref q9), (0, .ref (zad Z 0)), (1, .int a1), (2, .int a2)]) dL_seat_8 rfl (by decide) rfl ?_
        refine v_ldc2 hC (v := (-9000000000000000001)) lc_L_33 dL_seat_9 ?_
        exact v_lret hC rfl hlk hrt (by decide) dL_seat_12
    · rw [if_neg h0] at hF ⊢
      exact absurd rfl hF
  · have e0 : f_W_seat M a1 a2 = qRet v.toInt64 M1 := by
      unfold f_W_seat
      rw [hr]
      rfl
    rw [e0] at hF ⊢
    refine v_i2l hC dL_seat_6 ?_
    exact v_lret hC rfl hlk hrt (by decide) dL_seat_7
def f_W_exhibit (M : gM) (a1 : Int32) (a2 : Int32) : gQ := rq (f_X8_exhibit M a1 a2) (fun v M1 => qRet v.toInt64 M1) (fun ex M1 => if ex = 0 then qRet (-9000000000000000001) M1 else if ex = 2 then qRet (-9000000000000000003) M1 else qStuck)
abbrev rm_L_exhibit : Room := { frames := 8, cells := 3, slots := 18, locals := 133 }
theorem mw_X8_exhibit : Cond.instanceMethod yX8_exhibit ∈ gWS ∧ Cond.selects RX8 yX8_exhibit yX8_exhibit ∈ gWS ∧ Cond.initialized RX8 ∈ gWS ∧ Cond.code yX8_exhibit cX8_exhibit 3 (some .int) ∈ gWS := ⟨gIx 1125 (by decide +kernel) rfl, gIx 1126 (by decide +kernel) rfl, gIx 36 (by decide +kernel) rfl, gIx 1127 (by decide +kernel) rfl⟩
set_option maxRecDepth 20000 in
set_option maxHeartbeats 4000000 in
theorem c_L_exhibit {l : Launch} (hfl : l.stackTraces = false) (Z : gZ) (M : gM) (a1 : Int32) (a2 : Int32) : gMetW l yL_exhibit cL_exhibit 4 [(0, 7, 8, 31), (0, 7, 13, 19)] rm_L_exhibit 3 Z M [.ref (zad Z 0), .int a1, .int a2] (f_W_exhibit M a1 a2) := by
  refine v_enter (by decide) (Nat.le_of_ble_eq_true rfl) (fun hF p e s m args below meth c hC hN hlk hrt hT => ?_)
  refine v_lv0 (lv1 := [(0, .ref (zad Z 0)), (1, .int a1), (2, .int a2)]) rfl ?_
  refine v_aload_n hC 0 dL_exhibit_0 rfl rfl ?_
  refine v_iload_n hC 1 dL_exhibit_1 rfl rfl ?_
  refine v_iload_n hC 2 dL_exhibit_2 rfl rfl ?_
  refine v_callHi (n := 2) hC [.int a1, .int a2] 0 8 (by decide) rfl rfl (fun hne => c_X8_exhibit hfl Z M a1 a2 hne) (rq_ne hF) (gIx 1124 (by decide +kernel) rfl) mw_X8_exhibit.1 mw_X8_exhibit.2.1 mw_X8_exhibit.2.2.1 mw_X8_exhibit.2.2.2 ⟨rfl, by decide, by decide, by decide +kernel⟩ rfl rfl ⟨by decide, by decide⟩ rfl rfl (Nat.le_of_ble_eq_true rfl) (by decide) (by decide) dL_exhibit_3 (fun ex M1 hr => ?_) (fun v M1 hr => ?_)
  · have e0 : f_W_exhibit M a1 a2 = (if ex = 0 then qRet (-9000000000000000001) M1 else if ex = 2 then qRet (-9000000000000000003) M1 else qStuck) := by
      unfold f_W_exhibit
      rw [hr]
      exact rq_thr _ _ _ _
    rw [e0] at hF ⊢
    by_cases h0 : ex = 0
    · subst h0
      rw [if_pos rfl] at hF ⊢
      refine ⟨[], ⟨0, 7, 8, 31⟩, [⟨0, 7, 13, 19⟩], gEx 0, hT.trans rfl, fun z hz => ?_, rfl, by decide, cl_L_31, by decide, fun q9 => ?_⟩
      · cases hz
      · refine v_astore_n hC (lv1 := [(3, .ref q9), (0, .ref (zad Z 0)), (1, .int a1), (2, .int a2)]) dL_exhibit_8 rfl (by decide) rfl ?_
        refine v_ldc2 hC (v := (-9000000000000000001)) lc_L_33 dL_exhibit_9 ?_
        exact v_lret hC rfl hlk hrt (by decide) dL_exhibit_12
    · rw [if_neg h0] at hF ⊢
      by_cases h1 : ex = 2
      · subst h1
        rw [if_pos rfl] at hF ⊢
        refine ⟨[⟨0, 7, 8, 31⟩], ⟨0, 7, 13, 19⟩, [], gEx 2, hT.trans rfl, fun z hz => ?_, rfl, by decide, cl_L_19, by decide, fun q9 => ?_⟩
        · simp only [List.mem_cons, List.not_mem_nil, or_false] at hz
          subst hz
          exact Or.inr ⟨by decide, gEx 0, cl_L_31, hN 2 0 (by decide) (by decide) (by decide)⟩
        · refine v_astore_n hC (lv1 := [(3, .ref q9), (0, .ref (zad Z 0)), (1, .int a1), (2, .int a2)]) dL_exhibit_13 rfl (by decide) rfl ?_
          refine v_ldc2 hC (v := (-9000000000000000003)) lc_L_21 dL_exhibit_14 ?_
          exact v_lret hC rfl hlk hrt (by decide) dL_exhibit_17
      · rw [if_neg h1] at hF ⊢
        exact absurd rfl hF
  · have e0 : f_W_exhibit M a1 a2 = qRet v.toInt64 M1 := by
      unfold f_W_exhibit
      rw [hr]
      rfl
    rw [e0] at hF ⊢
    refine v_i2l hC dL_exhibit_6 ?_
    exact v_lret hC rfl hlk hrt (by decide) dL_exhibit_7
def f_W_hand (M : gM) (a1 : Int32) (a2 : Int32) (a3 : Int32) : gQ := rq (f_X8_hand M a1 a2 a3) (fun v M1 => if v = 0 then qRet 0 M1 else qRet 1 M1) (fun ex M1 => if ex = 0 then qRet (-9000000000000000001) M1 else qStuck)
abbrev rm_L_hand : Room := { frames := 8, cells := 3, slots := 18, locals := 134 }
theorem mw_X8_hand : Cond.instanceMethod yX8_hand ∈ gWS ∧ Cond.selects RX8 yX8_hand yX8_hand ∈ gWS ∧ Cond.initialized RX8 ∈ gWS ∧ Cond.code yX8_hand cX8_hand 4 (some .boolean) ∈ gWS := ⟨gIx 1137 (by decide +kernel) rfl, gIx 1138 (by decide +kernel) rfl, gIx 36 (by decide +kernel) rfl, gIx 1139 (by decide +kernel) rfl⟩
set_option maxRecDepth 20000 in
set_option maxHeartbeats 4000000 in
theorem c_L_hand {l : Launch} (hfl : l.stackTraces = false) (Z : gZ) (M : gM) (a1 : Int32) (a2 : Int32) (a3 : Int32) : gMetW l yL_hand cL_hand 5 [(0, 15, 16, 31)] rm_L_hand 3 Z M [.ref (zad Z 0), .int a1, .int a2, .int a3] (f_W_hand M a1 a2 a3) := by
  refine v_enter (by decide) (Nat.le_of_ble_eq_true rfl) (fun hF p e s m args below meth c hC hN hlk hrt hT => ?_)
  refine v_lv0 (lv1 := [(0, .ref (zad Z 0)), (1, .int a1), (2, .int a2), (3, .int a3)]) rfl ?_
  refine v_aload_n hC 0 dL_hand_0 rfl rfl ?_
  refine v_iload_n hC 1 dL_hand_1 rfl rfl ?_
  refine v_iload_n hC 2 dL_hand_2 rfl rfl ?_
  refine v_iload_n hC 3 dL_hand_3 rfl rfl ?_
  refine v_callHi (n := 3) hC [.int a1, .int a2, .int a3] 0 8 (by decide) rfl rfl (fun hne => c_X8_hand hfl Z M a1 a2 a3 hne) (rq_ne hF) (gIx 1136 (by decide +kernel) rfl) mw_X8_hand.1 mw_X8_hand.2.1 mw_X8_hand.2.2.1 mw_X8_hand.2.2.2 ⟨rfl, by decide, by decide, by decide +kernel⟩ rfl rfl ⟨by decide, by decide⟩ rfl rfl (Nat.le_of_ble_eq_true rfl) (by decide) (by decide) dL_hand_4 (fun ex M1 hr => ?_) (fun v M1 hr => ?_)
  · have e0 : f_W_hand M a1 a2 a3 = (if ex = 0 then qRet (-9000000000000000001) M1 else qStuck) := by
      unfold f_W_hand
      rw [hr]
      exact rq_thr _ _ _ _
    rw [e0] at hF ⊢
    by_cases h0 : ex = 0
    · subst h0
      rw [if_pos rfl] at hF ⊢
      refine ⟨[], ⟨0, 15, 16, 31⟩, [], gEx 0, hT.trans rfl, fun z hz => ?_, rfl, by decide, cl_L_31, by decide, fun q9 => ?_⟩
      · cases hz
      · refine v_astore hC (lv1 := [(4, .ref q9), (0, .ref (zad Z 0)), (1, .int a1), (2, .int a2), (3, .int a3)]) dL_hand_16 (by decide) rfl ?_
        refine v_ldc2 hC (v := (-9000000000000000001)) lc_L_33 dL_hand_18 ?_
        exact v_lret hC rfl hlk hrt (by decide) dL_hand_21
    · rw [if_neg h0] at hF ⊢
      exact absurd rfl hF
  · have e0 : f_W_hand M a1 a2 a3 = (if v = 0 then qRet 0 M1 else qRet 1 M1) := by
      unfold f_W_hand
      rw [hr]
      rfl
    rw [e0] at hF ⊢
    refine v_if_eq (tgt := 14) hC dL_hand_7 (by decide) (fun h => ?_) (fun h => ?_)
    · rw [if_pos h] at hF ⊢
      refine v_lconst hC (v := 0) dL_hand_14 (by decide) ?_
      exact v_lret hC rfl hlk hrt (by decide) dL_hand_15
    · rw [if_neg h] at hF ⊢
      refine v_lconst hC (v := 1) dL_hand_10 (by decide) ?_
      refine v_goto (tgt := 15) hC dL_hand_11 (by decide) ?_
      exact v_lret hC rfl hlk hrt (by decide) dL_hand_15
def f_W_object (M : gM) (a1 : Int32) (a2 : Int32) : gQ := rq (f_X8_object M a1 a2) (fun _ M1 => qRet 0 M1) (fun ex M1 => if ex = 0 then qRet (-9000000000000000001) M1 else if ex = 2 then qRet (-9000000000000000003) M1 else qStuck)
abbrev rm_L_object : Room := { frames := 8, cells := 3, slots := 18, locals := 133 }
theorem mw_X8_object : Cond.instanceMethod yX8_object ∈ gWS ∧ Cond.selects RX8 yX8_object yX8_object ∈ gWS ∧ Cond.initialized RX8 ∈ gWS ∧ Cond.code yX8_object cX8_object 3 none ∈ gWS := ⟨gIx 1149 (by decide +kernel) rfl, gIx 1150 (by decide +kernel) rfl, gIx 36 (by decide +kernel) rfl, gIx 1151 (by decide +kernel) rfl⟩
set_option maxRecDepth 20000 in
set_option maxHeartbeats 4000000 in
theorem c_L_object {l : Launch} (hfl : l.stackTraces = false) (Z : gZ) (M : gM) (a1 : Int32) (a2 : Int32) : gMetW l yL_object cL_object 4 [(0, 7, 8, 31), (0, 7, 13, 19)] rm_L_object 3 Z M [.ref (zad Z 0), .int a1, .int a2] (f_W_object M a1 a2) := by
  refine v_enter (by decide) (Nat.le_of_ble_eq_true rfl) (fun hF p e s m args below meth c hC hN hlk hrt hT => ?_)
  refine v_lv0 (lv1 := [(0, .ref (zad Z 0)), (1, .int a1), (2, .int a2)]) rfl ?_
  refine v_aload_n hC 0 dL_object_0 rfl rfl ?_
  refine v_iload_n hC 1 dL_object_1 rfl rfl ?_
  refine v_iload_n hC 2 dL_object_2 rfl rfl ?_
  refine v_callHv (n := 2) hC [.int a1, .int a2] 0 8 (by decide) rfl rfl (fun hne => c_X8_object hfl Z M a1 a2 hne) (rq_ne hF) (gIx 1148 (by decide +kernel) rfl) mw_X8_object.1 mw_X8_object.2.1 mw_X8_object.2.2.1 mw_X8_object.2.2.2 ⟨rfl, by decide, by decide, by decide +kernel⟩ rfl rfl ⟨by decide, by decide⟩ rfl rfl (Nat.le_of_ble_eq_true rfl) (by decide) (by decide) dL_object_3 (fun ex M1 hr => ?_) (fun M1 hr => ?_)
  · have e0 : f_W_object M a1 a2 = (if ex = 0 then qRet (-9000000000000000001) M1 else if ex = 2 then qRet (-9000000000000000003) M1 else qStuck) := by
      unfold f_W_object
      rw [hr]
      exact rq_thr _ _ _ _
    rw [e0] at hF ⊢
    by_cases h0 : ex = 0
    · subst h0
      rw [if_pos rfl] at hF ⊢
      refine ⟨[], ⟨0, 7, 8, 31⟩, [⟨0, 7, 13, 19⟩], gEx 0, hT.trans rfl, fun z hz => ?_, rfl, by decide, cl_L_31, by decide, fun q9 => ?_⟩
      · cases hz
      · refine v_astore_n hC (lv1 := [(3, .ref q9), (0, .ref (zad Z 0)), (1, .int a1), (2, .int a2)]) dL_object_8 rfl (by decide) rfl ?_
        refine v_ldc2 hC (v := (-9000000000000000001)) lc_L_33 dL_object_9 ?_
        exact v_lret hC rfl hlk hrt (by decide) dL_object_12
    · rw [if_neg h0] at hF ⊢
      by_cases h1 : ex = 2
      · subst h1
        rw [if_pos rfl] at hF ⊢
        refine ⟨[⟨0, 7, 8, 31⟩], ⟨0, 7, 13, 19⟩, [], gEx 2, hT.trans rfl, fun z hz => ?_, rfl, by decide, cl_L_19, by decide, fun q9 => ?_⟩
        · simp only [List.mem_cons, List.not_mem_nil, or_false] at hz
          subst hz
          exact Or.inr ⟨by decide, gEx 0, cl_L_31, hN 2 0 (by decide) (by decide) (by decide)⟩
        · refine v_astore_n hC (lv1 := [(3, .ref q9), (0, .ref (zad Z 0)), (1, .int a1), (2, .int a2)]) dL_object_13 rfl (by decide) rfl ?_
          refine v_ldc2 hC (v := (-9000000000000000003)) lc_L_21 dL_object_14 ?_
          exact v_lret hC rfl hlk hrt (by decide) dL_object_17
      · rw [if_neg h1] at hF ⊢
        exact absurd rfl hF
  · have e0 : f_W_object M a1 a2 = qRet 0 M1 := by
      unfold f_W_object
      rw [hr]
      rfl
    rw [e0] at hF ⊢
    refine v_lconst hC (v := 0) dL_object_6 (by decide) ?_
    exact v_lret hC rfl hlk hrt (by decide) dL_object_7
def f_W_sustain (M : gM) (a1 : Int32) (a2 : Int32) (a3 : Int32) : gQ := rq (f_X8_sustain M a1 a2 a3) (fun _ M1 => qRet 0 M1) (fun ex M1 => if ex = 0 then qRet (-9000000000000000001) M1 else if ex = 2 then qRet (-9000000000000000003) M1 else qStuck)
abbrev rm_L_sustain : Room := { frames := 8, cells := 3, slots := 18, locals := 134 }
theorem mw_X8_sustain : Cond.instanceMethod yX8_sustain ∈ gWS ∧ Cond.selects RX8 yX8_sustain yX8_sustain ∈ gWS ∧ Cond.initialized RX8 ∈ gWS ∧ Cond.code yX8_sustain cX8_sustain 4 none ∈ gWS := ⟨gIx 1157 (by decide +kernel) rfl, gIx 1158 (by decide +kernel) rfl, gIx 36 (by decide +kernel) rfl, gIx 1159 (by decide +kernel) rfl⟩
set_option maxRecDepth 20000 in
set_option maxHeartbeats 4000000 in
theorem c_L_sustain {l : Launch} (hfl : l.stackTraces = false) (Z : gZ) (M : gM) (a1 : Int32) (a2 : Int32) (a3 : Int32) : gMetW l yL_sustain cL_sustain 5 [(0, 8, 9, 31), (0, 8, 15, 19)] rm_L_sustain 3 Z M [.ref (zad Z 0), .int a1, .int a2, .int a3] (f_W_sustain M a1 a2 a3) := by
  refine v_enter (by decide) (Nat.le_of_ble_eq_true rfl) (fun hF p e s m args below meth c hC hN hlk hrt hT => ?_)
  refine v_lv0 (lv1 := [(0, .ref (zad Z 0)), (1, .int a1), (2, .int a2), (3, .int a3)]) rfl ?_
  refine v_aload_n hC 0 dL_sustain_0 rfl rfl ?_
  refine v_iload_n hC 1 dL_sustain_1 rfl rfl ?_
  refine v_iload_n hC 2 dL_sustain_2 rfl rfl ?_
  refine v_iload_n hC 3 dL_sustain_3 rfl rfl ?_
  refine v_callHv (n := 3) hC [.int a1, .int a2, .int a3] 0 8 (by decide) rfl rfl (fun hne => c_X8_sustain hfl Z M a1 a2 a3 hne) (rq_ne hF) (gIx 1156 (by decide +kernel) rfl) mw_X8_sustain.1 mw_X8_sustain.2.1 mw_X8_sustain.2.2.1 mw_X8_sustain.2.2.2 ⟨rfl, by decide, by decide, by decide +kernel⟩ rfl rfl ⟨by decide, by decide⟩ rfl rfl (Nat.le_of_ble_eq_true rfl) (by decide) (by decide) dL_sustain_4 (fun ex M1 hr => ?_) (fun M1 hr => ?_)
  · have e0 : f_W_sustain M a1 a2 a3 = (if ex = 0 then qRet (-9000000000000000001) M1 else if ex = 2 then qRet (-9000000000000000003) M1 else qStuck) := by
      unfold f_W_sustain
      rw [hr]
      exact rq_thr _ _ _ _
    rw [e0] at hF ⊢
    by_cases h0 : ex = 0
    · subst h0
      rw [if_pos rfl] at hF ⊢
      refine ⟨[], ⟨0, 8, 9, 31⟩, [⟨0, 8, 15, 19⟩], gEx 0, hT.trans rfl, fun z hz => ?_, rfl, by decide, cl_L_31, by decide, fun q9 => ?_⟩
      · cases hz
      · refine v_astore hC (lv1 := [(4, .ref q9), (0, .ref (zad Z 0)), (1, .int a1), (2, .int a2), (3, .int a3)]) dL_sustain_9 (by decide) rfl ?_
        refine v_ldc2 hC (v := (-9000000000000000001)) lc_L_33 dL_sustain_11 ?_
        exact v_lret hC rfl hlk hrt (by decide) dL_sustain_14
    · rw [if_neg h0] at hF ⊢
      by_cases h1 : ex = 2
      · subst h1
        rw [if_pos rfl] at hF ⊢
        refine ⟨[⟨0, 8, 9, 31⟩], ⟨0, 8, 15, 19⟩, [], gEx 2, hT.trans rfl, fun z hz => ?_, rfl, by decide, cl_L_19, by decide, fun q9 => ?_⟩
        · simp only [List.mem_cons, List.not_mem_nil, or_false] at hz
          subst hz
          exact Or.inr ⟨by decide, gEx 0, cl_L_31, hN 2 0 (by decide) (by decide) (by decide)⟩
        · refine v_astore hC (lv1 := [(4, .ref q9), (0, .ref (zad Z 0)), (1, .int a1), (2, .int a2), (3, .int a3)]) dL_sustain_15 (by decide) rfl ?_
          refine v_ldc2 hC (v := (-9000000000000000003)) lc_L_21 dL_sustain_17 ?_
          exact v_lret hC rfl hlk hrt (by decide) dL_sustain_20
      · rw [if_neg h1] at hF ⊢
        exact absurd rfl hF
  · have e0 : f_W_sustain M a1 a2 a3 = qRet 0 M1 := by
      unfold f_W_sustain
      rw [hr]
      rfl
    rw [e0] at hF ⊢
    refine v_lconst hC (v := 0) dL_sustain_7 (by decide) ?_
    exact v_lret hC rfl hlk hrt (by decide) dL_sustain_8
def f_W_admitted (M : gM) (a1 : Int32) : gQ := rq (f_X8_isAdmitted M a1) (fun v M1 => if v = 0 then qRet 0 M1 else qRet 1 M1) (fun ex M1 => if ex = 0 then qRet (-9000000000000000001) M1 else qStuck)
abbrev rm_L_admitted : Room := { frames := 8, cells := 1, slots := 6, locals := 132 }
theorem mw_X8_isAdmitted : Cond.instanceMethod yX8_isAdmitted ∈ gWS ∧ Cond.selects RX8 yX8_isAdmitted yX8_isAdmitted ∈ gWS ∧ Cond.initialized RX8 ∈ gWS ∧ Cond.code yX8_isAdmitted cX8_isAdmitted 2 (some .boolean) ∈ gWS := ⟨gIx 1165 (by decide +kernel) rfl, gIx 1166 (by decide +kernel) rfl, gIx 36 (by decide +kernel) rfl, gIx 1167 (by decide +kernel) rfl⟩
set_option maxRecDepth 20000 in
set_option maxHeartbeats 4000000 in
theorem c_L_admitted {l : Launch} (hfl : l.stackTraces = false) (Z : gZ) (M : gM) (a1 : Int32) : gMetW l yL_admitted cL_admitted 3 [(0, 13, 14, 31)] rm_L_admitted 1 Z M [.ref (zad Z 0), .int a1] (f_W_admitted M a1) := by
  refine v_enter (by decide) (Nat.le_of_ble_eq_true rfl) (fun hF p e s m args below meth c hC hN hlk hrt hT => ?_)
  refine v_lv0 (lv1 := [(0, .ref (zad Z 0)), (1, .int a1)]) rfl ?_
  refine v_aload_n hC 0 dL_admitted_0 rfl rfl ?_
  refine v_iload_n hC 1 dL_admitted_1 rfl rfl ?_
  refine v_callHi (n := 1) hC [.int a1] 0 8 (by decide) rfl rfl (fun hne => c_X8_isAdmitted hfl Z M a1 hne) (rq_ne hF) (gIx 1164 (by decide +kernel) rfl) mw_X8_isAdmitted.1 mw_X8_isAdmitted.2.1 mw_X8_isAdmitted.2.2.1 mw_X8_isAdmitted.2.2.2 ⟨rfl, by decide, by decide, by decide +kernel⟩ rfl rfl ⟨by decide, by decide⟩ rfl rfl (Nat.le_of_ble_eq_true rfl) (by decide) (by decide) dL_admitted_2 (fun ex M1 hr => ?_) (fun v M1 hr => ?_)
  · have e0 : f_W_admitted M a1 = (if ex = 0 then qRet (-9000000000000000001) M1 else qStuck) := by
      unfold f_W_admitted
      rw [hr]
      exact rq_thr _ _ _ _
    rw [e0] at hF ⊢
    by_cases h0 : ex = 0
    · subst h0
      rw [if_pos rfl] at hF ⊢
      refine ⟨[], ⟨0, 13, 14, 31⟩, [], gEx 0, hT.trans rfl, fun z hz => ?_, rfl, by decide, cl_L_31, by decide, fun q9 => ?_⟩
      · cases hz
      · refine v_astore_n hC (lv1 := [(2, .ref q9), (0, .ref (zad Z 0)), (1, .int a1)]) dL_admitted_14 rfl (by decide) rfl ?_
        refine v_ldc2 hC (v := (-9000000000000000001)) lc_L_33 dL_admitted_15 ?_
        exact v_lret hC rfl hlk hrt (by decide) dL_admitted_18
    · rw [if_neg h0] at hF ⊢
      exact absurd rfl hF
  · have e0 : f_W_admitted M a1 = (if v = 0 then qRet 0 M1 else qRet 1 M1) := by
      unfold f_W_admitted
      rw [hr]
      rfl
    rw [e0] at hF ⊢
    refine v_if_eq (tgt := 12) hC dL_admitted_5 (by decide) (fun h => ?_) (fun h => ?_)
    · rw [if_pos h] at hF ⊢
      refine v_lconst hC (v := 0) dL_admitted_12 (by decide) ?_
      exact v_lret hC rfl hlk hrt (by decide) dL_admitted_13
    · rw [if_neg h] at hF ⊢
      refine v_lconst hC (v := 1) dL_admitted_8 (by decide) ?_
      refine v_goto (tgt := 13) hC dL_admitted_9 (by decide) ?_
      exact v_lret hC rfl hlk hrt (by decide) dL_admitted_13
def f_W_seal (M : gM) (a1 : Int32) (a2 : Int32) : gQ := rq (f_X8_seal M a1 a2) (fun v M1 => if v = 0 then qRet 0 (gh M1 (f_X9_seal (f_L_seal M a1 a2).2.2 a1 a2)) else qRet 1 (gh M1 (f_X9_seal (f_L_seal M a1 a2).2.2 a1 a2))) (fun ex M1 => if ex = 0 then qRet (-9000000000000000001) M1 else qStuck)
abbrev rm_L_seal : Room := { frames := 8, cells := 1, slots := 6, locals := 134 }
theorem mw_X8_seal : Cond.instanceMethod yX8_seal ∈ gWS ∧ Cond.selects RX8 yX8_seal yX8_seal ∈ gWS ∧ Cond.initialized RX8 ∈ gWS ∧ Cond.code yX8_seal cX8_seal 4 (some .boolean) ∈ gWS := ⟨gIx 1176 (by decide +kernel) rfl, gIx 1177 (by decide +kernel) rfl, gIx 36 (by decide +kernel) rfl, gIx 1178 (by decide +kernel) rfl⟩
set_option maxRecDepth 20000 in
set_option maxHeartbeats 4000000 in
theorem c_L_seal {l : Launch} (hfl : l.stackTraces = false) (Z : gZ) (M : gM) (a1 : Int32) (a2 : Int32) : gMetW l yL_seal cL_seal 4 [(0, 14, 15, 31)] rm_L_seal 1 Z M [.ref (zad Z 0), .int a1, .int a2] (f_W_seal M a1 a2) := by
  refine v_enter (by decide) (Nat.le_of_ble_eq_true rfl) (fun hF p e s m args below meth c hC hN hlk hrt hT => ?_)
  refine v_lv0 (lv1 := [(0, .ref (zad Z 0)), (1, .int a1), (2, .int a2)]) rfl ?_
  refine v_aload_n hC 0 dL_seal_0 rfl rfl ?_
  refine v_iload_n hC 1 dL_seal_1 rfl rfl ?_
  refine v_iload_n hC 2 dL_seal_2 rfl rfl ?_
  refine v_callHi (n := 2) hC [.int a1, .int a2] 0 8 (by decide) rfl rfl (fun hne => c_X8_seal hfl Z M a1 a2 hne) (rq_ne hF) (gIx 1175 (by decide +kernel) rfl) mw_X8_seal.1 mw_X8_seal.2.1 mw_X8_seal.2.2.1 mw_X8_seal.2.2.2 ⟨rfl, by decide, by decide, by decide +kernel⟩ rfl rfl ⟨by decide, by decide⟩ rfl rfl (Nat.le_of_ble_eq_true rfl) (by decide) (by decide) dL_seal_3 (fun ex M1 hr => ?_) (fun v M1 hr => ?_)
  · have e0 : f_W_seal M a1 a2 = (if ex = 0 then qRet (-9000000000000000001) M1 else qStuck) := by
      unfold f_W_seal
      rw [hr]
      exact rq_thr _ _ _ _
    rw [e0] at hF ⊢
    by_cases h0 : ex = 0
    · subst h0
      rw [if_pos rfl] at hF ⊢
      refine ⟨[], ⟨0, 14, 15, 31⟩, [], gEx 0, hT.trans rfl, fun z hz => ?_, rfl, by decide, cl_L_31, by decide, fun q9 => ?_⟩
      · cases hz
      · refine v_astore_n hC (lv1 := [(3, .ref q9), (0, .ref (zad Z 0)), (1, .int a1), (2, .int a2)]) dL_seal_15 rfl (by decide) rfl ?_
        refine v_ldc2 hC (v := (-9000000000000000001)) lc_L_33 dL_seal_16 ?_
        exact v_lret hC rfl hlk hrt (by decide) dL_seal_19
    · rw [if_neg h0] at hF ⊢
      exact absurd rfl hF
  · have e0 : f_W_seal M a1 a2 = (if v = 0 then qRet 0 (gh M1 (f_X9_seal (f_L_seal M a1 a2).2.2 a1 a2)) else qRet 1 (gh M1 (f_X9_seal (f_L_seal M a1 a2).2.2 a1 a2))) := by
      unfold f_W_seal
      rw [hr]
      rfl
    rw [e0] at hF ⊢
    refine v_if_eq (tgt := 13) hC dL_seal_6 (by decide) (fun h => ?_) (fun h => ?_)
    · rw [if_pos h] at hF ⊢
      refine v_lconst hC (v := 0) dL_seal_13 (by decide) ?_
      exact v_lret hC (gL_gh _ _) hlk hrt (by decide) dL_seal_14
    · rw [if_neg h] at hF ⊢
      refine v_lconst hC (v := 1) dL_seal_9 (by decide) ?_
      refine v_goto (tgt := 14) hC dL_seal_10 (by decide) ?_
      exact v_lret hC (gL_gh _ _) hlk hrt (by decide) dL_seal_14
def f_W_maySee (M : gM) (a1 : Int32) (a2 : Int32) (a3 : Int32) : gQ := rq (f_X8_maySee M a1 a2 a3) (fun v M1 => if v = 0 then qRet 0 M1 else qRet 1 M1) (fun ex M1 => if ex = 0 then qRet (-9000000000000000001) M1 else if ex = 1 then qRet (-9000000000000000002) M1 else qStuck)
abbrev rm_L_maySee : Room := { frames := 8, cells := 3, slots := 18, locals := 134 }
theorem mw_X8_maySee : Cond.instanceMethod yX8_maySee ∈ gWS ∧ Cond.selects RX8 yX8_maySee yX8_maySee ∈ gWS ∧ Cond.initialized RX8 ∈ gWS ∧ Cond.code yX8_maySee cX8_maySee 4 (some .boolean) ∈ gWS := ⟨gIx 834 (by decide +kernel) rfl, gIx 835 (by decide +kernel) rfl, gIx 36 (by decide +kernel) rfl, gIx 836 (by decide +kernel) rfl⟩
set_option maxRecDepth 20000 in
set_option maxHeartbeats 4000000 in
theorem c_L_maySee {l : Launch} (hfl : l.stackTraces = false) (Z : gZ) (M : gM) (a1 : Int32) (a2 : Int32) (a3 : Int32) : gMetW l yL_maySee cL_maySee 5 [(0, 15, 16, 31), (0, 15, 22, 15)] rm_L_maySee 3 Z M [.ref (zad Z 0), .int a1, .int a2, .int a3] (f_W_maySee M a1 a2 a3) := by
  refine v_enter (by decide) (Nat.le_of_ble_eq_true rfl) (fun hF p e s m args below meth c hC hN hlk hrt hT => ?_)
  refine v_lv0 (lv1 := [(0, .ref (zad Z 0)), (1, .int a1), (2, .int a2), (3, .int a3)]) rfl ?_
  refine v_aload_n hC 0 dL_maySee_0 rfl rfl ?_
  refine v_iload_n hC 1 dL_maySee_1 rfl rfl ?_
  refine v_iload_n hC 2 dL_maySee_2 rfl rfl ?_
  refine v_iload_n hC 3 dL_maySee_3 rfl rfl ?_
  refine v_callHi (n := 3) hC [.int a1, .int a2, .int a3] 0 8 (by decide) rfl rfl (fun hne => c_X8_maySee hfl Z M a1 a2 a3 hne) (rq_ne hF) (gIx 833 (by decide +kernel) rfl) mw_X8_maySee.1 mw_X8_maySee.2.1 mw_X8_maySee.2.2.1 mw_X8_maySee.2.2.2 ⟨rfl, by decide, by decide, by decide +kernel⟩ rfl rfl ⟨by decide, by decide⟩ rfl rfl (Nat.le_of_ble_eq_true rfl) (by decide) (by decide) dL_maySee_4 (fun ex M1 hr => ?_) (fun v M1 hr => ?_)
  · have e0 : f_W_maySee M a1 a2 a3 = (if ex = 0 then qRet (-9000000000000000001) M1 else if ex = 1 then qRet (-9000000000000000002) M1 else qStuck) := by
      unfold f_W_maySee
      rw [hr]
      exact rq_thr _ _ _ _
    rw [e0] at hF ⊢
    by_cases h0 : ex = 0
    · subst h0
      rw [if_pos rfl] at hF ⊢
      refine ⟨[], ⟨0, 15, 16, 31⟩, [⟨0, 15, 22, 15⟩], gEx 0, hT.trans rfl, fun z hz => ?_, rfl, by decide, cl_L_31, by decide, fun q9 => ?_⟩
      · cases hz
      · refine v_astore hC (lv1 := [(4, .ref q9), (0, .ref (zad Z 0)), (1, .int a1), (2, .int a2), (3, .int a3)]) dL_maySee_16 (by decide) rfl ?_
        refine v_ldc2 hC (v := (-9000000000000000001)) lc_L_33 dL_maySee_18 ?_
        exact v_lret hC rfl hlk hrt (by decide) dL_maySee_21
    · rw [if_neg h0] at hF ⊢
      by_cases h1 : ex = 1
      · subst h1
        rw [if_pos rfl] at hF ⊢
        refine ⟨[⟨0, 15, 16, 31⟩], ⟨0, 15, 22, 15⟩, [], gEx 1, hT.trans rfl, fun z hz => ?_, rfl, by decide, cl_L_15, by decide, fun q9 => ?_⟩
        · simp only [List.mem_cons, List.not_mem_nil, or_false] at hz
          subst hz
          exact Or.inr ⟨by decide, gEx 0, cl_L_31, hN 1 0 (by decide) (by decide) (by decide)⟩
        · refine v_astore hC (lv1 := [(4, .ref q9), (0, .ref (zad Z 0)), (1, .int a1), (2, .int a2), (3, .int a3)]) dL_maySee_22 (by decide) rfl ?_
          refine v_ldc2 hC (v := (-9000000000000000002)) lc_L_17 dL_maySee_24 ?_
          exact v_lret hC rfl hlk hrt (by decide) dL_maySee_27
      · rw [if_neg h1] at hF ⊢
        exact absurd rfl hF
  · have e0 : f_W_maySee M a1 a2 a3 = (if v = 0 then qRet 0 M1 else qRet 1 M1) := by
      unfold f_W_maySee
      rw [hr]
      rfl
    rw [e0] at hF ⊢
    refine v_if_eq (tgt := 14) hC dL_maySee_7 (by decide) (fun h => ?_) (fun h => ?_)
    · rw [if_pos h] at hF ⊢
      refine v_lconst hC (v := 0) dL_maySee_14 (by decide) ?_
      exact v_lret hC rfl hlk hrt (by decide) dL_maySee_15
    · rw [if_neg h] at hF ⊢
      refine v_lconst hC (v := 1) dL_maySee_10 (by decide) ?_
      refine v_goto (tgt := 15) hC dL_maySee_11 (by decide) ?_
      exact v_lret hC rfl hlk hrt (by decide) dL_maySee_15
def f_W_certify (M : gM) (a1 : Int32) : gQ := rq (f_X8_certify M a1) (fun _ M1 => qRet 0 M1) (fun ex M1 => if ex = 0 then qRet (-9000000000000000001) M1 else if ex = 2 then qRet (-9000000000000000003) M1 else qStuck)
abbrev rm_L_certify : Room := { frames := 8, cells := 2, slots := 12, locals := 132 }
theorem mw_X8_certify : Cond.instanceMethod yX8_certify ∈ gWS ∧ Cond.selects RX8 yX8_certify yX8_certify ∈ gWS ∧ Cond.initialized RX8 ∈ gWS ∧ Cond.code yX8_certify cX8_certify 2 none ∈ gWS := ⟨gIx 1187 (by decide +kernel) rfl, gIx 1188 (by decide +kernel) rfl, gIx 36 (by decide +kernel) rfl, gIx 1189 (by decide +kernel) rfl⟩
set_option maxRecDepth 20000 in
set_option maxHeartbeats 4000000 in
theorem c_L_certify {l : Launch} (hfl : l.stackTraces = false) (Z : gZ) (M : gM) (a1 : Int32) : gMetW l yL_certify cL_certify 3 [(0, 6, 7, 31), (0, 6, 12, 19)] rm_L_certify 2 Z M [.ref (zad Z 0), .int a1] (f_W_certify M a1) := by
  refine v_enter (by decide) (Nat.le_of_ble_eq_true rfl) (fun hF p e s m args below meth c hC hN hlk hrt hT => ?_)
  refine v_lv0 (lv1 := [(0, .ref (zad Z 0)), (1, .int a1)]) rfl ?_
  refine v_aload_n hC 0 dL_certify_0 rfl rfl ?_
  refine v_iload_n hC 1 dL_certify_1 rfl rfl ?_
  refine v_callHv (n := 1) hC [.int a1] 0 8 (by decide) rfl rfl (fun hne => c_X8_certify hfl Z M a1 hne) (rq_ne hF) (gIx 1186 (by decide +kernel) rfl) mw_X8_certify.1 mw_X8_certify.2.1 mw_X8_certify.2.2.1 mw_X8_certify.2.2.2 ⟨rfl, by decide, by decide, by decide +kernel⟩ rfl rfl ⟨by decide, by decide⟩ rfl rfl (Nat.le_of_ble_eq_true rfl) (by decide) (by decide) dL_certify_2 (fun ex M1 hr => ?_) (fun M1 hr => ?_)
  · have e0 : f_W_certify M a1 = (if ex = 0 then qRet (-9000000000000000001) M1 else if ex = 2 then qRet (-9000000000000000003) M1 else qStuck) := by
      unfold f_W_certify
      rw [hr]
      exact rq_thr _ _ _ _
    rw [e0] at hF ⊢
    by_cases h0 : ex = 0
    · subst h0
      rw [if_pos rfl] at hF ⊢
      refine ⟨[], ⟨0, 6, 7, 31⟩, [⟨0, 6, 12, 19⟩], gEx 0, hT.trans rfl, fun z hz => ?_, rfl, by decide, cl_L_31, by decide, fun q9 => ?_⟩
      · cases hz
      · refine v_astore_n hC (lv1 := [(2, .ref q9), (0, .ref (zad Z 0)), (1, .int a1)]) dL_certify_7 rfl (by decide) rfl ?_
        refine v_ldc2 hC (v := (-9000000000000000001)) lc_L_33 dL_certify_8 ?_
        exact v_lret hC rfl hlk hrt (by decide) dL_certify_11
    · rw [if_neg h0] at hF ⊢
      by_cases h1 : ex = 2
      · subst h1
        rw [if_pos rfl] at hF ⊢
        refine ⟨[⟨0, 6, 7, 31⟩], ⟨0, 6, 12, 19⟩, [], gEx 2, hT.trans rfl, fun z hz => ?_, rfl, by decide, cl_L_19, by decide, fun q9 => ?_⟩
        · simp only [List.mem_cons, List.not_mem_nil, or_false] at hz
          subst hz
          exact Or.inr ⟨by decide, gEx 0, cl_L_31, hN 2 0 (by decide) (by decide) (by decide)⟩
        · refine v_astore_n hC (lv1 := [(2, .ref q9), (0, .ref (zad Z 0)), (1, .int a1)]) dL_certify_12 rfl (by decide) rfl ?_
          refine v_ldc2 hC (v := (-9000000000000000003)) lc_L_21 dL_certify_13 ?_
          exact v_lret hC rfl hlk hrt (by decide) dL_certify_16
      · rw [if_neg h1] at hF ⊢
        exact absurd rfl hF
  · have e0 : f_W_certify M a1 = qRet 0 M1 := by
      unfold f_W_certify
      rw [hr]
      rfl
    rw [e0] at hF ⊢
    refine v_lconst hC (v := 0) dL_certify_5 (by decide) ?_
    exact v_lret hC rfl hlk hrt (by decide) dL_certify_6
def f_W_member (M : gM) (a1 : Int32) (a2 : Int32) (a3 : Int32) : gQ := rq (f_X8_member M a1 a2 a3) (fun v M1 => qRet v.toInt64 M1) (fun ex M1 => if ex = 0 then qRet (-9000000000000000001) M1 else if ex = 2 then qRet (-9000000000000000003) M1 else qStuck)
abbrev rm_L_member : Room := { frames := 8, cells := 3, slots := 18, locals := 135 }
theorem mw_X8_member : Cond.instanceMethod yX8_member ∈ gWS ∧ Cond.selects RX8 yX8_member yX8_member ∈ gWS ∧ Cond.initialized RX8 ∈ gWS ∧ Cond.code yX8_member cX8_member 5 (some .int) ∈ gWS := ⟨gIx 1195 (by decide +kernel) rfl, gIx 1196 (by decide +kernel) rfl, gIx 36 (by decide +kernel) rfl, gIx 1197 (by decide +kernel) rfl⟩
set_option maxRecDepth 20000 in
set_option maxHeartbeats 4000000 in
theorem c_L_member {l : Launch} (hfl : l.stackTraces = false) (Z : gZ) (M : gM) (a1 : Int32) (a2 : Int32) (a3 : Int32) : gMetW l yL_member cL_member 5 [(0, 8, 9, 31), (0, 8, 15, 19)] rm_L_member 3 Z M [.ref (zad Z 0), .int a1, .int a2, .int a3] (f_W_member M a1 a2 a3) := by
  refine v_enter (by decide) (Nat.le_of_ble_eq_true rfl) (fun hF p e s m args below meth c hC hN hlk hrt hT => ?_)
  refine v_lv0 (lv1 := [(0, .ref (zad Z 0)), (1, .int a1), (2, .int a2), (3, .int a3)]) rfl ?_
  refine v_aload_n hC 0 dL_member_0 rfl rfl ?_
  refine v_iload_n hC 1 dL_member_1 rfl rfl ?_
  refine v_iload_n hC 2 dL_member_2 rfl rfl ?_
  refine v_iload_n hC 3 dL_member_3 rfl rfl ?_
  refine v_callHi (n := 3) hC [.int a1, .int a2, .int a3] 0 8 (by decide) rfl rfl (fun hne => c_X8_member hfl Z M a1 a2 a3 hne) (rq_ne hF) (gIx 1194 (by decide +kernel) rfl) mw_X8_member.1 mw_X8_member.2.1 mw_X8_member.2.2.1 mw_X8_member.2.2.2 ⟨rfl, by decide, by decide, by decide +kernel⟩ rfl rfl ⟨by decide, by decide⟩ rfl rfl (Nat.le_of_ble_eq_true rfl) (by decide) (by decide) dL_member_4 (fun ex M1 hr => ?_) (fun v M1 hr => ?_)
  · have e0 : f_W_member M a1 a2 a3 = (if ex = 0 then qRet (-9000000000000000001) M1 else if ex = 2 then qRet (-9000000000000000003) M1 else qStuck) := by
      unfold f_W_member
      rw [hr]
      exact rq_thr _ _ _ _
    rw [e0] at hF ⊢
    by_cases h0 : ex = 0
    · subst h0
      rw [if_pos rfl] at hF ⊢
      refine ⟨[], ⟨0, 8, 9, 31⟩, [⟨0, 8, 15, 19⟩], gEx 0, hT.trans rfl, fun z hz => ?_, rfl, by decide, cl_L_31, by decide, fun q9 => ?_⟩
      · cases hz
      · refine v_astore hC (lv1 := [(4, .ref q9), (0, .ref (zad Z 0)), (1, .int a1), (2, .int a2), (3, .int a3)]) dL_member_9 (by decide) rfl ?_
        refine v_ldc2 hC (v := (-9000000000000000001)) lc_L_33 dL_member_11 ?_
        exact v_lret hC rfl hlk hrt (by decide) dL_member_14
    · rw [if_neg h0] at hF ⊢
      by_cases h1 : ex = 2
      · subst h1
        rw [if_pos rfl] at hF ⊢
        refine ⟨[⟨0, 8, 9, 31⟩], ⟨0, 8, 15, 19⟩, [], gEx 2, hT.trans rfl, fun z hz => ?_, rfl, by decide, cl_L_19, by decide, fun q9 => ?_⟩
        · simp only [List.mem_cons, List.not_mem_nil, or_false] at hz
          subst hz
          exact Or.inr ⟨by decide, gEx 0, cl_L_31, hN 2 0 (by decide) (by decide) (by decide)⟩
        · refine v_astore hC (lv1 := [(4, .ref q9), (0, .ref (zad Z 0)), (1, .int a1), (2, .int a2), (3, .int a3)]) dL_member_15 (by decide) rfl ?_
          refine v_ldc2 hC (v := (-9000000000000000003)) lc_L_21 dL_member_17 ?_
          exact v_lret hC rfl hlk hrt (by decide) dL_member_20
      · rw [if_neg h1] at hF ⊢
        exact absurd rfl hF
  · have e0 : f_W_member M a1 a2 a3 = qRet v.toInt64 M1 := by
      unfold f_W_member
      rw [hr]
      rfl
    rw [e0] at hF ⊢
    refine v_i2l hC dL_member_7 ?_
    exact v_lret hC rfl hlk hrt (by decide) dL_member_8
def f_W_share (M : gM) (a1 : Int32) (a2 : Int32) : gQ := rq (f_X8_share M a1 a2) (fun v M1 => qRet v.toInt64 M1) (fun ex M1 => if ex = 0 then qRet (-9000000000000000001) M1 else qStuck)
abbrev rm_L_share : Room := { frames := 8, cells := 2, slots := 12, locals := 134 }
theorem mw_X8_share : Cond.instanceMethod yX8_share ∈ gWS ∧ Cond.selects RX8 yX8_share yX8_share ∈ gWS ∧ Cond.initialized RX8 ∈ gWS ∧ Cond.code yX8_share cX8_share 4 (some .int) ∈ gWS := ⟨gIx 1217 (by decide +kernel) rfl, gIx 1218 (by decide +kernel) rfl, gIx 36 (by decide +kernel) rfl, gIx 1219 (by decide +kernel) rfl⟩
set_option maxRecDepth 20000 in
set_option maxHeartbeats 4000000 in
theorem c_L_share {l : Launch} (hfl : l.stackTraces = false) (Z : gZ) (M : gM) (a1 : Int32) (a2 : Int32) : gMetW l yL_share cL_share 4 [(0, 7, 8, 31)] rm_L_share 2 Z M [.ref (zad Z 0), .int a1, .int a2] (f_W_share M a1 a2) := by
  refine v_enter (by decide) (Nat.le_of_ble_eq_true rfl) (fun hF p e s m args below meth c hC hN hlk hrt hT => ?_)
  refine v_lv0 (lv1 := [(0, .ref (zad Z 0)), (1, .int a1), (2, .int a2)]) rfl ?_
  refine v_aload_n hC 0 dL_share_0 rfl rfl ?_
  refine v_iload_n hC 1 dL_share_1 rfl rfl ?_
  refine v_iload_n hC 2 dL_share_2 rfl rfl ?_
  refine v_callHi (n := 2) hC [.int a1, .int a2] 0 8 (by decide) rfl rfl (fun hne => c_X8_share hfl Z M a1 a2 hne) (rq_ne hF) (gIx 1216 (by decide +kernel) rfl) mw_X8_share.1 mw_X8_share.2.1 mw_X8_share.2.2.1 mw_X8_share.2.2.2 ⟨rfl, by decide, by decide, by decide +kernel⟩ rfl rfl ⟨by decide, by decide⟩ rfl rfl (Nat.le_of_ble_eq_true rfl) (by decide) (by decide) dL_share_3 (fun ex M1 hr => ?_) (fun v M1 hr => ?_)
  · have e0 : f_W_share M a1 a2 = (if ex = 0 then qRet (-9000000000000000001) M1 else qStuck) := by
      unfold f_W_share
      rw [hr]
      exact rq_thr _ _ _ _
    rw [e0] at hF ⊢
    by_cases h0 : ex = 0
    · subst h0
      rw [if_pos rfl] at hF ⊢
      refine ⟨[], ⟨0, 7, 8, 31⟩, [], gEx 0, hT.trans rfl, fun z hz => ?_, rfl, by decide, cl_L_31, by decide, fun q9 => ?_⟩
      · cases hz
      · refine v_astore_n hC (lv1 := [(3, .ref q9), (0, .ref (zad Z 0)), (1, .int a1), (2, .int a2)]) dL_share_8 rfl (by decide) rfl ?_
        refine v_ldc2 hC (v := (-9000000000000000001)) lc_L_33 dL_share_9 ?_
        exact v_lret hC rfl hlk hrt (by decide) dL_share_12
    · rw [if_neg h0] at hF ⊢
      exact absurd rfl hF
  · have e0 : f_W_share M a1 a2 = qRet v.toInt64 M1 := by
      unfold f_W_share
      rw [hr]
      rfl
    rw [e0] at hF ⊢
    refine v_i2l hC dL_share_6 ?_
    exact v_lret hC rfl hlk hrt (by decide) dL_share_7
def f_W_entryAt (M : gM) (a1 : Int32) (a2 : Int32) : gQ := rq (f_X8_entryAt M a1 a2) (fun v M1 => qRet v.toInt64 M1) (fun ex M1 => if ex = 0 then qRet (-9000000000000000001) M1 else qStuck)
abbrev rm_L_entryAt : Room := { frames := 8, cells := 2, slots := 12, locals := 133 }
theorem mw_X8_entryAt : Cond.instanceMethod yX8_entryAt ∈ gWS ∧ Cond.selects RX8 yX8_entryAt yX8_entryAt ∈ gWS ∧ Cond.initialized RX8 ∈ gWS ∧ Cond.code yX8_entryAt cX8_entryAt 3 (some .int) ∈ gWS := ⟨gIx 817 (by decide +kernel) rfl, gIx 818 (by decide +kernel) rfl, gIx 36 (by decide +kernel) rfl, gIx 819 (by decide +kernel) rfl⟩
set_option maxRecDepth 20000 in
set_option maxHeartbeats 4000000 in
theorem c_L_entryAt {l : Launch} (hfl : l.stackTraces = false) (Z : gZ) (M : gM) (a1 : Int32) (a2 : Int32) : gMetW l yL_entryAt cL_entryAt 4 [(0, 7, 8, 31)] rm_L_entryAt 2 Z M [.ref (zad Z 0), .int a1, .int a2] (f_W_entryAt M a1 a2) := by
  refine v_enter (by decide) (Nat.le_of_ble_eq_true rfl) (fun hF p e s m args below meth c hC hN hlk hrt hT => ?_)
  refine v_lv0 (lv1 := [(0, .ref (zad Z 0)), (1, .int a1), (2, .int a2)]) rfl ?_
  refine v_aload_n hC 0 dL_entryAt_0 rfl rfl ?_
  refine v_iload_n hC 1 dL_entryAt_1 rfl rfl ?_
  refine v_iload_n hC 2 dL_entryAt_2 rfl rfl ?_
  refine v_callHi (n := 2) hC [.int a1, .int a2] 0 8 (by decide) rfl rfl (fun hne => c_X8_entryAt hfl Z M a1 a2 hne) (rq_ne hF) (gIx 816 (by decide +kernel) rfl) mw_X8_entryAt.1 mw_X8_entryAt.2.1 mw_X8_entryAt.2.2.1 mw_X8_entryAt.2.2.2 ⟨rfl, by decide, by decide, by decide +kernel⟩ rfl rfl ⟨by decide, by decide⟩ rfl rfl (Nat.le_of_ble_eq_true rfl) (by decide) (by decide) dL_entryAt_3 (fun ex M1 hr => ?_) (fun v M1 hr => ?_)
  · have e0 : f_W_entryAt M a1 a2 = (if ex = 0 then qRet (-9000000000000000001) M1 else qStuck) := by
      unfold f_W_entryAt
      rw [hr]
      exact rq_thr _ _ _ _
    rw [e0] at hF ⊢
    by_cases h0 : ex = 0
    · subst h0
      rw [if_pos rfl] at hF ⊢
      refine ⟨[], ⟨0, 7, 8, 31⟩, [], gEx 0, hT.trans rfl, fun z hz => ?_, rfl, by decide, cl_L_31, by decide, fun q9 => ?_⟩
      · cases hz
      · refine v_astore_n hC (lv1 := [(3, .ref q9), (0, .ref (zad Z 0)), (1, .int a1), (2, .int a2)]) dL_entryAt_8 rfl (by decide) rfl ?_
        refine v_ldc2 hC (v := (-9000000000000000001)) lc_L_33 dL_entryAt_9 ?_
        exact v_lret hC rfl hlk hrt (by decide) dL_entryAt_12
    · rw [if_neg h0] at hF ⊢
      exact absurd rfl hF
  · have e0 : f_W_entryAt M a1 a2 = qRet v.toInt64 M1 := by
      unfold f_W_entryAt
      rw [hr]
      rfl
    rw [e0] at hF ⊢
    refine v_i2l hC dL_entryAt_6 ?_
    exact v_lret hC rfl hlk hrt (by decide) dL_entryAt_7
def f_W_counts (M : gM) (a1 : Int32) : gQ := rq (f_X8_counts M a1) (fun v M1 => if v = 0 then qRet 0 M1 else qRet 1 M1) (fun ex M1 => if ex = 0 then qRet (-9000000000000000001) M1 else qStuck)
abbrev rm_L_counts : Room := { frames := 8, cells := 1, slots := 6, locals := 132 }
theorem mw_X8_counts : Cond.instanceMethod yX8_counts ∈ gWS ∧ Cond.selects RX8 yX8_counts yX8_counts ∈ gWS ∧ Cond.initialized RX8 ∈ gWS ∧ Cond.code yX8_counts cX8_counts 2 (some .boolean) ∈ gWS := ⟨gIx 825 (by decide +kernel) rfl, gIx 826 (by decide +kernel) rfl, gIx 36 (by decide +kernel) rfl, gIx 827 (by decide +kernel) rfl⟩
set_option maxRecDepth 20000 in
set_option maxHeartbeats 4000000 in
theorem c_L_counts {l : Launch} (hfl : l.stackTraces = false) (Z : gZ) (M : gM) (a1 : Int32) : gMetW l yL_counts cL_counts 3 [(0, 13, 14, 31)] rm_L_counts 1 Z M [.ref (zad Z 0), .int a1] (f_W_counts M a1) := by
  refine v_enter (by decide) (Nat.le_of_ble_eq_true rfl) (fun hF p e s m args below meth c hC hN hlk hrt hT => ?_)
  refine v_lv0 (lv1 := [(0, .ref (zad Z 0)), (1, .int a1)]) rfl ?_
  refine v_aload_n hC 0 dL_counts_0 rfl rfl ?_
  refine v_iload_n hC 1 dL_counts_1 rfl rfl ?_
  refine v_callHi (n := 1) hC [.int a1] 0 8 (by decide) rfl rfl (fun hne => c_X8_counts hfl Z M a1 hne) (rq_ne hF) (gIx 824 (by decide +kernel) rfl) mw_X8_counts.1 mw_X8_counts.2.1 mw_X8_counts.2.2.1 mw_X8_counts.2.2.2 ⟨rfl, by decide, by decide, by decide +kernel⟩ rfl rfl ⟨by decide, by decide⟩ rfl rfl (Nat.le_of_ble_eq_true rfl) (by decide) (by decide) dL_counts_2 (fun ex M1 hr => ?_) (fun v M1 hr => ?_)
  · have e0 : f_W_counts M a1 = (if ex = 0 then qRet (-9000000000000000001) M1 else qStuck) := by
      unfold f_W_counts
      rw [hr]
      exact rq_thr _ _ _ _
    rw [e0] at hF ⊢
    by_cases h0 : ex = 0
    · subst h0
      rw [if_pos rfl] at hF ⊢
      refine ⟨[], ⟨0, 13, 14, 31⟩, [], gEx 0, hT.trans rfl, fun z hz => ?_, rfl, by decide, cl_L_31, by decide, fun q9 => ?_⟩
      · cases hz
      · refine v_astore_n hC (lv1 := [(2, .ref q9), (0, .ref (zad Z 0)), (1, .int a1)]) dL_counts_14 rfl (by decide) rfl ?_
        refine v_ldc2 hC (v := (-9000000000000000001)) lc_L_33 dL_counts_15 ?_
        exact v_lret hC rfl hlk hrt (by decide) dL_counts_18
    · rw [if_neg h0] at hF ⊢
      exact absurd rfl hF
  · have e0 : f_W_counts M a1 = (if v = 0 then qRet 0 M1 else qRet 1 M1) := by
      unfold f_W_counts
      rw [hr]
      rfl
    rw [e0] at hF ⊢
    refine v_if_eq (tgt := 12) hC dL_counts_5 (by decide) (fun h => ?_) (fun h => ?_)
    · rw [if_pos h] at hF ⊢
      refine v_lconst hC (v := 0) dL_counts_12 (by decide) ?_
      exact v_lret hC rfl hlk hrt (by decide) dL_counts_13
    · rw [if_neg h] at hF ⊢
      refine v_lconst hC (v := 1) dL_counts_8 (by decide) ?_
      refine v_goto (tgt := 13) hC dL_counts_9 (by decide) ?_
      exact v_lret hC rfl hlk hrt (by decide) dL_counts_13
def f_W_stateOf (M : gM) (a1 : Int32) : gQ := rq (f_X8_stateOf M a1) (fun v M1 => qRet v.toInt64 M1) (fun ex M1 => if ex = 0 then qRet (-9000000000000000001) M1 else qStuck)
abbrev rm_L_stateOf : Room := { frames := 8, cells := 1, slots := 6, locals := 132 }
theorem mw_X8_stateOf : Cond.instanceMethod yX8_stateOf ∈ gWS ∧ Cond.selects RX8 yX8_stateOf yX8_stateOf ∈ gWS ∧ Cond.initialized RX8 ∈ gWS ∧ Cond.code yX8_stateOf cX8_stateOf 2 (some .int) ∈ gWS := ⟨gIx 739 (by decide +kernel) rfl, gIx 740 (by decide +kernel) rfl, gIx 36 (by decide +kernel) rfl, gIx 741 (by decide +kernel) rfl⟩
set_option maxRecDepth 20000 in
set_option maxHeartbeats 4000000 in
theorem c_L_stateOf {l : Launch} (hfl : l.stackTraces = false) (Z : gZ) (M : gM) (a1 : Int32) : gMetW l yL_stateOf cL_stateOf 3 [(0, 6, 7, 31)] rm_L_stateOf 1 Z M [.ref (zad Z 0), .int a1] (f_W_stateOf M a1) := by
  refine v_enter (by decide) (Nat.le_of_ble_eq_true rfl) (fun hF p e s m args below meth c hC hN hlk hrt hT => ?_)
  refine v_lv0 (lv1 := [(0, .ref (zad Z 0)), (1, .int a1)]) rfl ?_
  refine v_aload_n hC 0 dL_stateOf_0 rfl rfl ?_
  refine v_iload_n hC 1 dL_stateOf_1 rfl rfl ?_
  refine v_callHi (n := 1) hC [.int a1] 0 8 (by decide) rfl rfl (fun hne => c_X8_stateOf hfl Z M a1 hne) (rq_ne hF) (gIx 738 (by decide +kernel) rfl) mw_X8_stateOf.1 mw_X8_stateOf.2.1 mw_X8_stateOf.2.2.1 mw_X8_stateOf.2.2.2 ⟨rfl, by decide, by decide, by decide +kernel⟩ rfl rfl ⟨by decide, by decide⟩ rfl rfl (Nat.le_of_ble_eq_true rfl) (by decide) (by decide) dL_stateOf_2 (fun ex M1 hr => ?_) (fun v M1 hr => ?_)
  · have e0 : f_W_stateOf M a1 = (if ex = 0 then qRet (-9000000000000000001) M1 else qStuck) := by
      unfold f_W_stateOf
      rw [hr]
      exact rq_thr _ _ _ _
    rw [e0] at hF ⊢
    by_cases h0 : ex = 0
    · subst h0
      rw [if_pos rfl] at hF ⊢
      refine ⟨[], ⟨0, 6, 7, 31⟩, [], gEx 0, hT.trans rfl, fun z hz => ?_, rfl, by decide, cl_L_31, by decide, fun q9 => ?_⟩
      · cases hz
      · refine v_astore_n hC (lv1 := [(2, .ref q9), (0, .ref (zad Z 0)), (1, .int a1)]) dL_stateOf_7 rfl (by decide) rfl ?_
        refine v_ldc2 hC (v := (-9000000000000000001)) lc_L_33 dL_stateOf_8 ?_
        exact v_lret hC rfl hlk hrt (by decide) dL_stateOf_11
    · rw [if_neg h0] at hF ⊢
      exact absurd rfl hF
  · have e0 : f_W_stateOf M a1 = qRet v.toInt64 M1 := by
      unfold f_W_stateOf
      rw [hr]
      rfl
    rw [e0] at hF ⊢
    refine v_i2l hC dL_stateOf_5 ?_
    exact v_lret hC rfl hlk hrt (by decide) dL_stateOf_6
def f_W_stateByDocket (M : gM) (a1 : Int32) : gQ := rq (f_X8_stateByDocket M a1) (fun v M1 => qRet v.toInt64 M1) (fun ex M1 => if ex = 0 then qRet (-9000000000000000001) M1 else qStuck)
abbrev rm_L_stateByDocket : Room := { frames := 8, cells := 1, slots := 6, locals := 138 }
theorem mw_X8_stateByDocket : Cond.instanceMethod yX8_stateByDocket ∈ gWS ∧ Cond.selects RX8 yX8_stateByDocket yX8_stateByDocket ∈ gWS ∧ Cond.initialized RX8 ∈ gWS ∧ Cond.code yX8_stateByDocket cX8_stateByDocket 8 (some .int) ∈ gWS := ⟨gIx 771 (by decide +kernel) rfl, gIx 772 (by decide +kernel) rfl, gIx 36 (by decide +kernel) rfl, gIx 773 (by decide +kernel) rfl⟩
set_option maxRecDepth 20000 in
set_option maxHeartbeats 4000000 in
theorem c_L_stateByDocket {l : Launch} (hfl : l.stackTraces = false) (Z : gZ) (M : gM) (a1 : Int32) : gMetW l yL_stateByDocket cL_stateByDocket 3 [(0, 6, 7, 31)] rm_L_stateByDocket 1 Z M [.ref (zad Z 0), .int a1] (f_W_stateByDocket M a1) := by
  refine v_enter (by decide) (Nat.le_of_ble_eq_true rfl) (fun hF p e s m args below meth c hC hN hlk hrt hT => ?_)
  refine v_lv0 (lv1 := [(0, .ref (zad Z 0)), (1, .int a1)]) rfl ?_
  refine v_aload_n hC 0 dL_stateByDocket_0 rfl rfl ?_
  refine v_iload_n hC 1 dL_stateByDocket_1 rfl rfl ?_
  refine v_callHi (n := 1) hC [.int a1] 0 8 (by decide) rfl rfl (fun hne => c_X8_stateByDocket hfl Z M a1 hne) (rq_ne hF) (gIx 770 (by decide +kernel) rfl) mw_X8_stateByDocket.1 mw_X8_stateByDocket.2.1 mw_X8_stateByDocket.2.2.1 mw_X8_stateByDocket.2.2.2 ⟨rfl, by decide, by decide, by decide +kernel⟩ rfl rfl ⟨by decide, by decide⟩ rfl rfl (Nat.le_of_ble_eq_true rfl) (by decide) (by decide) dL_stateByDocket_2 (fun ex M1 hr => ?_) (fun v M1 hr => ?_)
  · have e0 : f_W_stateByDocket M a1 = (if ex = 0 then qRet (-9000000000000000001) M1 else qStuck) := by
      unfold f_W_stateByDocket
      rw [hr]
      exact rq_thr _ _ _ _
    rw [e0] at hF ⊢
    by_cases h0 : ex = 0
    · subst h0
      rw [if_pos rfl] at hF ⊢
      refine ⟨[], ⟨0, 6, 7, 31⟩, [], gEx 0, hT.trans rfl, fun z hz => ?_, rfl, by decide, cl_L_31, by decide, fun q9 => ?_⟩
      · cases hz
      · refine v_astore_n hC (lv1 := [(2, .ref q9), (0, .ref (zad Z 0)), (1, .int a1)]) dL_stateByDocket_7 rfl (by decide) rfl ?_
        refine v_ldc2 hC (v := (-9000000000000000001)) lc_L_33 dL_stateByDocket_8 ?_
        exact v_lret hC rfl hlk hrt (by decide) dL_stateByDocket_11
    · rw [if_neg h0] at hF ⊢
      exact absurd rfl hF
  · have e0 : f_W_stateByDocket M a1 = qRet v.toInt64 M1 := by
      unfold f_W_stateByDocket
      rw [hr]
      rfl
    rw [e0] at hF ⊢
    refine v_i2l hC dL_stateByDocket_5 ?_
    exact v_lret hC rfl hlk hrt (by decide) dL_stateByDocket_6
def f_W_amountOf (M : gM) (a1 : Int32) : gQ := rq (f_X8_amountOf M a1) (fun v M1 => qRet v.toInt64 M1) (fun ex M1 => if ex = 0 then qRet (-9000000000000000001) M1 else qStuck)
abbrev rm_L_amountOf : Room := { frames := 8, cells := 1, slots := 6, locals := 132 }
theorem mw_X8_amountOf : Cond.instanceMethod yX8_amountOf ∈ gWS ∧ Cond.selects RX8 yX8_amountOf yX8_amountOf ∈ gWS ∧ Cond.initialized RX8 ∈ gWS ∧ Cond.code yX8_amountOf cX8_amountOf 2 (some .int) ∈ gWS := ⟨gIx 782 (by decide +kernel) rfl, gIx 783 (by decide +kernel) rfl, gIx 36 (by decide +kernel) rfl, gIx 784 (by decide +kernel) rfl⟩
set_option maxRecDepth 20000 in
set_option maxHeartbeats 4000000 in
theorem c_L_amountOf {l : Launch} (hfl : l.stackTraces = false) (Z : gZ) (M : gM) (a1 : Int32) : gMetW l yL_amountOf cL_amountOf 3 [(0, 6, 7, 31)] rm_L_amountOf 1 Z M [.ref (zad Z 0), .int a1] (f_W_amountOf M a1) := by
  refine v_enter (by decide) (Nat.le_of_ble_eq_true rfl) (fun hF p e s m args below meth c hC hN hlk hrt hT => ?_)
  refine v_lv0 (lv1 := [(0, .ref (zad Z 0)), (1, .int a1)]) rfl ?_
  refine v_aload_n hC 0 dL_amountOf_0 rfl rfl ?_
  refine v_iload_n hC 1 dL_amountOf_1 rfl rfl ?_
  refine v_callHi (n := 1) hC [.int a1] 0 8 (by decide) rfl rfl (fun hne => c_X8_amountOf hfl Z M a1 hne) (rq_ne hF) (gIx 781 (by decide +kernel) rfl) mw_X8_amountOf.1 mw_X8_amountOf.2.1 mw_X8_amountOf.2.2.1 mw_X8_amountOf.2.2.2 ⟨rfl, by decide, by decide, by decide +kernel⟩ rfl rfl ⟨by decide, by decide⟩ rfl rfl (Nat.le_of_ble_eq_true rfl) (by decide) (by decide) dL_amountOf_2 (fun ex M1 hr => ?_) (fun v M1 hr => ?_)
  · have e0 : f_W_amountOf M a1 = (if ex = 0 then qRet (-9000000000000000001) M1 else qStuck) := by
      unfold f_W_amountOf
      rw [hr]
      exact rq_thr _ _ _ _
    rw [e0] at hF ⊢
    by_cases h0 : ex = 0
    · subst h0
      rw [if_pos rfl] at hF ⊢
      refine ⟨[], ⟨0, 6, 7, 31⟩, [], gEx 0, hT.trans rfl, fun z hz => ?_, rfl, by decide, cl_L_31, by decide, fun q9 => ?_⟩
      · cases hz
      · refine v_astore_n hC (lv1 := [(2, .ref q9), (0, .ref (zad Z 0)), (1, .int a1)]) dL_amountOf_7 rfl (by decide) rfl ?_
        refine v_ldc2 hC (v := (-9000000000000000001)) lc_L_33 dL_amountOf_8 ?_
        exact v_lret hC rfl hlk hrt (by decide) dL_amountOf_11
    · rw [if_neg h0] at hF ⊢
      exact absurd rfl hF
  · have e0 : f_W_amountOf M a1 = qRet v.toInt64 M1 := by
      unfold f_W_amountOf
      rw [hr]
      rfl
    rw [e0] at hF ⊢
    refine v_i2l hC dL_amountOf_5 ?_
    exact v_lret hC rfl hlk hrt (by decide) dL_amountOf_6
def f_W_balance (M : gM) (a1 : Int32) : gQ := rq (f_X8_balance M a1) (fun v M1 => qRet v.toInt64 M1) (fun ex M1 => if ex = 0 then qRet (-9000000000000000001) M1 else qStuck)
abbrev rm_L_balance : Room := { frames := 8, cells := 1, slots := 6, locals := 132 }
theorem mw_X8_balance : Cond.instanceMethod yX8_balance ∈ gWS ∧ Cond.selects RX8 yX8_balance yX8_balance ∈ gWS ∧ Cond.initialized RX8 ∈ gWS ∧ Cond.code yX8_balance cX8_balance 2 (some .int) ∈ gWS := ⟨gIx 756 (by decide +kernel) rfl, gIx 757 (by decide +kernel) rfl, gIx 36 (by decide +kernel) rfl, gIx 758 (by decide +kernel) rfl⟩
set_option maxRecDepth 20000 in
set_option maxHeartbeats 4000000 in
theorem c_L_balance {l : Launch} (hfl : l.stackTraces = false) (Z : gZ) (M : gM) (a1 : Int32) : gMetW l yL_balance cL_balance 3 [(0, 6, 7, 31)] rm_L_balance 1 Z M [.ref (zad Z 0), .int a1] (f_W_balance M a1) := by
  refine v_enter (by decide) (Nat.le_of_ble_eq_true rfl) (fun hF p e s m args below meth c hC hN hlk hrt hT => ?_)
  refine v_lv0 (lv1 := [(0, .ref (zad Z 0)), (1, .int a1)]) rfl ?_
  refine v_aload_n hC 0 dL_balance_0 rfl rfl ?_
  refine v_iload_n hC 1 dL_balance_1 rfl rfl ?_
  refine v_callHi (n := 1) hC [.int a1] 0 8 (by decide) rfl rfl (fun hne => c_X8_balance hfl Z M a1 hne) (rq_ne hF) (gIx 755 (by decide +kernel) rfl) mw_X8_balance.1 mw_X8_balance.2.1 mw_X8_balance.2.2.1 mw_X8_balance.2.2.2 ⟨rfl, by decide, by decide, by decide +kernel⟩ rfl rfl ⟨by decide, by decide⟩ rfl rfl (Nat.le_of_ble_eq_true rfl) (by decide) (by decide) dL_balance_2 (fun ex M1 hr => ?_) (fun v M1 hr => ?_)
  · have e0 : f_W_balance M a1 = (if ex = 0 then qRet (-9000000000000000001) M1 else qStuck) := by
      unfold f_W_balance
      rw [hr]
      exact rq_thr _ _ _ _
    rw [e0] at hF ⊢
    by_cases h0 : ex = 0
    · subst h0
      rw [if_pos rfl] at hF ⊢
      refine ⟨[], ⟨0, 6, 7, 31⟩, [], gEx 0, hT.trans rfl, fun z hz => ?_, rfl, by decide, cl_L_31, by decide, fun q9 => ?_⟩
      · cases hz
      · refine v_astore_n hC (lv1 := [(2, .ref q9), (0, .ref (zad Z 0)), (1, .int a1)]) dL_balance_7 rfl (by decide) rfl ?_
        refine v_ldc2 hC (v := (-9000000000000000001)) lc_L_33 dL_balance_8 ?_
        exact v_lret hC rfl hlk hrt (by decide) dL_balance_11
    · rw [if_neg h0] at hF ⊢
      exact absurd rfl hF
  · have e0 : f_W_balance M a1 = qRet v.toInt64 M1 := by
      unfold f_W_balance
      rw [hr]
      rfl
    rw [e0] at hF ⊢
    refine v_i2l hC dL_balance_5 ?_
    exact v_lret hC rfl hlk hrt (by decide) dL_balance_6
def f_W_caseOf (M : gM) (a1 : Int32) : gQ := rq (f_X8_caseOf M a1) (fun v M1 => qRet v.toInt64 M1) (fun ex M1 => if ex = 0 then qRet (-9000000000000000001) M1 else qStuck)
abbrev rm_L_caseOf : Room := { frames := 8, cells := 1, slots := 6, locals := 132 }
theorem mw_X8_caseOf : Cond.instanceMethod yX8_caseOf ∈ gWS ∧ Cond.selects RX8 yX8_caseOf yX8_caseOf ∈ gWS ∧ Cond.initialized RX8 ∈ gWS ∧ Cond.code yX8_caseOf cX8_caseOf 2 (some .int) ∈ gWS := ⟨gIx 790 (by decide +kernel) rfl, gIx 791 (by decide +kernel) rfl, gIx 36 (by decide +kernel) rfl, gIx 792 (by decide +kernel) rfl⟩
set_option maxRecDepth 20000 in
set_option maxHeartbeats 4000000 in
theorem c_L_caseOf {l : Launch} (hfl : l.stackTraces = false) (Z : gZ) (M : gM) (a1 : Int32) : gMetW l yL_caseOf cL_caseOf 3 [(0, 6, 7, 31)] rm_L_caseOf 1 Z M [.ref (zad Z 0), .int a1] (f_W_caseOf M a1) := by
  refine v_enter (by decide) (Nat.le_of_ble_eq_true rfl) (fun hF p e s m args below meth c hC hN hlk hrt hT => ?_)
  refine v_lv0 (lv1 := [(0, .ref (zad Z 0)), (1, .int a1)]) rfl ?_
  refine v_aload_n hC 0 dL_caseOf_0 rfl rfl ?_
  refine v_iload_n hC 1 dL_caseOf_1 rfl rfl ?_
  refine v_callHi (n := 1) hC [.int a1] 0 8 (by decide) rfl rfl (fun hne => c_X8_caseOf hfl Z M a1 hne) (rq_ne hF) (gIx 789 (by decide +kernel) rfl) mw_X8_caseOf.1 mw_X8_caseOf.2.1 mw_X8_caseOf.2.2.1 mw_X8_caseOf.2.2.2 ⟨rfl, by decide, by decide, by decide +kernel⟩ rfl rfl ⟨by decide, by decide⟩ rfl rfl (Nat.le_of_ble_eq_true rfl) (by decide) (by decide) dL_caseOf_2 (fun ex M1 hr => ?_) (fun v M1 hr => ?_)
  · have e0 : f_W_caseOf M a1 = (if ex = 0 then qRet (-9000000000000000001) M1 else qStuck) := by
      unfold f_W_caseOf
      rw [hr]
      exact rq_thr _ _ _ _
    rw [e0] at hF ⊢
    by_cases h0 : ex = 0
    · subst h0
      rw [if_pos rfl] at hF ⊢
      refine ⟨[], ⟨0, 6, 7, 31⟩, [], gEx 0, hT.trans rfl, fun z hz => ?_, rfl, by decide, cl_L_31, by decide, fun q9 => ?_⟩
      · cases hz
      · refine v_astore_n hC (lv1 := [(2, .ref q9), (0, .ref (zad Z 0)), (1, .int a1)]) dL_caseOf_7 rfl (by decide) rfl ?_
        refine v_ldc2 hC (v := (-9000000000000000001)) lc_L_33 dL_caseOf_8 ?_
        exact v_lret hC rfl hlk hrt (by decide) dL_caseOf_11
    · rw [if_neg h0] at hF ⊢
      exact absurd rfl hF
  · have e0 : f_W_caseOf M a1 = qRet v.toInt64 M1 := by
      unfold f_W_caseOf
      rw [hr]
      rfl
    rw [e0] at hF ⊢
    refine v_i2l hC dL_caseOf_5 ?_
    exact v_lret hC rfl hlk hrt (by decide) dL_caseOf_6
def f_W_answered (M : gM) (a1 : Int32) : gQ := rq (f_X8_isAnswered M a1) (fun v M1 => if v = 0 then qRet 0 M1 else qRet 1 M1) (fun ex M1 => if ex = 0 then qRet (-9000000000000000001) M1 else qStuck)
abbrev rm_L_answered : Room := { frames := 8, cells := 1, slots := 6, locals := 132 }
theorem mw_X8_isAnswered : Cond.instanceMethod yX8_isAnswered ∈ gWS ∧ Cond.selects RX8 yX8_isAnswered yX8_isAnswered ∈ gWS ∧ Cond.initialized RX8 ∈ gWS ∧ Cond.code yX8_isAnswered cX8_isAnswered 2 (some .boolean) ∈ gWS := ⟨gIx 1228 (by decide +kernel) rfl, gIx 1229 (by decide +kernel) rfl, gIx 36 (by decide +kernel) rfl, gIx 1230 (by decide +kernel) rfl⟩
set_option maxRecDepth 20000 in
set_option maxHeartbeats 4000000 in
theorem c_L_answered {l : Launch} (hfl : l.stackTraces = false) (Z : gZ) (M : gM) (a1 : Int32) : gMetW l yL_answered cL_answered 3 [(0, 13, 14, 31)] rm_L_answered 1 Z M [.ref (zad Z 0), .int a1] (f_W_answered M a1) := by
  refine v_enter (by decide) (Nat.le_of_ble_eq_true rfl) (fun hF p e s m args below meth c hC hN hlk hrt hT => ?_)
  refine v_lv0 (lv1 := [(0, .ref (zad Z 0)), (1, .int a1)]) rfl ?_
  refine v_aload_n hC 0 dL_answered_0 rfl rfl ?_
  refine v_iload_n hC 1 dL_answered_1 rfl rfl ?_
  refine v_callHi (n := 1) hC [.int a1] 0 8 (by decide) rfl rfl (fun hne => c_X8_isAnswered hfl Z M a1 hne) (rq_ne hF) (gIx 1227 (by decide +kernel) rfl) mw_X8_isAnswered.1 mw_X8_isAnswered.2.1 mw_X8_isAnswered.2.2.1 mw_X8_isAnswered.2.2.2 ⟨rfl, by decide, by decide, by decide +kernel⟩ rfl rfl ⟨by decide, by decide⟩ rfl rfl (Nat.le_of_ble_eq_true rfl) (by decide) (by decide) dL_answered_2 (fun ex M1 hr => ?_) (fun v M1 hr => ?_)
  · have e0 : f_W_answered M a1 = (if ex = 0 then qRet (-9000000000000000001) M1 else qStuck) := by
      unfold f_W_answered
      rw [hr]
      exact rq_thr _ _ _ _
    rw [e0] at hF ⊢
    by_cases h0 : ex = 0
    · subst h0
      rw [if_pos rfl] at hF ⊢
      refine ⟨[], ⟨0, 13, 14, 31⟩, [], gEx 0, hT.trans rfl, fun z hz => ?_, rfl, by decide, cl_L_31, by decide, fun q9 => ?_⟩
      · cases hz
      · refine v_astore_n hC (lv1 := [(2, .ref q9), (0, .ref (zad Z 0)), (1, .int a1)]) dL_answered_14 rfl (by decide) rfl ?_
        refine v_ldc2 hC (v := (-9000000000000000001)) lc_L_33 dL_answered_15 ?_
        exact v_lret hC rfl hlk hrt (by decide) dL_answered_18
    · rw [if_neg h0] at hF ⊢
      exact absurd rfl hF
  · have e0 : f_W_answered M a1 = (if v = 0 then qRet 0 M1 else qRet 1 M1) := by
      unfold f_W_answered
      rw [hr]
      rfl
    rw [e0] at hF ⊢
    refine v_if_eq (tgt := 12) hC dL_answered_5 (by decide) (fun h => ?_) (fun h => ?_)
    · rw [if_pos h] at hF ⊢
      refine v_lconst hC (v := 0) dL_answered_12 (by decide) ?_
      exact v_lret hC rfl hlk hrt (by decide) dL_answered_13
    · rw [if_neg h] at hF ⊢
      refine v_lconst hC (v := 1) dL_answered_8 (by decide) ?_
      refine v_goto (tgt := 13) hC dL_answered_9 (by decide) ?_
      exact v_lret hC rfl hlk hrt (by decide) dL_answered_13
def f_W_due (M : gM) (a1 : Int32) (a2 : Int32) : gQ := rq (f_X8_due M a1 a2) (fun v M1 => qRet v.toInt64 M1) (fun ex M1 => if ex = 0 then qRet (-9000000000000000001) M1 else qStuck)
abbrev rm_L_due : Room := { frames := 10, cells := 2, slots := 12, locals := 177 }
theorem mw_X8_due : Cond.instanceMethod yX8_due ∈ gWS ∧ Cond.selects RX8 yX8_due yX8_due ∈ gWS ∧ Cond.initialized RX8 ∈ gWS ∧ Cond.code yX8_due cX8_due 4 (some .int) ∈ gWS := ⟨gIx 746 (by decide +kernel) rfl, gIx 747 (by decide +kernel) rfl, gIx 36 (by decide +kernel) rfl, gIx 748 (by decide +kernel) rfl⟩
set_option maxRecDepth 20000 in
set_option maxHeartbeats 4000000 in
theorem c_L_due {l : Launch} (hfl : l.stackTraces = false) (Z : gZ) (M : gM) (a1 : Int32) (a2 : Int32) : gMetW l yL_due cL_due 4 [(0, 7, 8, 31)] rm_L_due 2 Z M [.ref (zad Z 0), .int a1, .int a2] (f_W_due M a1 a2) := by
  refine v_enter (by decide) (Nat.le_of_ble_eq_true rfl) (fun hF p e s m args below meth c hC hN hlk hrt hT => ?_)
  refine v_lv0 (lv1 := [(0, .ref (zad Z 0)), (1, .int a1), (2, .int a2)]) rfl ?_
  refine v_aload_n hC 0 dL_due_0 rfl rfl ?_
  refine v_iload_n hC 1 dL_due_1 rfl rfl ?_
  refine v_iload_n hC 2 dL_due_2 rfl rfl ?_
  refine v_callHi (n := 2) hC [.int a1, .int a2] 0 8 (by decide) rfl rfl (fun hne => c_X8_due hfl Z M a1 a2 hne) (rq_ne hF) (gIx 745 (by decide +kernel) rfl) mw_X8_due.1 mw_X8_due.2.1 mw_X8_due.2.2.1 mw_X8_due.2.2.2 ⟨rfl, by decide, by decide, by decide +kernel⟩ rfl rfl ⟨by decide, by decide⟩ rfl rfl (Nat.le_of_ble_eq_true rfl) (by decide) (by decide) dL_due_3 (fun ex M1 hr => ?_) (fun v M1 hr => ?_)
  · have e0 : f_W_due M a1 a2 = (if ex = 0 then qRet (-9000000000000000001) M1 else qStuck) := by
      unfold f_W_due
      rw [hr]
      exact rq_thr _ _ _ _
    rw [e0] at hF ⊢
    by_cases h0 : ex = 0
    · subst h0
      rw [if_pos rfl] at hF ⊢
      refine ⟨[], ⟨0, 7, 8, 31⟩, [], gEx 0, hT.trans rfl, fun z hz => ?_, rfl, by decide, cl_L_31, by decide, fun q9 => ?_⟩
      · cases hz
      · refine v_astore_n hC (lv1 := [(3, .ref q9), (0, .ref (zad Z 0)), (1, .int a1), (2, .int a2)]) dL_due_8 rfl (by decide) rfl ?_
        refine v_ldc2 hC (v := (-9000000000000000001)) lc_L_33 dL_due_9 ?_
        exact v_lret hC rfl hlk hrt (by decide) dL_due_12
    · rw [if_neg h0] at hF ⊢
      exact absurd rfl hF
  · have e0 : f_W_due M a1 a2 = qRet v.toInt64 M1 := by
      unfold f_W_due
      rw [hr]
      rfl
    rw [e0] at hF ⊢
    refine v_i2l hC dL_due_6 ?_
    exact v_lret hC rfl hlk hrt (by decide) dL_due_7
def f_W_dueByDays (M : gM) (a1 : Int32) (a2 : Int32) : gQ := rq (f_X8_dueByDays M a1 a2) (fun v M1 => qRet v.toInt64 M1) (fun ex M1 => if ex = 0 then qRet (-9000000000000000001) M1 else qStuck)
abbrev rm_L_dueByDays : Room := { frames := 10, cells := 2, slots := 12, locals := 179 }
theorem mw_X8_dueByDays : Cond.instanceMethod yX8_dueByDays ∈ gWS ∧ Cond.selects RX8 yX8_dueByDays yX8_dueByDays ∈ gWS ∧ Cond.initialized RX8 ∈ gWS ∧ Cond.code yX8_dueByDays cX8_dueByDays 6 (some .int) ∈ gWS := ⟨gIx 797 (by decide +kernel) rfl, gIx 798 (by decide +kernel) rfl, gIx 36 (by decide +kernel) rfl, gIx 799 (by decide +kernel) rfl⟩
set_option maxRecDepth 20000 in
set_option maxHeartbeats 4000000 in
theorem c_L_dueByDays {l : Launch} (hfl : l.stackTraces = false) (Z : gZ) (M : gM) (a1 : Int32) (a2 : Int32) : gMetW l yL_dueByDays cL_dueByDays 4 [(0, 7, 8, 31)] rm_L_dueByDays 2 Z M [.ref (zad Z 0), .int a1, .int a2] (f_W_dueByDays M a1 a2) := by
  refine v_enter (by decide) (Nat.le_of_ble_eq_true rfl) (fun hF p e s m args below meth c hC hN hlk hrt hT => ?_)
  refine v_lv0 (lv1 := [(0, .ref (zad Z 0)), (1, .int a1), (2, .int a2)]) rfl ?_
  refine v_aload_n hC 0 dL_dueByDays_0 rfl rfl ?_
  refine v_iload_n hC 1 dL_dueByDays_1 rfl rfl ?_
  refine v_iload_n hC 2 dL_dueByDays_2 rfl rfl ?_
  refine v_callHi (n := 2) hC [.int a1, .int a2] 0 8 (by decide) rfl rfl (fun hne => c_X8_dueByDays hfl Z M a1 a2 hne) (rq_ne hF) (gIx 796 (by decide +kernel) rfl) mw_X8_dueByDays.1 mw_X8_dueByDays.2.1 mw_X8_dueByDays.2.2.1 mw_X8_dueByDays.2.2.2 ⟨rfl, by decide, by decide, by decide +kernel⟩ rfl rfl ⟨by decide, by decide⟩ rfl rfl (Nat.le_of_ble_eq_true rfl) (by decide) (by decide) dL_dueByDays_3 (fun ex M1 hr => ?_) (fun v M1 hr => ?_)
  · have e0 : f_W_dueByDays M a1 a2 = (if ex = 0 then qRet (-9000000000000000001) M1 else qStuck) := by
      unfold f_W_dueByDays
      rw [hr]
      exact rq_thr _ _ _ _
    rw [e0] at hF ⊢
    by_cases h0 : ex = 0
    · subst h0
      rw [if_pos rfl] at hF ⊢
      refine ⟨[], ⟨0, 7, 8, 31⟩, [], gEx 0, hT.trans rfl, fun z hz => ?_, rfl, by decide, cl_L_31, by decide, fun q9 => ?_⟩
      · cases hz
      · refine v_astore_n hC (lv1 := [(3, .ref q9), (0, .ref (zad Z 0)), (1, .int a1), (2, .int a2)]) dL_dueByDays_8 rfl (by decide) rfl ?_
        refine v_ldc2 hC (v := (-9000000000000000001)) lc_L_33 dL_dueByDays_9 ?_
        exact v_lret hC rfl hlk hrt (by decide) dL_dueByDays_12
    · rw [if_neg h0] at hF ⊢
      exact absurd rfl hF
  · have e0 : f_W_dueByDays M a1 a2 = qRet v.toInt64 M1 := by
      unfold f_W_dueByDays
      rw [hr]
      rfl
    rw [e0] at hF ⊢
    refine v_i2l hC dL_dueByDays_6 ?_
    exact v_lret hC rfl hlk hrt (by decide) dL_dueByDays_7
