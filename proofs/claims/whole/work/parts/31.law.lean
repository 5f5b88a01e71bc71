theorem cl_L_25 : Cond.classLink RL 25 (gEx 0) ∈ gWS := gIx 537 (by decide +kernel) rfl
theorem cl_L_13 : Cond.classLink RL 13 (gEx 1) ∈ gWS := gIx 419 (by decide +kernel) rfl
theorem cl_L_15 : Cond.classLink RL 15 (gEx 2) ∈ gWS := gIx 420 (by decide +kernel) rfl
theorem v_lv0 {p : Program} {l : Launch} {e : Env} {R : Room} {s : State} {m : MethodId} {args : Array Value} {below : List Frame} {meth : Method} {c : Code} {nL : Nat} {Z : gZ} {Q : State → Prop} {k : Nat} {M : gM} {pc : Nat} {lv lv1 : List (Nat × Value)} {st : List Value} (h : lv = lv1) (kk : gV p l e R s m args below meth c nL Z Q k M pc lv1 st) : gV p l e R s m args below meth c nL Z Q k M pc lv st := h ▸ kk
def f_L_pass (M : gM) (a1 : Int32) : gR := rc (f_X8_pass M a1) (fun v M1 => rRet 0 (gset M1 10 0 v)) (fun ex M1 => if ex = 1 then rRet 1 M1 else if ex = 2 then rRet 2 M1 else rStuck)
abbrev rm_L_pass : Room := { frames := 8, cells := 2, slots := 12, locals := 132 }
theorem mw_X8_pass : Cond.instanceMethod yX8_pass ∈ gWS ∧ Cond.selects RX8 yX8_pass yX8_pass ∈ gWS ∧ Cond.initialized RX8 ∈ gWS ∧ Cond.code yX8_pass cX8_pass 2 (some .int) ∈ gWS := ⟨gIx 422 (by decide +kernel) rfl, gIx 423 (by decide +kernel) rfl, gIx 75 (by decide +kernel) rfl, gIx 424 (by decide +kernel) rfl⟩
set_option maxRecDepth 20000 in
set_option maxHeartbeats 4000000 in
theorem c_L_pass {l : Launch} (hfl : l.stackTraces = false) (Z : gZ) (M : gM) (a1 : Int32) : gMetL l yL_pass cL_pass 4 [(0, 9, 12, 13), (0, 9, 15, 15)] rm_L_pass 2 Z M [.ref (zad Z 0), .int a1, .ref (zad Z 10)] (f_L_pass M a1) := by
  refine v_enter (by decide) (Nat.le_of_ble_eq_true rfl) (fun hF p e s m args below meth c hC hN hlk hrt hT => ?_)
  refine v_lv0 (lv1 := [(0, .ref (zad Z 0)), (1, .int a1), (2, .ref (zad Z 10))]) rfl ?_
  refine v_aload_n hC 2 dL_pass_0 rfl rfl ?_
  refine v_iconst hC (v := 0) dL_pass_1 (by decide) ?_
  refine v_aload_n hC 0 dL_pass_2 rfl rfl ?_
  refine v_iload_n hC 1 dL_pass_3 rfl rfl ?_
  refine v_callHi (n := 1) hC [.int a1] 0 8 (by decide) rfl rfl (fun hne => c_X8_pass hfl Z M a1 hne) (rc_ne hF) (gIx 421 (by decide +kernel) rfl) mw_X8_pass.1 mw_X8_pass.2.1 mw_X8_pass.2.2.1 mw_X8_pass.2.2.2 ⟨rfl, by decide, by decide, by decide +kernel⟩ rfl rfl ⟨by decide, by decide⟩ rfl rfl (Nat.le_of_ble_eq_true rfl) (by decide) (by decide) dL_pass_4 (fun ex M1 hr => ?_) (fun v M1 hr => ?_)
  · have e0 : f_L_pass M a1 = (if ex = 1 then rRet 1 M1 else if ex = 2 then rRet 2 M1 else rStuck) := by
      unfold f_L_pass
      rw [hr]
      exact rc_thr _ _ _ _
    rw [e0] at hF ⊢
    by_cases h0 : ex = 1
    · subst h0
      rw [if_pos rfl] at hF ⊢
      refine ⟨[], ⟨0, 9, 12, 13⟩, [⟨0, 9, 15, 15⟩], gEx 1, hT.trans rfl, fun z hz => ?_, rfl, by decide, cl_L_13, by decide, fun q9 => ?_⟩
      · cases hz
      · refine v_astore_n hC (lv1 := [(3, .ref q9), (0, .ref (zad Z 0)), (1, .int a1), (2, .ref (zad Z 10))]) dL_pass_12 rfl (by decide) rfl ?_
        refine v_iconst hC (v := 1) dL_pass_13 (by decide) ?_
        exact v_iret hC hlk hrt (by decide) dL_pass_14
    · rw [if_neg h0] at hF ⊢
      by_cases h1 : ex = 2
      · subst h1
        rw [if_pos rfl] at hF ⊢
        refine ⟨[⟨0, 9, 12, 13⟩], ⟨0, 9, 15, 15⟩, [], gEx 2, hT.trans rfl, fun z hz => ?_, rfl, by decide, cl_L_15, by decide, fun q9 => ?_⟩
        · simp only [List.mem_cons, List.not_mem_nil, or_false] at hz
          subst hz
          exact Or.inr ⟨by decide, gEx 1, cl_L_13, hN 2 1 (by decide) (by decide) (by decide)⟩
        · refine v_astore_n hC (lv1 := [(3, .ref q9), (0, .ref (zad Z 0)), (1, .int a1), (2, .ref (zad Z 10))]) dL_pass_15 rfl (by decide) rfl ?_
          refine v_iconst hC (v := 2) dL_pass_16 (by decide) ?_
          exact v_iret hC hlk hrt (by decide) dL_pass_17
      · rw [if_neg h1] at hF ⊢
        exact absurd rfl hF
  · have e0 : f_L_pass M a1 = rRet 0 (gset M1 10 0 v) := by
      unfold f_L_pass
      rw [hr]
      rfl
    rw [e0] at hF ⊢
    refine v_i2l hC dL_pass_7 ?_
    refine v_last hC v rfl dL_pass_8 ?_
    refine v_goto (tgt := 18) hC dL_pass_9 (by decide) ?_
    refine v_iconst hC (v := 0) dL_pass_18 (by decide) ?_
    exact v_iret hC hlk hrt (by decide) dL_pass_19
def f_L_holiday (M : gM) (a1 : Int32) : gR := rc (f_X8_holiday M a1) (fun v M1 => if v = 0 then rRet 0 (gset M1 10 0 0) else rRet 0 (gset M1 10 0 1)) (fun ex M1 => if ex = 1 then rRet 1 M1 else if ex = 2 then rRet 2 M1 else rStuck)
abbrev rm_L_holiday : Room := { frames := 7, cells := 1, slots := 6, locals := 112 }
theorem mw_X8_holiday : Cond.instanceMethod yX8_holiday ∈ gWS ∧ Cond.selects RX8 yX8_holiday yX8_holiday ∈ gWS ∧ Cond.initialized RX8 ∈ gWS ∧ Cond.code yX8_holiday cX8_holiday 3 (some .boolean) ∈ gWS := ⟨gIx 517 (by decide +kernel) rfl, gIx 518 (by decide +kernel) rfl, gIx 75 (by decide +kernel) rfl, gIx 519 (by decide +kernel) rfl⟩
set_option maxRecDepth 20000 in
set_option maxHeartbeats 4000000 in
theorem c_L_holiday {l : Launch} (hfl : l.stackTraces = false) (Z : gZ) (M : gM) (a1 : Int32) : gMetL l yL_holiday cL_holiday 4 [(0, 16, 19, 13), (0, 16, 22, 15)] rm_L_holiday 1 Z M [.ref (zad Z 0), .int a1, .ref (zad Z 10)] (f_L_holiday M a1) := by
  refine v_enter (by decide) (Nat.le_of_ble_eq_true rfl) (fun hF p e s m args below meth c hC hN hlk hrt hT => ?_)
  refine v_lv0 (lv1 := [(0, .ref (zad Z 0)), (1, .int a1), (2, .ref (zad Z 10))]) rfl ?_
  refine v_aload_n hC 2 dL_holiday_0 rfl rfl ?_
  refine v_iconst hC (v := 0) dL_holiday_1 (by decide) ?_
  refine v_aload_n hC 0 dL_holiday_2 rfl rfl ?_
  refine v_iload_n hC 1 dL_holiday_3 rfl rfl ?_
  refine v_callHi (n := 1) hC [.int a1] 0 8 (by decide) rfl rfl (fun hne => c_X8_holiday hfl Z M a1 hne) (rc_ne hF) (gIx 516 (by decide +kernel) rfl) mw_X8_holiday.1 mw_X8_holiday.2.1 mw_X8_holiday.2.2.1 mw_X8_holiday.2.2.2 ⟨rfl, by decide, by decide, by decide +kernel⟩ rfl rfl ⟨by decide, by decide⟩ rfl rfl (Nat.le_of_ble_eq_true rfl) (by decide) (by decide) dL_holiday_4 (fun ex M1 hr => ?_) (fun v M1 hr => ?_)
  · have e0 : f_L_holiday M a1 = (if ex = 1 then rRet 1 M1 else if ex = 2 then rRet 2 M1 else rStuck) := by
      unfold f_L_holiday
      rw [hr]
      exact rc_thr _ _ _ _
    rw [e0] at hF ⊢
    by_cases h0 : ex = 1
    · subst h0
      rw [if_pos rfl] at hF ⊢
      refine ⟨[], ⟨0, 16, 19, 13⟩, [⟨0, 16, 22, 15⟩], gEx 1, hT.trans rfl, fun z hz => ?_, rfl, by decide, cl_L_13, by decide, fun q9 => ?_⟩
      · cases hz
      · refine v_astore_n hC (lv1 := [(3, .ref q9), (0, .ref (zad Z 0)), (1, .int a1), (2, .ref (zad Z 10))]) dL_holiday_19 rfl (by decide) rfl ?_
        refine v_iconst hC (v := 1) dL_holiday_20 (by decide) ?_
        exact v_iret hC hlk hrt (by decide) dL_holiday_21
    · rw [if_neg h0] at hF ⊢
      by_cases h1 : ex = 2
      · subst h1
        rw [if_pos rfl] at hF ⊢
        refine ⟨[⟨0, 16, 19, 13⟩], ⟨0, 16, 22, 15⟩, [], gEx 2, hT.trans rfl, fun z hz => ?_, rfl, by decide, cl_L_15, by decide, fun q9 => ?_⟩
        · simp only [List.mem_cons, List.not_mem_nil, or_false] at hz
          subst hz
          exact Or.inr ⟨by decide, gEx 1, cl_L_13, hN 2 1 (by decide) (by decide) (by decide)⟩
        · refine v_astore_n hC (lv1 := [(3, .ref q9), (0, .ref (zad Z 0)), (1, .int a1), (2, .ref (zad Z 10))]) dL_holiday_22 rfl (by decide) rfl ?_
          refine v_iconst hC (v := 2) dL_holiday_23 (by decide) ?_
          exact v_iret hC hlk hrt (by decide) dL_holiday_24
      · rw [if_neg h1] at hF ⊢
        exact absurd rfl hF
  · have e0 : f_L_holiday M a1 = (if v = 0 then rRet 0 (gset M1 10 0 0) else rRet 0 (gset M1 10 0 1)) := by
      unfold f_L_holiday
      rw [hr]
      rfl
    rw [e0] at hF ⊢
    refine v_if_eq (tgt := 14) hC dL_holiday_7 (by decide) (fun h => ?_) (fun h => ?_)
    · rw [if_pos h] at hF ⊢
      refine v_lconst hC (v := 0) dL_holiday_14 (by decide) ?_
      refine v_last hC 0 (by decide) dL_holiday_15 ?_
      refine v_goto (tgt := 25) hC dL_holiday_16 (by decide) ?_
      refine v_iconst hC (v := 0) dL_holiday_25 (by decide) ?_
      exact v_iret hC hlk hrt (by decide) dL_holiday_26
    · rw [if_neg h] at hF ⊢
      refine v_lconst hC (v := 1) dL_holiday_10 (by decide) ?_
      refine v_goto (tgt := 15) hC dL_holiday_11 (by decide) ?_
      refine v_last hC 1 (by decide) dL_holiday_15 ?_
      refine v_goto (tgt := 25) hC dL_holiday_16 (by decide) ?_
      refine v_iconst hC (v := 0) dL_holiday_25 (by decide) ?_
      exact v_iret hC hlk hrt (by decide) dL_holiday_26
def f_L_setRule (M : gM) (a1 : Int32) (a2 : Int32) (a3 : Int32) : gR := rc (f_X8_setRule M a1 a2 a3) (fun v M1 => rRet 0 (gset M1 10 0 v)) (fun ex M1 => if ex = 0 then rRet 1 M1 else if ex = 1 then rRet 2 M1 else rStuck)
abbrev rm_L_setRule : Room := { frames := 8, cells := 1, slots := 6, locals := 135 }
theorem mw_X8_setRule : Cond.instanceMethod yX8_setRule ∈ gWS ∧ Cond.selects RX8 yX8_setRule yX8_setRule ∈ gWS ∧ Cond.initialized RX8 ∈ gWS ∧ Cond.code yX8_setRule cX8_setRule 5 (some .int) ∈ gWS := ⟨gIx 539 (by decide +kernel) rfl, gIx 540 (by decide +kernel) rfl, gIx 75 (by decide +kernel) rfl, gIx 541 (by decide +kernel) rfl⟩
set_option maxRecDepth 20000 in
set_option maxHeartbeats 4000000 in
theorem c_L_setRule {l : Launch} (hfl : l.stackTraces = false) (Z : gZ) (M : gM) (a1 : Int32) (a2 : Int32) (a3 : Int32) : gMetL l yL_setRule cL_setRule 6 [(0, 12, 15, 25), (0, 12, 19, 13)] rm_L_setRule 1 Z M [.ref (zad Z 0), .int a1, .int a2, .int a3, .ref (zad Z 10)] (f_L_setRule M a1 a2 a3) := by
  refine v_enter (by decide) (Nat.le_of_ble_eq_true rfl) (fun hF p e s m args below meth c hC hN hlk hrt hT => ?_)
  refine v_lv0 (lv1 := [(0, .ref (zad Z 0)), (1, .int a1), (2, .int a2), (3, .int a3), (4, .ref (zad Z 10))]) rfl ?_
  refine v_aload hC 4 dL_setRule_0 rfl ?_
  refine v_iconst hC (v := 0) dL_setRule_2 (by decide) ?_
  refine v_aload_n hC 0 dL_setRule_3 rfl rfl ?_
  refine v_iload_n hC 1 dL_setRule_4 rfl rfl ?_
  refine v_iload_n hC 2 dL_setRule_5 rfl rfl ?_
  refine v_iload_n hC 3 dL_setRule_6 rfl rfl ?_
  refine v_callHi (n := 3) hC [.int a1, .int a2, .int a3] 0 8 (by decide) rfl rfl (fun hne => c_X8_setRule hfl Z M a1 a2 a3 hne) (rc_ne hF) (gIx 538 (by decide +kernel) rfl) mw_X8_setRule.1 mw_X8_setRule.2.1 mw_X8_setRule.2.2.1 mw_X8_setRule.2.2.2 ⟨rfl, by decide, by decide, by decide +kernel⟩ rfl rfl ⟨by decide, by decide⟩ rfl rfl (Nat.le_of_ble_eq_true rfl) (by decide) (by decide) dL_setRule_7 (fun ex M1 hr => ?_) (fun v M1 hr => ?_)
  · have e0 : f_L_setRule M a1 a2 a3 = (if ex = 0 then rRet 1 M1 else if ex = 1 then rRet 2 M1 else rStuck) := by
      unfold f_L_setRule
      rw [hr]
      exact rc_thr _ _ _ _
    rw [e0] at hF ⊢
    by_cases h0 : ex = 0
    · subst h0
      rw [if_pos rfl] at hF ⊢
      refine ⟨[], ⟨0, 12, 15, 25⟩, [⟨0, 12, 19, 13⟩], gEx 0, hT.trans rfl, fun z hz => ?_, rfl, by decide, cl_L_25, by decide, fun q9 => ?_⟩
      · cases hz
      · refine v_astore hC (lv1 := [(5, .ref q9), (0, .ref (zad Z 0)), (1, .int a1), (2, .int a2), (3, .int a3), (4, .ref (zad Z 10))]) dL_setRule_15 (by decide) rfl ?_
        refine v_iconst hC (v := 1) dL_setRule_17 (by decide) ?_
        exact v_iret hC hlk hrt (by decide) dL_setRule_18
    · rw [if_neg h0] at hF ⊢
      by_cases h1 : ex = 1
      · subst h1
        rw [if_pos rfl] at hF ⊢
        refine ⟨[⟨0, 12, 15, 25⟩], ⟨0, 12, 19, 13⟩, [], gEx 1, hT.trans rfl, fun z hz => ?_, rfl, by decide, cl_L_13, by decide, fun q9 => ?_⟩
        · simp only [List.mem_cons, List.not_mem_nil, or_false] at hz
          subst hz
          exact Or.inr ⟨by decide, gEx 0, cl_L_25, hN 1 0 (by decide) (by decide) (by decide)⟩
        · refine v_astore hC (lv1 := [(5, .ref q9), (0, .ref (zad Z 0)), (1, .int a1), (2, .int a2), (3, .int a3), (4, .ref (zad Z 10))]) dL_setRule_19 (by decide) rfl ?_
          refine v_iconst hC (v := 2) dL_setRule_21 (by decide) ?_
          exact v_iret hC hlk hrt (by decide) dL_setRule_22
      · rw [if_neg h1] at hF ⊢
        exact absurd rfl hF
  · have e0 : f_L_setRule M a1 a2 a3 = rRet 0 (gset M1 10 0 v) := by
      unfold f_L_setRule
      rw [hr]
      rfl
    rw [e0] at hF ⊢
    refine v_i2l hC dL_setRule_10 ?_
    refine v_last hC v rfl dL_setRule_11 ?_
    refine v_goto (tgt := 23) hC dL_setRule_12 (by decide) ?_
    refine v_iconst hC (v := 0) dL_setRule_23 (by decide) ?_
    exact v_iret hC hlk hrt (by decide) dL_setRule_24
def f_L_open (M : gM) (a1 : Int32) : gR := rc (f_X8_open M a1) (fun v M1 => rRet 0 (gset M1 10 0 v)) (fun ex M1 => if ex = 0 then rRet 1 M1 else if ex = 2 then rRet 2 M1 else rStuck)
abbrev rm_L_open : Room := { frames := 7, cells := 1, slots := 6, locals := 111 }
theorem mw_X8_open : Cond.instanceMethod yX8_open ∈ gWS ∧ Cond.selects RX8 yX8_open yX8_open ∈ gWS ∧ Cond.initialized RX8 ∈ gWS ∧ Cond.code yX8_open cX8_open 2 (some .int) ∈ gWS := ⟨gIx 562 (by decide +kernel) rfl, gIx 563 (by decide +kernel) rfl, gIx 75 (by decide +kernel) rfl, gIx 564 (by decide +kernel) rfl⟩
set_option maxRecDepth 20000 in
set_option maxHeartbeats 4000000 in
theorem c_L_open {l : Launch} (hfl : l.stackTraces = false) (Z : gZ) (M : gM) (a1 : Int32) : gMetL l yL_open cL_open 4 [(0, 9, 12, 25), (0, 9, 15, 15)] rm_L_open 1 Z M [.ref (zad Z 0), .int a1, .ref (zad Z 10)] (f_L_open M a1) := by
  refine v_enter (by decide) (Nat.le_of_ble_eq_true rfl) (fun hF p e s m args below meth c hC hN hlk hrt hT => ?_)
  refine v_lv0 (lv1 := [(0, .ref (zad Z 0)), (1, .int a1), (2, .ref (zad Z 10))]) rfl ?_
  refine v_aload_n hC 2 dL_open_0 rfl rfl ?_
  refine v_iconst hC (v := 0) dL_open_1 (by decide) ?_
  refine v_aload_n hC 0 dL_open_2 rfl rfl ?_
  refine v_iload_n hC 1 dL_open_3 rfl rfl ?_
  refine v_callHi (n := 1) hC [.int a1] 0 8 (by decide) rfl rfl (fun hne => c_X8_open hfl Z M a1 hne) (rc_ne hF) (gIx 561 (by decide +kernel) rfl) mw_X8_open.1 mw_X8_open.2.1 mw_X8_open.2.2.1 mw_X8_open.2.2.2 ⟨rfl, by decide, by decide, by decide +kernel⟩ rfl rfl ⟨by decide, by decide⟩ rfl rfl (Nat.le_of_ble_eq_true rfl) (by decide) (by decide) dL_open_4 (fun ex M1 hr => ?_) (fun v M1 hr => ?_)
  · have e0 : f_L_open M a1 = (if ex = 0 then rRet 1 M1 else if ex = 2 then rRet 2 M1 else rStuck) := by
      unfold f_L_open
      rw [hr]
      exact rc_thr _ _ _ _
    rw [e0] at hF ⊢
    by_cases h0 : ex = 0
    · subst h0
      rw [if_pos rfl] at hF ⊢
      refine ⟨[], ⟨0, 9, 12, 25⟩, [⟨0, 9, 15, 15⟩], gEx 0, hT.trans rfl, fun z hz => ?_, rfl, by decide, cl_L_25, by decide, fun q9 => ?_⟩
      · cases hz
      · refine v_astore_n hC (lv1 := [(3, .ref q9), (0, .ref (zad Z 0)), (1, .int a1), (2, .ref (zad Z 10))]) dL_open_12 rfl (by decide) rfl ?_
        refine v_iconst hC (v := 1) dL_open_13 (by decide) ?_
        exact v_iret hC hlk hrt (by decide) dL_open_14
    · rw [if_neg h0] at hF ⊢
      by_cases h1 : ex = 2
      · subst h1
        rw [if_pos rfl] at hF ⊢
        refine ⟨[⟨0, 9, 12, 25⟩], ⟨0, 9, 15, 15⟩, [], gEx 2, hT.trans rfl, fun z hz => ?_, rfl, by decide, cl_L_15, by decide, fun q9 => ?_⟩
        · simp only [List.mem_cons, List.not_mem_nil, or_false] at hz
          subst hz
          exact Or.inr ⟨by decide, gEx 0, cl_L_25, hN 2 0 (by decide) (by decide) (by decide)⟩
        · refine v_astore_n hC (lv1 := [(3, .ref q9), (0, .ref (zad Z 0)), (1, .int a1), (2, .ref (zad Z 10))]) dL_open_15 rfl (by decide) rfl ?_
          refine v_iconst hC (v := 2) dL_open_16 (by decide) ?_
          exact v_iret hC hlk hrt (by decide) dL_open_17
      · rw [if_neg h1] at hF ⊢
        exact absurd rfl hF
  · have e0 : f_L_open M a1 = rRet 0 (gset M1 10 0 v) := by
      unfold f_L_open
      rw [hr]
      rfl
    rw [e0] at hF ⊢
    refine v_i2l hC dL_open_7 ?_
    refine v_last hC v rfl dL_open_8 ?_
    refine v_goto (tgt := 18) hC dL_open_9 (by decide) ?_
    refine v_iconst hC (v := 0) dL_open_18 (by decide) ?_
    exact v_iret hC hlk hrt (by decide) dL_open_19
def f_L_join (M : gM) (a1 : Int32) (a2 : Int32) (a3 : Int32) : gR := rc (f_X8_join M a1 a2 a3) (fun v M1 => rRet 0 (gset M1 10 0 v)) (fun ex M1 => if ex = 0 then rRet 1 M1 else if ex = 2 then rRet 2 M1 else rStuck)
abbrev rm_L_join : Room := { frames := 8, cells := 4, slots := 24, locals := 134 }
theorem mw_X8_join : Cond.instanceMethod yX8_join ∈ gWS ∧ Cond.selects RX8 yX8_join yX8_join ∈ gWS ∧ Cond.initialized RX8 ∈ gWS ∧ Cond.code yX8_join cX8_join 4 (some .int) ∈ gWS := ⟨gIx 575 (by decide +kernel) rfl, gIx 576 (by decide +kernel) rfl, gIx 75 (by decide +kernel) rfl, gIx 577 (by decide +kernel) rfl⟩
set_option maxRecDepth 20000 in
set_option maxHeartbeats 4000000 in
theorem c_L_join {l : Launch} (hfl : l.stackTraces = false) (Z : gZ) (M : gM) (a1 : Int32) (a2 : Int32) (a3 : Int32) : gMetL l yL_join cL_join 6 [(0, 12, 15, 25), (0, 12, 19, 15)] rm_L_join 4 Z M [.ref (zad Z 0), .int a1, .int a2, .int a3, .ref (zad Z 10)] (f_L_join M a1 a2 a3) := by
  refine v_enter (by decide) (Nat.le_of_ble_eq_true rfl) (fun hF p e s m args below meth c hC hN hlk hrt hT => ?_)
  refine v_lv0 (lv1 := [(0, .ref (zad Z 0)), (1, .int a1), (2, .int a2), (3, .int a3), (4, .ref (zad Z 10))]) rfl ?_
  refine v_aload hC 4 dL_join_0 rfl ?_
  refine v_iconst hC (v := 0) dL_join_2 (by decide) ?_
  refine v_aload_n hC 0 dL_join_3 rfl rfl ?_
  refine v_iload_n hC 1 dL_join_4 rfl rfl ?_
  refine v_iload_n hC 2 dL_join_5 rfl rfl ?_
  refine v_iload_n hC 3 dL_join_6 rfl rfl ?_
  refine v_callHi (n := 3) hC [.int a1, .int a2, .int a3] 0 8 (by decide) rfl rfl (fun hne => c_X8_join hfl Z M a1 a2 a3 hne) (rc_ne hF) (gIx 574 (by decide +kernel) rfl) mw_X8_join.1 mw_X8_join.2.1 mw_X8_join.2.2.1 mw_X8_join.2.2.2 ⟨rfl, by decide, by decide, by decide +kernel⟩ rfl rfl ⟨by decide, by decide⟩ rfl rfl (Nat.le_of_ble_eq_true rfl) (by decide) (by decide) dL_join_7 (fun ex M1 hr => ?_) (fun v M1 hr => ?_)
  · have e0 : f_L_join M a1 a2 a3 = (if ex = 0 then rRet 1 M1 else if ex = 2 then rRet 2 M1 else rStuck) := by
      unfold f_L_join
      rw [hr]
      exact rc_thr _ _ _ _
    rw [e0] at hF ⊢
    by_cases h0 : ex = 0
    · subst h0
      rw [if_pos rfl] at hF ⊢
      refine ⟨[], ⟨0, 12, 15, 25⟩, [⟨0, 12, 19, 15⟩], gEx 0, hT.trans rfl, fun z hz => ?_, rfl, by decide, cl_L_25, by decide, fun q9 => ?_⟩
      · cases hz
      · refine v_astore hC (lv1 := [(5, .ref q9), (0, .ref (zad Z 0)), (1, .int a1), (2, .int a2), (3, .int a3), (4, .ref (zad Z 10))]) dL_join_15 (by decide) rfl ?_
        refine v_iconst hC (v := 1) dL_join_17 (by decide) ?_
        exact v_iret hC hlk hrt (by decide) dL_join_18
    · rw [if_neg h0] at hF ⊢
      by_cases h1 : ex = 2
      · subst h1
        rw [if_pos rfl] at hF ⊢
        refine ⟨[⟨0, 12, 15, 25⟩], ⟨0, 12, 19, 15⟩, [], gEx 2, hT.trans rfl, fun z hz => ?_, rfl, by decide, cl_L_15, by decide, fun q9 => ?_⟩
        · simp only [List.mem_cons, List.not_mem_nil, or_false] at hz
          subst hz
          exact Or.inr ⟨by decide, gEx 0, cl_L_25, hN 2 0 (by decide) (by decide) (by decide)⟩
        · refine v_astore hC (lv1 := [(5, .ref q9), (0, .ref (zad Z 0)), (1, .int a1), (2, .int a2), (3, .int a3), (4, .ref (zad Z 10))]) dL_join_19 (by decide) rfl ?_
          refine v_iconst hC (v := 2) dL_join_21 (by decide) ?_
          exact v_iret hC hlk hrt (by decide) dL_join_22
      · rw [if_neg h1] at hF ⊢
        exact absurd rfl hF
  · have e0 : f_L_join M a1 a2 a3 = rRet 0 (gset M1 10 0 v) := by
      unfold f_L_join
      rw [hr]
      rfl
    rw [e0] at hF ⊢
    refine v_i2l hC dL_join_10 ?_
    refine v_last hC v rfl dL_join_11 ?_
    refine v_goto (tgt := 23) hC dL_join_12 (by decide) ?_
    refine v_iconst hC (v := 0) dL_join_23 (by decide) ?_
    exact v_iret hC hlk hrt (by decide) dL_join_24
def f_L_lead (M : gM) (a1 : Int32) (a2 : Int32) : gR := rc (f_X8_lead M a1 a2) (fun v M1 => rRet 0 (gset M1 10 0 v)) (fun ex M1 => if ex = 0 then rRet 1 M1 else if ex = 2 then rRet 2 M1 else rStuck)
abbrev rm_L_lead : Room := { frames := 8, cells := 3, slots := 18, locals := 134 }
theorem mw_X8_lead : Cond.instanceMethod yX8_lead ∈ gWS ∧ Cond.selects RX8 yX8_lead yX8_lead ∈ gWS ∧ Cond.initialized RX8 ∈ gWS ∧ Cond.code yX8_lead cX8_lead 4 (some .int) ∈ gWS := ⟨gIx 606 (by decide +kernel) rfl, gIx 607 (by decide +kernel) rfl, gIx 75 (by decide +kernel) rfl, gIx 608 (by decide +kernel) rfl⟩
set_option maxRecDepth 20000 in
set_option maxHeartbeats 4000000 in
theorem c_L_lead {l : Launch} (hfl : l.stackTraces = false) (Z : gZ) (M : gM) (a1 : Int32) (a2 : Int32) : gMetL l yL_lead cL_lead 5 [(0, 10, 13, 25), (0, 10, 17, 15)] rm_L_lead 3 Z M [.ref (zad Z 0), .int a1, .int a2, .ref (zad Z 10)] (f_L_lead M a1 a2) := by
  refine v_enter (by decide) (Nat.le_of_ble_eq_true rfl) (fun hF p e s m args below meth c hC hN hlk hrt hT => ?_)
  refine v_lv0 (lv1 := [(0, .ref (zad Z 0)), (1, .int a1), (2, .int a2), (3, .ref (zad Z 10))]) rfl ?_
  refine v_aload_n hC 3 dL_lead_0 rfl rfl ?_
  refine v_iconst hC (v := 0) dL_lead_1 (by decide) ?_
  refine v_aload_n hC 0 dL_lead_2 rfl rfl ?_
  refine v_iload_n hC 1 dL_lead_3 rfl rfl ?_
  refine v_iload_n hC 2 dL_lead_4 rfl rfl ?_
  refine v_callHi (n := 2) hC [.int a1, .int a2] 0 8 (by decide) rfl rfl (fun hne => c_X8_lead hfl Z M a1 a2 hne) (rc_ne hF) (gIx 605 (by decide +kernel) rfl) mw_X8_lead.1 mw_X8_lead.2.1 mw_X8_lead.2.2.1 mw_X8_lead.2.2.2 ⟨rfl, by decide, by decide, by decide +kernel⟩ rfl rfl ⟨by decide, by decide⟩ rfl rfl (Nat.le_of_ble_eq_true rfl) (by decide) (by decide) dL_lead_5 (fun ex M1 hr => ?_) (fun v M1 hr => ?_)
  · have e0 : f_L_lead M a1 a2 = (if ex = 0 then rRet 1 M1 else if ex = 2 then rRet 2 M1 else rStuck) := by
      unfold f_L_lead
      rw [hr]
      exact rc_thr _ _ _ _
    rw [e0] at hF ⊢
    by_cases h0 : ex = 0
    · subst h0
      rw [if_pos rfl] at hF ⊢
      refine ⟨[], ⟨0, 10, 13, 25⟩, [⟨0, 10, 17, 15⟩], gEx 0, hT.trans rfl, fun z hz => ?_, rfl, by decide, cl_L_25, by decide, fun q9 => ?_⟩
      · cases hz
      · refine v_astore hC (lv1 := [(4, .ref q9), (0, .ref (zad Z 0)), (1, .int a1), (2, .int a2), (3, .ref (zad Z 10))]) dL_lead_13 (by decide) rfl ?_
        refine v_iconst hC (v := 1) dL_lead_15 (by decide) ?_
        exact v_iret hC hlk hrt (by decide) dL_lead_16
    · rw [if_neg h0] at hF ⊢
      by_cases h1 : ex = 2
      · subst h1
        rw [if_pos rfl] at hF ⊢
        refine ⟨[⟨0, 10, 13, 25⟩], ⟨0, 10, 17, 15⟩, [], gEx 2, hT.trans rfl, fun z hz => ?_, rfl, by decide, cl_L_15, by decide, fun q9 => ?_⟩
        · simp only [List.mem_cons, List.not_mem_nil, or_false] at hz
          subst hz
          exact Or.inr ⟨by decide, gEx 0, cl_L_25, hN 2 0 (by decide) (by decide) (by decide)⟩
        · refine v_astore hC (lv1 := [(4, .ref q9), (0, .ref (zad Z 0)), (1, .int a1), (2, .int a2), (3, .ref (zad Z 10))]) dL_lead_17 (by decide) rfl ?_
          refine v_iconst hC (v := 2) dL_lead_19 (by decide) ?_
          exact v_iret hC hlk hrt (by decide) dL_lead_20
      · rw [if_neg h1] at hF ⊢
        exact absurd rfl hF
  · have e0 : f_L_lead M a1 a2 = rRet 0 (gset M1 10 0 v) := by
      unfold f_L_lead
      rw [hr]
      rfl
    rw [e0] at hF ⊢
    refine v_i2l hC dL_lead_8 ?_
    refine v_last hC v rfl dL_lead_9 ?_
    refine v_goto (tgt := 21) hC dL_lead_10 (by decide) ?_
    refine v_iconst hC (v := 0) dL_lead_21 (by decide) ?_
    exact v_iret hC hlk hrt (by decide) dL_lead_22
def f_L_claim (M : gM) (a1 : Int32) (a2 : Int32) (a3 : Int32) (a4 : Int32) : gR := rc (f_X8_claim M a1 a2 a3 a4) (fun v M1 => rRet 0 (gset M1 10 0 v)) (fun ex M1 => if ex = 0 then rRet 1 M1 else if ex = 1 then rRet 2 M1 else if ex = 2 then rRet 3 M1 else rStuck)
abbrev rm_L_claim : Room := { frames := 8, cells := 5, slots := 30, locals := 136 }
theorem mw_X8_claim : Cond.instanceMethod yX8_claim ∈ gWS ∧ Cond.selects RX8 yX8_claim yX8_claim ∈ gWS ∧ Cond.initialized RX8 ∈ gWS ∧ Cond.code yX8_claim cX8_claim 5 (some .int) ∈ gWS := ⟨gIx 618 (by decide +kernel) rfl, gIx 619 (by decide +kernel) rfl, gIx 75 (by decide +kernel) rfl, gIx 620 (by decide +kernel) rfl⟩
set_option maxRecDepth 20000 in
set_option maxHeartbeats 4000000 in
theorem c_L_claim {l : Launch} (hfl : l.stackTraces = false) (Z : gZ) (M : gM) (a1 : Int32) (a2 : Int32) (a3 : Int32) (a4 : Int32) : gMetL l yL_claim cL_claim 7 [(0, 14, 17, 25), (0, 14, 21, 13), (0, 14, 25, 15)] rm_L_claim 5 Z M [.ref (zad Z 0), .int a1, .int a2, .int a3, .int a4, .ref (zad Z 10)] (f_L_claim M a1 a2 a3 a4) := by
  refine v_enter (by decide) (Nat.le_of_ble_eq_true rfl) (fun hF p e s m args below meth c hC hN hlk hrt hT => ?_)
  refine v_lv0 (lv1 := [(0, .ref (zad Z 0)), (1, .int a1), (2, .int a2), (3, .int a3), (4, .int a4), (5, .ref (zad Z 10))]) rfl ?_
  refine v_aload hC 5 dL_claim_0 rfl ?_
  refine v_iconst hC (v := 0) dL_claim_2 (by decide) ?_
  refine v_aload_n hC 0 dL_claim_3 rfl rfl ?_
  refine v_iload_n hC 1 dL_claim_4 rfl rfl ?_
  refine v_iload_n hC 2 dL_claim_5 rfl rfl ?_
  refine v_iload_n hC 3 dL_claim_6 rfl rfl ?_
  refine v_iload hC 4 dL_claim_7 rfl ?_
  refine v_callHi (n := 4) hC [.int a1, .int a2, .int a3, .int a4] 0 8 (by decide) rfl rfl (fun hne => c_X8_claim hfl Z M a1 a2 a3 a4 hne) (rc_ne hF) (gIx 617 (by decide +kernel) rfl) mw_X8_claim.1 mw_X8_claim.2.1 mw_X8_claim.2.2.1 mw_X8_claim.2.2.2 ⟨rfl, by decide, by decide, by decide +kernel⟩ rfl rfl ⟨by decide, by decide⟩ rfl rfl (Nat.le_of_ble_eq_true rfl) (by decide) (by decide) dL_claim_9 (fun ex M1 hr => ?_) (fun v M1 hr => ?_)
  · have e0 : f_L_claim M a1 a2 a3 a4 = (if ex = 0 then rRet 1 M1 else if ex = 1 then rRet 2 M1 else if ex = 2 then rRet 3 M1 else rStuck) := by
      unfold f_L_claim
      rw [hr]
      exact rc_thr _ _ _ _
    rw [e0] at hF ⊢
    by_cases h0 : ex = 0
    · subst h0
      rw [if_pos rfl] at hF ⊢
      refine ⟨[], ⟨0, 14, 17, 25⟩, [⟨0, 14, 21, 13⟩, ⟨0, 14, 25, 15⟩], gEx 0, hT.trans rfl, fun z hz => ?_, rfl, by decide, cl_L_25, by decide, fun q9 => ?_⟩
      · cases hz
      · refine v_astore hC (lv1 := [(6, .ref q9), (0, .ref (zad Z 0)), (1, .int a1), (2, .int a2), (3, .int a3), (4, .int a4), (5, .ref (zad Z 10))]) dL_claim_17 (by decide) rfl ?_
        refine v_iconst hC (v := 1) dL_claim_19 (by decide) ?_
        exact v_iret hC hlk hrt (by decide) dL_claim_20
    · rw [if_neg h0] at hF ⊢
      by_cases h1 : ex = 1
      · subst h1
        rw [if_pos rfl] at hF ⊢
        refine ⟨[⟨0, 14, 17, 25⟩], ⟨0, 14, 21, 13⟩, [⟨0, 14, 25, 15⟩], gEx 1, hT.trans rfl, fun z hz => ?_, rfl, by decide, cl_L_13, by decide, fun q9 => ?_⟩
        · simp only [List.mem_cons, List.not_mem_nil, or_false] at hz
          subst hz
          exact Or.inr ⟨by decide, gEx 0, cl_L_25, hN 1 0 (by decide) (by decide) (by decide)⟩
        · refine v_astore hC (lv1 := [(6, .ref q9), (0, .ref (zad Z 0)), (1, .int a1), (2, .int a2), (3, .int a3), (4, .int a4), (5, .ref (zad Z 10))]) dL_claim_21 (by decide) rfl ?_
          refine v_iconst hC (v := 2) dL_claim_23 (by decide) ?_
          exact v_iret hC hlk hrt (by decide) dL_claim_24
      · rw [if_neg h1] at hF ⊢
        by_cases h2 : ex = 2
        · subst h2
          rw [if_pos rfl] at hF ⊢
          refine ⟨[⟨0, 14, 17, 25⟩, ⟨0, 14, 21, 13⟩], ⟨0, 14, 25, 15⟩, [], gEx 2, hT.trans rfl, fun z hz => ?_, rfl, by decide, cl_L_15, by decide, fun q9 => ?_⟩
          · simp only [List.mem_cons, List.not_mem_nil, or_false] at hz
            rcases hz with hz | hz
            · subst hz
              exact Or.inr ⟨by decide, gEx 0, cl_L_25, hN 2 0 (by decide) (by decide) (by decide)⟩
            · subst hz
              exact Or.inr ⟨by decide, gEx 1, cl_L_13, hN 2 1 (by decide) (by decide) (by decide)⟩
          · refine v_astore hC (lv1 := [(6, .ref q9), (0, .ref (zad Z 0)), (1, .int a1), (2, .int a2), (3, .int a3), (4, .int a4), (5, .ref (zad Z 10))]) dL_claim_25 (by decide) rfl ?_
            refine v_iconst hC (v := 3) dL_claim_27 (by decide) ?_
            exact v_iret hC hlk hrt (by decide) dL_claim_28
        · rw [if_neg h2] at hF ⊢
          exact absurd rfl hF
  · have e0 : f_L_claim M a1 a2 a3 a4 = rRet 0 (gset M1 10 0 v) := by
      unfold f_L_claim
      rw [hr]
      rfl
    rw [e0] at hF ⊢
    refine v_i2l hC dL_claim_12 ?_
    refine v_last hC v rfl dL_claim_13 ?_
    refine v_goto (tgt := 29) hC dL_claim_14 (by decide) ?_
    refine v_iconst hC (v := 0) dL_claim_29 (by decide) ?_
    exact v_iret hC hlk hrt (by decide) dL_claim_30
def f_L_sever (M : gM) (a1 : Int32) : gR := rc (f_X8_sever M a1) (fun v M1 => rRet 0 (gset M1 10 0 v)) (fun ex M1 => if ex = 0 then rRet 1 M1 else if ex = 2 then rRet 2 M1 else rStuck)
abbrev rm_L_sever : Room := { frames := 8, cells := 2, slots := 12, locals := 136 }
theorem mw_X8_sever : Cond.instanceMethod yX8_sever ∈ gWS ∧ Cond.selects RX8 yX8_sever yX8_sever ∈ gWS ∧ Cond.initialized RX8 ∈ gWS ∧ Cond.code yX8_sever cX8_sever 6 (some .int) ∈ gWS := ⟨gIx 641 (by decide +kernel) rfl, gIx 642 (by decide +kernel) rfl, gIx 75 (by decide +kernel) rfl, gIx 643 (by decide +kernel) rfl⟩
set_option maxRecDepth 20000 in
set_option maxHeartbeats 4000000 in
theorem c_L_sever {l : Launch} (hfl : l.stackTraces = false) (Z : gZ) (M : gM) (a1 : Int32) : gMetL l yL_sever cL_sever 4 [(0, 9, 12, 25), (0, 9, 15, 15)] rm_L_sever 2 Z M [.ref (zad Z 0), .int a1, .ref (zad Z 10)] (f_L_sever M a1) := by
  refine v_enter (by decide) (Nat.le_of_ble_eq_true rfl) (fun hF p e s m args below meth c hC hN hlk hrt hT => ?_)
  refine v_lv0 (lv1 := [(0, .ref (zad Z 0)), (1, .int a1), (2, .ref (zad Z 10))]) rfl ?_
  refine v_aload_n hC 2 dL_sever_0 rfl rfl ?_
  refine v_iconst hC (v := 0) dL_sever_1 (by decide) ?_
  refine v_aload_n hC 0 dL_sever_2 rfl rfl ?_
  refine v_iload_n hC 1 dL_sever_3 rfl rfl ?_
  refine v_callHi (n := 1) hC [.int a1] 0 8 (by decide) rfl rfl (fun hne => c_X8_sever hfl Z M a1 hne) (rc_ne hF) (gIx 640 (by decide +kernel) rfl) mw_X8_sever.1 mw_X8_sever.2.1 mw_X8_sever.2.2.1 mw_X8_sever.2.2.2 ⟨rfl, by decide, by decide, by decide +kernel⟩ rfl rfl ⟨by decide, by decide⟩ rfl rfl (Nat.le_of_ble_eq_true rfl) (by decide) (by decide) dL_sever_4 (fun ex M1 hr => ?_) (fun v M1 hr => ?_)
  · have e0 : f_L_sever M a1 = (if ex = 0 then rRet 1 M1 else if ex = 2 then rRet 2 M1 else rStuck) := by
      unfold f_L_sever
      rw [hr]
      exact rc_thr _ _ _ _
    rw [e0] at hF ⊢
    by_cases h0 : ex = 0
    · subst h0
      rw [if_pos rfl] at hF ⊢
      refine ⟨[], ⟨0, 9, 12, 25⟩, [⟨0, 9, 15, 15⟩], gEx 0, hT.trans rfl, fun z hz => ?_, rfl, by decide, cl_L_25, by decide, fun q9 => ?_⟩
      · cases hz
      · refine v_astore_n hC (lv1 := [(3, .ref q9), (0, .ref (zad Z 0)), (1, .int a1), (2, .ref (zad Z 10))]) dL_sever_12 rfl (by decide) rfl ?_
        refine v_iconst hC (v := 1) dL_sever_13 (by decide) ?_
        exact v_iret hC hlk hrt (by decide) dL_sever_14
    · rw [if_neg h0] at hF ⊢
      by_cases h1 : ex = 2
      · subst h1
        rw [if_pos rfl] at hF ⊢
        refine ⟨[⟨0, 9, 12, 25⟩], ⟨0, 9, 15, 15⟩, [], gEx 2, hT.trans rfl, fun z hz => ?_, rfl, by decide, cl_L_15, by decide, fun q9 => ?_⟩
        · simp only [List.mem_cons, List.not_mem_nil, or_false] at hz
          subst hz
          exact Or.inr ⟨by decide, gEx 0, cl_L_25, hN 2 0 (by decide) (by decide) (by decide)⟩
        · refine v_astore_n hC (lv1 := [(3, .ref q9), (0, .ref (zad Z 0)), (1, .int a1), (2, .ref (zad Z 10))]) dL_sever_15 rfl (by decide) rfl ?_
          refine v_iconst hC (v := 2) dL_sever_16 (by decide) ?_
          exact v_iret hC hlk hrt (by decide) dL_sever_17
      · rw [if_neg h1] at hF ⊢
        exact absurd rfl hF
  · have e0 : f_L_sever M a1 = rRet 0 (gset M1 10 0 v) := by
      unfold f_L_sever
      rw [hr]
      rfl
    rw [e0] at hF ⊢
    refine v_i2l hC dL_sever_7 ?_
    refine v_last hC v rfl dL_sever_8 ?_
    refine v_goto (tgt := 18) hC dL_sever_9 (by decide) ?_
    refine v_iconst hC (v := 0) dL_sever_18 (by decide) ?_
    exact v_iret hC hlk hrt (by decide) dL_sever_19
def f_L_serve (M : gM) (a1 : Int32) (a2 : Int32) : gR := rc (f_X8_serve M a1 a2) (fun v M1 => rRet 0 (gset M1 10 0 v)) (fun ex M1 => if ex = 0 then rRet 1 M1 else if ex = 2 then rRet 2 M1 else rStuck)
abbrev rm_L_serve : Room := { frames := 8, cells := 2, slots := 12, locals := 134 }
theorem mw_X8_serve : Cond.instanceMethod yX8_serve ∈ gWS ∧ Cond.selects RX8 yX8_serve yX8_serve ∈ gWS ∧ Cond.initialized RX8 ∈ gWS ∧ Cond.code yX8_serve cX8_serve 4 (some .int) ∈ gWS := ⟨gIx 658 (by decide +kernel) rfl, gIx 659 (by decide +kernel) rfl, gIx 75 (by decide +kernel) rfl, gIx 660 (by decide +kernel) rfl⟩
set_option maxRecDepth 20000 in
set_option maxHeartbeats 4000000 in
theorem c_L_serve {l : Launch} (hfl : l.stackTraces = false) (Z : gZ) (M : gM) (a1 : Int32) (a2 : Int32) : gMetL l yL_serve cL_serve 5 [(0, 10, 13, 25), (0, 10, 17, 15)] rm_L_serve 2 Z M [.ref (zad Z 0), .int a1, .int a2, .ref (zad Z 10)] (f_L_serve M a1 a2) := by
  refine v_enter (by decide) (Nat.le_of_ble_eq_true rfl) (fun hF p e s m args below meth c hC hN hlk hrt hT => ?_)
  refine v_lv0 (lv1 := [(0, .ref (zad Z 0)), (1, .int a1), (2, .int a2), (3, .ref (zad Z 10))]) rfl ?_
  refine v_aload_n hC 3 dL_serve_0 rfl rfl ?_
  refine v_iconst hC (v := 0) dL_serve_1 (by decide) ?_
  refine v_aload_n hC 0 dL_serve_2 rfl rfl ?_
  refine v_iload_n hC 1 dL_serve_3 rfl rfl ?_
  refine v_iload_n hC 2 dL_serve_4 rfl rfl ?_
  refine v_callHi (n := 2) hC [.int a1, .int a2] 0 8 (by decide) rfl rfl (fun hne => c_X8_serve hfl Z M a1 a2 hne) (rc_ne hF) (gIx 657 (by decide +kernel) rfl) mw_X8_serve.1 mw_X8_serve.2.1 mw_X8_serve.2.2.1 mw_X8_serve.2.2.2 ⟨rfl, by decide, by decide, by decide +kernel⟩ rfl rfl ⟨by decide, by decide⟩ rfl rfl (Nat.le_of_ble_eq_true rfl) (by decide) (by decide) dL_serve_5 (fun ex M1 hr => ?_) (fun v M1 hr => ?_)
  · have e0 : f_L_serve M a1 a2 = (if ex = 0 then rRet 1 M1 else if ex = 2 then rRet 2 M1 else rStuck) := by
      unfold f_L_serve
      rw [hr]
      exact rc_thr _ _ _ _
    rw [e0] at hF ⊢
    by_cases h0 : ex = 0
    · subst h0
      rw [if_pos rfl] at hF ⊢
      refine ⟨[], ⟨0, 10, 13, 25⟩, [⟨0, 10, 17, 15⟩], gEx 0, hT.trans rfl, fun z hz => ?_, rfl, by decide, cl_L_25, by decide, fun q9 => ?_⟩
      · cases hz
      · refine v_astore hC (lv1 := [(4, .ref q9), (0, .ref (zad Z 0)), (1, .int a1), (2, .int a2), (3, .ref (zad Z 10))]) dL_serve_13 (by decide) rfl ?_
        refine v_iconst hC (v := 1) dL_serve_15 (by decide) ?_
        exact v_iret hC hlk hrt (by decide) dL_serve_16
    · rw [if_neg h0] at hF ⊢
      by_cases h1 : ex = 2
      · subst h1
        rw [if_pos rfl] at hF ⊢
        refine ⟨[⟨0, 10, 13, 25⟩], ⟨0, 10, 17, 15⟩, [], gEx 2, hT.trans rfl, fun z hz => ?_, rfl, by decide, cl_L_15, by decide, fun q9 => ?_⟩
        · simp only [List.mem_cons, List.not_mem_nil, or_false] at hz
          subst hz
          exact Or.inr ⟨by decide, gEx 0, cl_L_25, hN 2 0 (by decide) (by decide) (by decide)⟩
        · refine v_astore hC (lv1 := [(4, .ref q9), (0, .ref (zad Z 0)), (1, .int a1), (2, .int a2), (3, .ref (zad Z 10))]) dL_serve_17 (by decide) rfl ?_
          refine v_iconst hC (v := 2) dL_serve_19 (by decide) ?_
          exact v_iret hC hlk hrt (by decide) dL_serve_20
      · rw [if_neg h1] at hF ⊢
        exact absurd rfl hF
  · have e0 : f_L_serve M a1 a2 = rRet 0 (gset M1 10 0 v) := by
      unfold f_L_serve
      rw [hr]
      rfl
    rw [e0] at hF ⊢
    refine v_i2l hC dL_serve_8 ?_
    refine v_last hC v rfl dL_serve_9 ?_
    refine v_goto (tgt := 21) hC dL_serve_10 (by decide) ?_
    refine v_iconst hC (v := 0) dL_serve_21 (by decide) ?_
    exact v_iret hC hlk hrt (by decide) dL_serve_22
def f_L_answer (M : gM) (a1 : Int32) : gR := rc (f_X8_answer M a1) (fun v M1 => rRet 0 (gset M1 10 0 v)) (fun ex M1 => if ex = 0 then rRet 1 M1 else if ex = 2 then rRet 2 M1 else rStuck)
abbrev rm_L_answer : Room := { frames := 8, cells := 2, slots := 12, locals := 155 }
theorem mw_X8_answer : Cond.instanceMethod yX8_answer ∈ gWS ∧ Cond.selects RX8 yX8_answer yX8_answer ∈ gWS ∧ Cond.initialized RX8 ∈ gWS ∧ Cond.code yX8_answer cX8_answer 2 (some .int) ∈ gWS := ⟨gIx 692 (by decide +kernel) rfl, gIx 693 (by decide +kernel) rfl, gIx 75 (by decide +kernel) rfl, gIx 694 (by decide +kernel) rfl⟩
set_option maxRecDepth 20000 in
set_option maxHeartbeats 4000000 in
theorem c_L_answer {l : Launch} (hfl : l.stackTraces = false) (Z : gZ) (M : gM) (a1 : Int32) : gMetL l yL_answer cL_answer 4 [(0, 9, 12, 25), (0, 9, 15, 15)] rm_L_answer 2 Z M [.ref (zad Z 0), .int a1, .ref (zad Z 10)] (f_L_answer M a1) := by
  refine v_enter (by decide) (Nat.le_of_ble_eq_true rfl) (fun hF p e s m args below meth c hC hN hlk hrt hT => ?_)
  refine v_lv0 (lv1 := [(0, .ref (zad Z 0)), (1, .int a1), (2, .ref (zad Z 10))]) rfl ?_
  refine v_aload_n hC 2 dL_answer_0 rfl rfl ?_
  refine v_iconst hC (v := 0) dL_answer_1 (by decide) ?_
  refine v_aload_n hC 0 dL_answer_2 rfl rfl ?_
  refine v_iload_n hC 1 dL_answer_3 rfl rfl ?_
  refine v_callHi (n := 1) hC [.int a1] 0 8 (by decide) rfl rfl (fun hne => c_X8_answer hfl Z M a1 hne) (rc_ne hF) (gIx 691 (by decide +kernel) rfl) mw_X8_answer.1 mw_X8_answer.2.1 mw_X8_answer.2.2.1 mw_X8_answer.2.2.2 ⟨rfl, by decide, by decide, by decide +kernel⟩ rfl rfl ⟨by decide, by decide⟩ rfl rfl (Nat.le_of_ble_eq_true rfl) (by decide) (by decide) dL_answer_4 (fun ex M1 hr => ?_) (fun v M1 hr => ?_)
  · have e0 : f_L_answer M a1 = (if ex = 0 then rRet 1 M1 else if ex = 2 then rRet 2 M1 else rStuck) := by
      unfold f_L_answer
      rw [hr]
      exact rc_thr _ _ _ _
    rw [e0] at hF ⊢
    by_cases h0 : ex = 0
    · subst h0
      rw [if_pos rfl] at hF ⊢
      refine ⟨[], ⟨0, 9, 12, 25⟩, [⟨0, 9, 15, 15⟩], gEx 0, hT.trans rfl, fun z hz => ?_, rfl, by decide, cl_L_25, by decide, fun q9 => ?_⟩
      · cases hz
      · refine v_astore_n hC (lv1 := [(3, .ref q9), (0, .ref (zad Z 0)), (1, .int a1), (2, .ref (zad Z 10))]) dL_answer_12 rfl (by decide) rfl ?_
        refine v_iconst hC (v := 1) dL_answer_13 (by decide) ?_
        exact v_iret hC hlk hrt (by decide) dL_answer_14
    · rw [if_neg h0] at hF ⊢
      by_cases h1 : ex = 2
      · subst h1
        rw [if_pos rfl] at hF ⊢
        refine ⟨[⟨0, 9, 12, 25⟩], ⟨0, 9, 15, 15⟩, [], gEx 2, hT.trans rfl, fun z hz => ?_, rfl, by decide, cl_L_15, by decide, fun q9 => ?_⟩
        · simp only [List.mem_cons, List.not_mem_nil, or_false] at hz
          subst hz
          exact Or.inr ⟨by decide, gEx 0, cl_L_25, hN 2 0 (by decide) (by decide) (by decide)⟩
        · refine v_astore_n hC (lv1 := [(3, .ref q9), (0, .ref (zad Z 0)), (1, .int a1), (2, .ref (zad Z 10))]) dL_answer_15 rfl (by decide) rfl ?_
          refine v_iconst hC (v := 2) dL_answer_16 (by decide) ?_
          exact v_iret hC hlk hrt (by decide) dL_answer_17
      · rw [if_neg h1] at hF ⊢
        exact absurd rfl hF
  · have e0 : f_L_answer M a1 = rRet 0 (gset M1 10 0 v) := by
      unfold f_L_answer
      rw [hr]
      rfl
    rw [e0] at hF ⊢
    refine v_i2l hC dL_answer_7 ?_
    refine v_last hC v rfl dL_answer_8 ?_
    refine v_goto (tgt := 18) hC dL_answer_9 (by decide) ?_
    refine v_iconst hC (v := 0) dL_answer_18 (by decide) ?_
    exact v_iret hC hlk hrt (by decide) dL_answer_19
def f_L_motion (M : gM) (a1 : Int32) : gR := rc (f_X8_motion M a1) (fun v M1 => rRet 0 (gset M1 10 0 v)) (fun ex M1 => if ex = 0 then rRet 1 M1 else if ex = 2 then rRet 2 M1 else rStuck)
abbrev rm_L_motion : Room := { frames := 8, cells := 2, slots := 12, locals := 155 }
theorem mw_X8_motion : Cond.instanceMethod yX8_motion ∈ gWS ∧ Cond.selects RX8 yX8_motion yX8_motion ∈ gWS ∧ Cond.initialized RX8 ∈ gWS ∧ Cond.code yX8_motion cX8_motion 2 (some .int) ∈ gWS := ⟨gIx 763 (by decide +kernel) rfl, gIx 764 (by decide +kernel) rfl, gIx 75 (by decide +kernel) rfl, gIx 765 (by decide +kernel) rfl⟩
set_option maxRecDepth 20000 in
set_option maxHeartbeats 4000000 in
theorem c_L_motion {l : Launch} (hfl : l.stackTraces = false) (Z : gZ) (M : gM) (a1 : Int32) : gMetL l yL_motion cL_motion 4 [(0, 9, 12, 25), (0, 9, 15, 15)] rm_L_motion 2 Z M [.ref (zad Z 0), .int a1, .ref (zad Z 10)] (f_L_motion M a1) := by
  refine v_enter (by decide) (Nat.le_of_ble_eq_true rfl) (fun hF p e s m args below meth c hC hN hlk hrt hT => ?_)
  refine v_lv0 (lv1 := [(0, .ref (zad Z 0)), (1, .int a1), (2, .ref (zad Z 10))]) rfl ?_
  refine v_aload_n hC 2 dL_motion_0 rfl rfl ?_
  refine v_iconst hC (v := 0) dL_motion_1 (by decide) ?_
  refine v_aload_n hC 0 dL_motion_2 rfl rfl ?_
  refine v_iload_n hC 1 dL_motion_3 rfl rfl ?_
  refine v_callHi (n := 1) hC [.int a1] 0 8 (by decide) rfl rfl (fun hne => c_X8_motion hfl Z M a1 hne) (rc_ne hF) (gIx 762 (by decide +kernel) rfl) mw_X8_motion.1 mw_X8_motion.2.1 mw_X8_motion.2.2.1 mw_X8_motion.2.2.2 ⟨rfl, by decide, by decide, by decide +kernel⟩ rfl rfl ⟨by decide, by decide⟩ rfl rfl (Nat.le_of_ble_eq_true rfl) (by decide) (by decide) dL_motion_4 (fun ex M1 hr => ?_) (fun v M1 hr => ?_)
  · have e0 : f_L_motion M a1 = (if ex = 0 then rRet 1 M1 else if ex = 2 then rRet 2 M1 else rStuck) := by
      unfold f_L_motion
      rw [hr]
      exact rc_thr _ _ _ _
    rw [e0] at hF ⊢
    by_cases h0 : ex = 0
    · subst h0
      rw [if_pos rfl] at hF ⊢
      refine ⟨[], ⟨0, 9, 12, 25⟩, [⟨0, 9, 15, 15⟩], gEx 0, hT.trans rfl, fun z hz => ?_, rfl, by decide, cl_L_25, by decide, fun q9 => ?_⟩
      · cases hz
      · refine v_astore_n hC (lv1 := [(3, .ref q9), (0, .ref (zad Z 0)), (1, .int a1), (2, .ref (zad Z 10))]) dL_motion_12 rfl (by decide) rfl ?_
        refine v_iconst hC (v := 1) dL_motion_13 (by decide) ?_
        exact v_iret hC hlk hrt (by decide) dL_motion_14
    · rw [if_neg h0] at hF ⊢
      by_cases h1 : ex = 2
      · subst h1
        rw [if_pos rfl] at hF ⊢
        refine ⟨[⟨0, 9, 12, 25⟩], ⟨0, 9, 15, 15⟩, [], gEx 2, hT.trans rfl, fun z hz => ?_, rfl, by decide, cl_L_15, by decide, fun q9 => ?_⟩
        · simp only [List.mem_cons, List.not_mem_nil, or_false] at hz
          subst hz
          exact Or.inr ⟨by decide, gEx 0, cl_L_25, hN 2 0 (by decide) (by decide) (by decide)⟩
        · refine v_astore_n hC (lv1 := [(3, .ref q9), (0, .ref (zad Z 0)), (1, .int a1), (2, .ref (zad Z 10))]) dL_motion_15 rfl (by decide) rfl ?_
          refine v_iconst hC (v := 2) dL_motion_16 (by decide) ?_
          exact v_iret hC hlk hrt (by decide) dL_motion_17
      · rw [if_neg h1] at hF ⊢
        exact absurd rfl hF
  · have e0 : f_L_motion M a1 = rRet 0 (gset M1 10 0 v) := by
      unfold f_L_motion
      rw [hr]
      rfl
    rw [e0] at hF ⊢
    refine v_i2l hC dL_motion_7 ?_
    refine v_last hC v rfl dL_motion_8 ?_
    refine v_goto (tgt := 18) hC dL_motion_9 (by decide) ?_
    refine v_iconst hC (v := 0) dL_motion_18 (by decide) ?_
    exact v_iret hC hlk hrt (by decide) dL_motion_19
def f_L_respond (M : gM) (a1 : Int32) : gR := rc (f_X8_respond M a1) (fun v M1 => rRet 0 (gset M1 10 0 v)) (fun ex M1 => if ex = 0 then rRet 1 M1 else if ex = 2 then rRet 2 M1 else rStuck)
abbrev rm_L_respond : Room := { frames := 9, cells := 3, slots := 18, locals := 153 }
theorem mw_X8_respond : Cond.instanceMethod yX8_respond ∈ gWS ∧ Cond.selects RX8 yX8_respond yX8_respond ∈ gWS ∧ Cond.initialized RX8 ∈ gWS ∧ Cond.code yX8_respond cX8_respond 2 (some .int) ∈ gWS := ⟨gIx 770 (by decide +kernel) rfl, gIx 771 (by decide +kernel) rfl, gIx 75 (by decide +kernel) rfl, gIx 772 (by decide +kernel) rfl⟩
set_option maxRecDepth 20000 in
set_option maxHeartbeats 4000000 in
theorem c_L_respond {l : Launch} (hfl : l.stackTraces = false) (Z : gZ) (M : gM) (a1 : Int32) : gMetL l yL_respond cL_respond 4 [(0, 9, 12, 25), (0, 9, 15, 15)] rm_L_respond 3 Z M [.ref (zad Z 0), .int a1, .ref (zad Z 10)] (f_L_respond M a1) := by
  refine v_enter (by decide) (Nat.le_of_ble_eq_true rfl) (fun hF p e s m args below meth c hC hN hlk hrt hT => ?_)
  refine v_lv0 (lv1 := [(0, .ref (zad Z 0)), (1, .int a1), (2, .ref (zad Z 10))]) rfl ?_
  refine v_aload_n hC 2 dL_respond_0 rfl rfl ?_
  refine v_iconst hC (v := 0) dL_respond_1 (by decide) ?_
  refine v_aload_n hC 0 dL_respond_2 rfl rfl ?_
  refine v_iload_n hC 1 dL_respond_3 rfl rfl ?_
  refine v_callHi (n := 1) hC [.int a1] 0 8 (by decide) rfl rfl (fun hne => c_X8_respond hfl Z M a1 hne) (rc_ne hF) (gIx 769 (by decide +kernel) rfl) mw_X8_respond.1 mw_X8_respond.2.1 mw_X8_respond.2.2.1 mw_X8_respond.2.2.2 ⟨rfl, by decide, by decide, by decide +kernel⟩ rfl rfl ⟨by decide, by decide⟩ rfl rfl (Nat.le_of_ble_eq_true rfl) (by decide) (by decide) dL_respond_4 (fun ex M1 hr => ?_) (fun v M1 hr => ?_)
  · have e0 : f_L_respond M a1 = (if ex = 0 then rRet 1 M1 else if ex = 2 then rRet 2 M1 else rStuck) := by
      unfold f_L_respond
      rw [hr]
      exact rc_thr _ _ _ _
    rw [e0] at hF ⊢
    by_cases h0 : ex = 0
    · subst h0
      rw [if_pos rfl] at hF ⊢
      refine ⟨[], ⟨0, 9, 12, 25⟩, [⟨0, 9, 15, 15⟩], gEx 0, hT.trans rfl, fun z hz => ?_, rfl, by decide, cl_L_25, by decide, fun q9 => ?_⟩
      · cases hz
      · refine v_astore_n hC (lv1 := [(3, .ref q9), (0, .ref (zad Z 0)), (1, .int a1), (2, .ref (zad Z 10))]) dL_respond_12 rfl (by decide) rfl ?_
        refine v_iconst hC (v := 1) dL_respond_13 (by decide) ?_
        exact v_iret hC hlk hrt (by decide) dL_respond_14
    · rw [if_neg h0] at hF ⊢
      by_cases h1 : ex = 2
      · subst h1
        rw [if_pos rfl] at hF ⊢
        refine ⟨[⟨0, 9, 12, 25⟩], ⟨0, 9, 15, 15⟩, [], gEx 2, hT.trans rfl, fun z hz => ?_, rfl, by decide, cl_L_15, by decide, fun q9 => ?_⟩
        · simp only [List.mem_cons, List.not_mem_nil, or_false] at hz
          subst hz
          exact Or.inr ⟨by decide, gEx 0, cl_L_25, hN 2 0 (by decide) (by decide) (by decide)⟩
        · refine v_astore_n hC (lv1 := [(3, .ref q9), (0, .ref (zad Z 0)), (1, .int a1), (2, .ref (zad Z 10))]) dL_respond_15 rfl (by decide) rfl ?_
          refine v_iconst hC (v := 2) dL_respond_16 (by decide) ?_
          exact v_iret hC hlk hrt (by decide) dL_respond_17
      · rw [if_neg h1] at hF ⊢
        exact absurd rfl hF
  · have e0 : f_L_respond M a1 = rRet 0 (gset M1 10 0 v) := by
      unfold f_L_respond
      rw [hr]
      rfl
    rw [e0] at hF ⊢
    refine v_i2l hC dL_respond_7 ?_
    refine v_last hC v rfl dL_respond_8 ?_
    refine v_goto (tgt := 18) hC dL_respond_9 (by decide) ?_
    refine v_iconst hC (v := 0) dL_respond_18 (by decide) ?_
    exact v_iret hC hlk hrt (by decide) dL_respond_19
def f_L_ruling (M : gM) (a1 : Int32) (a2 : Int32) : gR := rc (f_X8_ruling M a1 a2) (fun v M1 => rRet 0 (gset M1 10 0 v)) (fun ex M1 => if ex = 0 then rRet 1 M1 else if ex = 1 then rRet 2 M1 else if ex = 2 then rRet 3 M1 else rStuck)
abbrev rm_L_ruling : Room := { frames := 9, cells := 3, slots := 18, locals := 156 }
theorem mw_X8_ruling : Cond.instanceMethod yX8_ruling ∈ gWS ∧ Cond.selects RX8 yX8_ruling yX8_ruling ∈ gWS ∧ Cond.initialized RX8 ∈ gWS ∧ Cond.code yX8_ruling cX8_ruling 5 (some .int) ∈ gWS := ⟨gIx 791 (by decide +kernel) rfl, gIx 792 (by decide +kernel) rfl, gIx 75 (by decide +kernel) rfl, gIx 793 (by decide +kernel) rfl⟩
set_option maxRecDepth 20000 in
set_option maxHeartbeats 4000000 in
theorem c_L_ruling {l : Launch} (hfl : l.stackTraces = false) (Z : gZ) (M : gM) (a1 : Int32) (a2 : Int32) : gMetL l yL_ruling cL_ruling 5 [(0, 10, 13, 25), (0, 10, 17, 13), (0, 10, 21, 15)] rm_L_ruling 3 Z M [.ref (zad Z 0), .int a1, .int a2, .ref (zad Z 10)] (f_L_ruling M a1 a2) := by
  refine v_enter (by decide) (Nat.le_of_ble_eq_true rfl) (fun hF p e s m args below meth c hC hN hlk hrt hT => ?_)
  refine v_lv0 (lv1 := [(0, .ref (zad Z 0)), (1, .int a1), (2, .int a2), (3, .ref (zad Z 10))]) rfl ?_
  refine v_aload_n hC 3 dL_ruling_0 rfl rfl ?_
  refine v_iconst hC (v := 0) dL_ruling_1 (by decide) ?_
  refine v_aload_n hC 0 dL_ruling_2 rfl rfl ?_
  refine v_iload_n hC 1 dL_ruling_3 rfl rfl ?_
  refine v_iload_n hC 2 dL_ruling_4 rfl rfl ?_
  refine v_callHi (n := 2) hC [.int a1, .int a2] 0 8 (by decide) rfl rfl (fun hne => c_X8_ruling hfl Z M a1 a2 hne) (rc_ne hF) (gIx 790 (by decide +kernel) rfl) mw_X8_ruling.1 mw_X8_ruling.2.1 mw_X8_ruling.2.2.1 mw_X8_ruling.2.2.2 ⟨rfl, by decide, by decide, by decide +kernel⟩ rfl rfl ⟨by decide, by decide⟩ rfl rfl (Nat.le_of_ble_eq_true rfl) (by decide) (by decide) dL_ruling_5 (fun ex M1 hr => ?_) (fun v M1 hr => ?_)
  · have e0 : f_L_ruling M a1 a2 = (if ex = 0 then rRet 1 M1 else if ex = 1 then rRet 2 M1 else if ex = 2 then rRet 3 M1 else rStuck) := by
      unfold f_L_ruling
      rw [hr]
      exact rc_thr _ _ _ _
    rw [e0] at hF ⊢
    by_cases h0 : ex = 0
    · subst h0
      rw [if_pos rfl] at hF ⊢
      refine ⟨[], ⟨0, 10, 13, 25⟩, [⟨0, 10, 17, 13⟩, ⟨0, 10, 21, 15⟩], gEx 0, hT.trans rfl, fun z hz => ?_, rfl, by decide, cl_L_25, by decide, fun q9 => ?_⟩
      · cases hz
      · refine v_astore hC (lv1 := [(4, .ref q9), (0, .ref (zad Z 0)), (1, .int a1), (2, .int a2), (3, .ref (zad Z 10))]) dL_ruling_13 (by decide) rfl ?_
        refine v_iconst hC (v := 1) dL_ruling_15 (by decide) ?_
        exact v_iret hC hlk hrt (by decide) dL_ruling_16
    · rw [if_neg h0] at hF ⊢
      by_cases h1 : ex = 1
      · subst h1
        rw [if_pos rfl] at hF ⊢
        refine ⟨[⟨0, 10, 13, 25⟩], ⟨0, 10, 17, 13⟩, [⟨0, 10, 21, 15⟩], gEx 1, hT.trans rfl, fun z hz => ?_, rfl, by decide, cl_L_13, by decide, fun q9 => ?_⟩
        · simp only [List.mem_cons, List.not_mem_nil, or_false] at hz
          subst hz
          exact Or.inr ⟨by decide, gEx 0, cl_L_25, hN 1 0 (by decide) (by decide) (by decide)⟩
        · refine v_astore hC (lv1 := [(4, .ref q9), (0, .ref (zad Z 0)), (1, .int a1), (2, .int a2), (3, .ref (zad Z 10))]) dL_ruling_17 (by decide) rfl ?_
          refine v_iconst hC (v := 2) dL_ruling_19 (by decide) ?_
          exact v_iret hC hlk hrt (by decide) dL_ruling_20
      · rw [if_neg h1] at hF ⊢
        by_cases h2 : ex = 2
        · subst h2
          rw [if_pos rfl] at hF ⊢
          refine ⟨[⟨0, 10, 13, 25⟩, ⟨0, 10, 17, 13⟩], ⟨0, 10, 21, 15⟩, [], gEx 2, hT.trans rfl, fun z hz => ?_, rfl, by decide, cl_L_15, by decide, fun q9 => ?_⟩
          · simp only [List.mem_cons, List.not_mem_nil, or_false] at hz
            rcases hz with hz | hz
            · subst hz
              exact Or.inr ⟨by decide, gEx 0, cl_L_25, hN 2 0 (by decide) (by decide) (by decide)⟩
            · subst hz
              exact Or.inr ⟨by decide, gEx 1, cl_L_13, hN 2 1 (by decide) (by decide) (by decide)⟩
          · refine v_astore hC (lv1 := [(4, .ref q9), (0, .ref (zad Z 0)), (1, .int a1), (2, .int a2), (3, .ref (zad Z 10))]) dL_ruling_21 (by decide) rfl ?_
            refine v_iconst hC (v := 3) dL_ruling_23 (by decide) ?_
            exact v_iret hC hlk hrt (by decide) dL_ruling_24
        · rw [if_neg h2] at hF ⊢
          exact absurd rfl hF
  · have e0 : f_L_ruling M a1 a2 = rRet 0 (gset M1 10 0 v) := by
      unfold f_L_ruling
      rw [hr]
      rfl
    rw [e0] at hF ⊢
    refine v_i2l hC dL_ruling_8 ?_
    refine v_last hC v rfl dL_ruling_9 ?_
    refine v_goto (tgt := 25) hC dL_ruling_10 (by decide) ?_
    refine v_iconst hC (v := 0) dL_ruling_25 (by decide) ?_
    exact v_iret hC hlk hrt (by decide) dL_ruling_26
def f_L_judge (M : gM) (a1 : Int32) (a2 : Int32) : gR := rc (f_X8_judge M a1 a2) (fun v M1 => rRet 0 (gset M1 10 0 v)) (fun ex M1 => if ex = 0 then rRet 1 M1 else if ex = 1 then rRet 2 M1 else if ex = 2 then rRet 3 M1 else rStuck)
abbrev rm_L_judge : Room := { frames := 8, cells := 2, slots := 12, locals := 159 }
theorem mw_X8_judge : Cond.instanceMethod yX8_judge ∈ gWS ∧ Cond.selects RX8 yX8_judge yX8_judge ∈ gWS ∧ Cond.initialized RX8 ∈ gWS ∧ Cond.code yX8_judge cX8_judge 6 (some .int) ∈ gWS := ⟨gIx 798 (by decide +kernel) rfl, gIx 799 (by decide +kernel) rfl, gIx 75 (by decide +kernel) rfl, gIx 800 (by decide +kernel) rfl⟩
set_option maxRecDepth 20000 in
set_option maxHeartbeats 4000000 in
theorem c_L_judge {l : Launch} (hfl : l.stackTraces = false) (Z : gZ) (M : gM) (a1 : Int32) (a2 : Int32) : gMetL l yL_judge cL_judge 5 [(0, 10, 13, 25), (0, 10, 17, 13), (0, 10, 21, 15)] rm_L_judge 2 Z M [.ref (zad Z 0), .int a1, .int a2, .ref (zad Z 10)] (f_L_judge M a1 a2) := by
  refine v_enter (by decide) (Nat.le_of_ble_eq_true rfl) (fun hF p e s m args below meth c hC hN hlk hrt hT => ?_)
  refine v_lv0 (lv1 := [(0, .ref (zad Z 0)), (1, .int a1), (2, .int a2), (3, .ref (zad Z 10))]) rfl ?_
  refine v_aload_n hC 3 dL_judge_0 rfl rfl ?_
  refine v_iconst hC (v := 0) dL_judge_1 (by decide) ?_
  refine v_aload_n hC 0 dL_judge_2 rfl rfl ?_
  refine v_iload_n hC 1 dL_judge_3 rfl rfl ?_
  refine v_iload_n hC 2 dL_judge_4 rfl rfl ?_
  refine v_callHi (n := 2) hC [.int a1, .int a2] 0 8 (by decide) rfl rfl (fun hne => c_X8_judge hfl Z M a1 a2 hne) (rc_ne hF) (gIx 797 (by decide +kernel) rfl) mw_X8_judge.1 mw_X8_judge.2.1 mw_X8_judge.2.2.1 mw_X8_judge.2.2.2 ⟨rfl, by decide, by decide, by decide +kernel⟩ rfl rfl ⟨by decide, by decide⟩ rfl rfl (Nat.le_of_ble_eq_true rfl) (by decide) (by decide) dL_judge_5 (fun ex M1 hr => ?_) (fun v M1 hr => ?_)
  · have e0 : f_L_judge M a1 a2 = (if ex = 0 then rRet 1 M1 else if ex = 1 then rRet 2 M1 else if ex = 2 then rRet 3 M1 else rStuck) := by
      unfold f_L_judge
      rw [hr]
      exact rc_thr _ _ _ _
    rw [e0] at hF ⊢
    by_cases h0 : ex = 0
    · subst h0
      rw [if_pos rfl] at hF ⊢
      refine ⟨[], ⟨0, 10, 13, 25⟩, [⟨0, 10, 17, 13⟩, ⟨0, 10, 21, 15⟩], gEx 0, hT.trans rfl, fun z hz => ?_, rfl, by decide, cl_L_25, by decide, fun q9 => ?_⟩
      · cases hz
      · refine v_astore hC (lv1 := [(4, .ref q9), (0, .ref (zad Z 0)), (1, .int a1), (2, .int a2), (3, .ref (zad Z 10))]) dL_judge_13 (by decide) rfl ?_
        refine v_iconst hC (v := 1) dL_judge_15 (by decide) ?_
        exact v_iret hC hlk hrt (by decide) dL_judge_16
    · rw [if_neg h0] at hF ⊢
      by_cases h1 : ex = 1
      · subst h1
        rw [if_pos rfl] at hF ⊢
        refine ⟨[⟨0, 10, 13, 25⟩], ⟨0, 10, 17, 13⟩, [⟨0, 10, 21, 15⟩], gEx 1, hT.trans rfl, fun z hz => ?_, rfl, by decide, cl_L_13, by decide, fun q9 => ?_⟩
        · simp only [List.mem_cons, List.not_mem_nil, or_false] at hz
          subst hz
          exact Or.inr ⟨by decide, gEx 0, cl_L_25, hN 1 0 (by decide) (by decide) (by decide)⟩
        · refine v_astore hC (lv1 := [(4, .ref q9), (0, .ref (zad Z 0)), (1, .int a1), (2, .int a2), (3, .ref (zad Z 10))]) dL_judge_17 (by decide) rfl ?_
          refine v_iconst hC (v := 2) dL_judge_19 (by decide) ?_
          exact v_iret hC hlk hrt (by decide) dL_judge_20
      · rw [if_neg h1] at hF ⊢
        by_cases h2 : ex = 2
        · subst h2
          rw [if_pos rfl] at hF ⊢
          refine ⟨[⟨0, 10, 13, 25⟩, ⟨0, 10, 17, 13⟩], ⟨0, 10, 21, 15⟩, [], gEx 2, hT.trans rfl, fun z hz => ?_, rfl, by decide, cl_L_15, by decide, fun q9 => ?_⟩
          · simp only [List.mem_cons, List.not_mem_nil, or_false] at hz
            rcases hz with hz | hz
            · subst hz
              exact Or.inr ⟨by decide, gEx 0, cl_L_25, hN 2 0 (by decide) (by decide) (by decide)⟩
            · subst hz
              exact Or.inr ⟨by decide, gEx 1, cl_L_13, hN 2 1 (by decide) (by decide) (by decide)⟩
          · refine v_astore hC (lv1 := [(4, .ref q9), (0, .ref (zad Z 0)), (1, .int a1), (2, .int a2), (3, .ref (zad Z 10))]) dL_judge_21 (by decide) rfl ?_
            refine v_iconst hC (v := 3) dL_judge_23 (by decide) ?_
            exact v_iret hC hlk hrt (by decide) dL_judge_24
        · rw [if_neg h2] at hF ⊢
          exact absurd rfl hF
  · have e0 : f_L_judge M a1 a2 = rRet 0 (gset M1 10 0 v) := by
      unfold f_L_judge
      rw [hr]
      rfl
    rw [e0] at hF ⊢
    refine v_i2l hC dL_judge_8 ?_
    refine v_last hC v rfl dL_judge_9 ?_
    refine v_goto (tgt := 25) hC dL_judge_10 (by decide) ?_
    refine v_iconst hC (v := 0) dL_judge_25 (by decide) ?_
    exact v_iret hC hlk hrt (by decide) dL_judge_26
def f_L_vacate (M : gM) (a1 : Int32) : gR := rc (f_X8_vacate M a1) (fun v M1 => rRet 0 (gset M1 10 0 v)) (fun ex M1 => if ex = 0 then rRet 1 M1 else if ex = 2 then rRet 2 M1 else rStuck)
abbrev rm_L_vacate : Room := { frames := 8, cells := 2, slots := 12, locals := 134 }
theorem mw_X8_vacate : Cond.instanceMethod yX8_vacate ∈ gWS ∧ Cond.selects RX8 yX8_vacate yX8_vacate ∈ gWS ∧ Cond.initialized RX8 ∈ gWS ∧ Cond.code yX8_vacate cX8_vacate 4 (some .int) ∈ gWS := ⟨gIx 814 (by decide +kernel) rfl, gIx 815 (by decide +kernel) rfl, gIx 75 (by decide +kernel) rfl, gIx 816 (by decide +kernel) rfl⟩
set_option maxRecDepth 20000 in
set_option maxHeartbeats 4000000 in
theorem c_L_vacate {l : Launch} (hfl : l.stackTraces = false) (Z : gZ) (M : gM) (a1 : Int32) : gMetL l yL_vacate cL_vacate 4 [(0, 9, 12, 25), (0, 9, 15, 15)] rm_L_vacate 2 Z M [.ref (zad Z 0), .int a1, .ref (zad Z 10)] (f_L_vacate M a1) := by
  refine v_enter (by decide) (Nat.le_of_ble_eq_true rfl) (fun hF p e s m args below meth c hC hN hlk hrt hT => ?_)
  refine v_lv0 (lv1 := [(0, .ref (zad Z 0)), (1, .int a1), (2, .ref (zad Z 10))]) rfl ?_
  refine v_aload_n hC 2 dL_vacate_0 rfl rfl ?_
  refine v_iconst hC (v := 0) dL_vacate_1 (by decide) ?_
  refine v_aload_n hC 0 dL_vacate_2 rfl rfl ?_
  refine v_iload_n hC 1 dL_vacate_3 rfl rfl ?_
  refine v_callHi (n := 1) hC [.int a1] 0 8 (by decide) rfl rfl (fun hne => c_X8_vacate hfl Z M a1 hne) (rc_ne hF) (gIx 813 (by decide +kernel) rfl) mw_X8_vacate.1 mw_X8_vacate.2.1 mw_X8_vacate.2.2.1 mw_X8_vacate.2.2.2 ⟨rfl, by decide, by decide, by decide +kernel⟩ rfl rfl ⟨by decide, by decide⟩ rfl rfl (Nat.le_of_ble_eq_true rfl) (by decide) (by decide) dL_vacate_4 (fun ex M1 hr => ?_) (fun v M1 hr => ?_)
  · have e0 : f_L_vacate M a1 = (if ex = 0 then rRet 1 M1 else if ex = 2 then rRet 2 M1 else rStuck) := by
      unfold f_L_vacate
      rw [hr]
      exact rc_thr _ _ _ _
    rw [e0] at hF ⊢
    by_cases h0 : ex = 0
    · subst h0
      rw [if_pos rfl] at hF ⊢
      refine ⟨[], ⟨0, 9, 12, 25⟩, [⟨0, 9, 15, 15⟩], gEx 0, hT.trans rfl, fun z hz => ?_, rfl, by decide, cl_L_25, by decide, fun q9 => ?_⟩
      · cases hz
      · refine v_astore_n hC (lv1 := [(3, .ref q9), (0, .ref (zad Z 0)), (1, .int a1), (2, .ref (zad Z 10))]) dL_vacate_12 rfl (by decide) rfl ?_
        refine v_iconst hC (v := 1) dL_vacate_13 (by decide) ?_
        exact v_iret hC hlk hrt (by decide) dL_vacate_14
    · rw [if_neg h0] at hF ⊢
      by_cases h1 : ex = 2
      · subst h1
        rw [if_pos rfl] at hF ⊢
        refine ⟨[⟨0, 9, 12, 25⟩], ⟨0, 9, 15, 15⟩, [], gEx 2, hT.trans rfl, fun z hz => ?_, rfl, by decide, cl_L_15, by decide, fun q9 => ?_⟩
        · simp only [List.mem_cons, List.not_mem_nil, or_false] at hz
          subst hz
          exact Or.inr ⟨by decide, gEx 0, cl_L_25, hN 2 0 (by decide) (by decide) (by decide)⟩
        · refine v_astore_n hC (lv1 := [(3, .ref q9), (0, .ref (zad Z 0)), (1, .int a1), (2, .ref (zad Z 10))]) dL_vacate_15 rfl (by decide) rfl ?_
          refine v_iconst hC (v := 2) dL_vacate_16 (by decide) ?_
          exact v_iret hC hlk hrt (by decide) dL_vacate_17
      · rw [if_neg h1] at hF ⊢
        exact absurd rfl hF
  · have e0 : f_L_vacate M a1 = rRet 0 (gset M1 10 0 v) := by
      unfold f_L_vacate
      rw [hr]
      rfl
    rw [e0] at hF ⊢
    refine v_i2l hC dL_vacate_7 ?_
    refine v_last hC v rfl dL_vacate_8 ?_
    refine v_goto (tgt := 18) hC dL_vacate_9 (by decide) ?_
    refine v_iconst hC (v := 0) dL_vacate_18 (by decide) ?_
    exact v_iret hC hlk hrt (by decide) dL_vacate_19
def f_L_appeal (M : gM) (a1 : Int32) : gR := rc (f_X8_appeal M a1) (fun v M1 => rRet 0 (gset M1 10 0 v)) (fun ex M1 => if ex = 0 then rRet 1 M1 else if ex = 2 then rRet 2 M1 else rStuck)
abbrev rm_L_appeal : Room := { frames := 8, cells := 2, slots := 12, locals := 133 }
theorem mw_X8_appeal : Cond.instanceMethod yX8_appeal ∈ gWS ∧ Cond.selects RX8 yX8_appeal yX8_appeal ∈ gWS ∧ Cond.initialized RX8 ∈ gWS ∧ Cond.code yX8_appeal cX8_appeal 3 (some .int) ∈ gWS := ⟨gIx 829 (by decide +kernel) rfl, gIx 830 (by decide +kernel) rfl, gIx 75 (by decide +kernel) rfl, gIx 831 (by decide +kernel) rfl⟩
set_option maxRecDepth 20000 in
set_option maxHeartbeats 4000000 in
theorem c_L_appeal {l : Launch} (hfl : l.stackTraces = false) (Z : gZ) (M : gM) (a1 : Int32) : gMetL l yL_appeal cL_appeal 4 [(0, 9, 12, 25), (0, 9, 15, 15)] rm_L_appeal 2 Z M [.ref (zad Z 0), .int a1, .ref (zad Z 10)] (f_L_appeal M a1) := by
  refine v_enter (by decide) (Nat.le_of_ble_eq_true rfl) (fun hF p e s m args below meth c hC hN hlk hrt hT => ?_)
  refine v_lv0 (lv1 := [(0, .ref (zad Z 0)), (1, .int a1), (2, .ref (zad Z 10))]) rfl ?_
  refine v_aload_n hC 2 dL_appeal_0 rfl rfl ?_
  refine v_iconst hC (v := 0) dL_appeal_1 (by decide) ?_
  refine v_aload_n hC 0 dL_appeal_2 rfl rfl ?_
  refine v_iload_n hC 1 dL_appeal_3 rfl rfl ?_
  refine v_callHi (n := 1) hC [.int a1] 0 8 (by decide) rfl rfl (fun hne => c_X8_appeal hfl Z M a1 hne) (rc_ne hF) (gIx 828 (by decide +kernel) rfl) mw_X8_appeal.1 mw_X8_appeal.2.1 mw_X8_appeal.2.2.1 mw_X8_appeal.2.2.2 ⟨rfl, by decide, by decide, by decide +kernel⟩ rfl rfl ⟨by decide, by decide⟩ rfl rfl (Nat.le_of_ble_eq_true rfl) (by decide) (by decide) dL_appeal_4 (fun ex M1 hr => ?_) (fun v M1 hr => ?_)
  · have e0 : f_L_appeal M a1 = (if ex = 0 then rRet 1 M1 else if ex = 2 then rRet 2 M1 else rStuck) := by
      unfold f_L_appeal
      rw [hr]
      exact rc_thr _ _ _ _
    rw [e0] at hF ⊢
    by_cases h0 : ex = 0
    · subst h0
      rw [if_pos rfl] at hF ⊢
      refine ⟨[], ⟨0, 9, 12, 25⟩, [⟨0, 9, 15, 15⟩], gEx 0, hT.trans rfl, fun z hz => ?_, rfl, by decide, cl_L_25, by decide, fun q9 => ?_⟩
      · cases hz
      · refine v_astore_n hC (lv1 := [(3, .ref q9), (0, .ref (zad Z 0)), (1, .int a1), (2, .ref (zad Z 10))]) dL_appeal_12 rfl (by decide) rfl ?_
        refine v_iconst hC (v := 1) dL_appeal_13 (by decide) ?_
        exact v_iret hC hlk hrt (by decide) dL_appeal_14
    · rw [if_neg h0] at hF ⊢
      by_cases h1 : ex = 2
      · subst h1
        rw [if_pos rfl] at hF ⊢
        refine ⟨[⟨0, 9, 12, 25⟩], ⟨0, 9, 15, 15⟩, [], gEx 2, hT.trans rfl, fun z hz => ?_, rfl, by decide, cl_L_15, by decide, fun q9 => ?_⟩
        · simp only [List.mem_cons, List.not_mem_nil, or_false] at hz
          subst hz
          exact Or.inr ⟨by decide, gEx 0, cl_L_25, hN 2 0 (by decide) (by decide) (by decide)⟩
        · refine v_astore_n hC (lv1 := [(3, .ref q9), (0, .ref (zad Z 0)), (1, .int a1), (2, .ref (zad Z 10))]) dL_appeal_15 rfl (by decide) rfl ?_
          refine v_iconst hC (v := 2) dL_appeal_16 (by decide) ?_
          exact v_iret hC hlk hrt (by decide) dL_appeal_17
      · rw [if_neg h1] at hF ⊢
        exact absurd rfl hF
  · have e0 : f_L_appeal M a1 = rRet 0 (gset M1 10 0 v) := by
      unfold f_L_appeal
      rw [hr]
      rfl
    rw [e0] at hF ⊢
    refine v_i2l hC dL_appeal_7 ?_
    refine v_last hC v rfl dL_appeal_8 ?_
    refine v_goto (tgt := 18) hC dL_appeal_9 (by decide) ?_
    refine v_iconst hC (v := 0) dL_appeal_18 (by decide) ?_
    exact v_iret hC hlk hrt (by decide) dL_appeal_19
def f_L_decide (M : gM) (a1 : Int32) (a2 : Int32) (a3 : Int32) : gR := rc (f_X8_decide M a1 a2 a3) (fun v M1 => rRet 0 (gset M1 10 0 v)) (fun ex M1 => if ex = 0 then rRet 1 M1 else if ex = 1 then rRet 2 M1 else if ex = 2 then rRet 3 M1 else rStuck)
abbrev rm_L_decide : Room := { frames := 8, cells := 2, slots := 12, locals := 136 }
theorem mw_X8_decide : Cond.instanceMethod yX8_decide ∈ gWS ∧ Cond.selects RX8 yX8_decide yX8_decide ∈ gWS ∧ Cond.initialized RX8 ∈ gWS ∧ Cond.code yX8_decide cX8_decide 6 (some .int) ∈ gWS := ⟨gIx 848 (by decide +kernel) rfl, gIx 849 (by decide +kernel) rfl, gIx 75 (by decide +kernel) rfl, gIx 850 (by decide +kernel) rfl⟩
set_option maxRecDepth 20000 in
set_option maxHeartbeats 4000000 in
theorem c_L_decide {l : Launch} (hfl : l.stackTraces = false) (Z : gZ) (M : gM) (a1 : Int32) (a2 : Int32) (a3 : Int32) : gMetL l yL_decide cL_decide 6 [(0, 12, 15, 25), (0, 12, 19, 13), (0, 12, 23, 15)] rm_L_decide 2 Z M [.ref (zad Z 0), .int a1, .int a2, .int a3, .ref (zad Z 10)] (f_L_decide M a1 a2 a3) := by
  refine v_enter (by decide) (Nat.le_of_ble_eq_true rfl) (fun hF p e s m args below meth c hC hN hlk hrt hT => ?_)
  refine v_lv0 (lv1 := [(0, .ref (zad Z 0)), (1, .int a1), (2, .int a2), (3, .int a3), (4, .ref (zad Z 10))]) rfl ?_
  refine v_aload hC 4 dL_decide_0 rfl ?_
  refine v_iconst hC (v := 0) dL_decide_2 (by decide) ?_
  refine v_aload_n hC 0 dL_decide_3 rfl rfl ?_
  refine v_iload_n hC 1 dL_decide_4 rfl rfl ?_
  refine v_iload_n hC 2 dL_decide_5 rfl rfl ?_
  refine v_iload_n hC 3 dL_decide_6 rfl rfl ?_
  refine v_callHi (n := 3) hC [.int a1, .int a2, .int a3] 0 8 (by decide) rfl rfl (fun hne => c_X8_decide hfl Z M a1 a2 a3 hne) (rc_ne hF) (gIx 847 (by decide +kernel) rfl) mw_X8_decide.1 mw_X8_decide.2.1 mw_X8_decide.2.2.1 mw_X8_decide.2.2.2 ⟨rfl, by decide, by decide, by decide +kernel⟩ rfl rfl ⟨by decide, by decide⟩ rfl rfl (Nat.le_of_ble_eq_true rfl) (by decide) (by decide) dL_decide_7 (fun ex M1 hr => ?_) (fun v M1 hr => ?_)
  · have e0 : f_L_decide M a1 a2 a3 = (if ex = 0 then rRet 1 M1 else if ex = 1 then rRet 2 M1 else if ex = 2 then rRet 3 M1 else rStuck) := by
      unfold f_L_decide
      rw [hr]
      exact rc_thr _ _ _ _
    rw [e0] at hF ⊢
    by_cases h0 : ex = 0
    · subst h0
      rw [if_pos rfl] at hF ⊢
      refine ⟨[], ⟨0, 12, 15, 25⟩, [⟨0, 12, 19, 13⟩, ⟨0, 12, 23, 15⟩], gEx 0, hT.trans rfl, fun z hz => ?_, rfl, by decide, cl_L_25, by decide, fun q9 => ?_⟩
      · cases hz
      · refine v_astore hC (lv1 := [(5, .ref q9), (0, .ref (zad Z 0)), (1, .int a1), (2, .int a2), (3, .int a3), (4, .ref (zad Z 10))]) dL_decide_15 (by decide) rfl ?_
        refine v_iconst hC (v := 1) dL_decide_17 (by decide) ?_
        exact v_iret hC hlk hrt (by decide) dL_decide_18
    · rw [if_neg h0] at hF ⊢
      by_cases h1 : ex = 1
      · subst h1
        rw [if_pos rfl] at hF ⊢
        refine ⟨[⟨0, 12, 15, 25⟩], ⟨0, 12, 19, 13⟩, [⟨0, 12, 23, 15⟩], gEx 1, hT.trans rfl, fun z hz => ?_, rfl, by decide, cl_L_13, by decide, fun q9 => ?_⟩
        · simp only [List.mem_cons, List.not_mem_nil, or_false] at hz
          subst hz
          exact Or.inr ⟨by decide, gEx 0, cl_L_25, hN 1 0 (by decide) (by decide) (by decide)⟩
        · refine v_astore hC (lv1 := [(5, .ref q9), (0, .ref (zad Z 0)), (1, .int a1), (2, .int a2), (3, .int a3), (4, .ref (zad Z 10))]) dL_decide_19 (by decide) rfl ?_
          refine v_iconst hC (v := 2) dL_decide_21 (by decide) ?_
          exact v_iret hC hlk hrt (by decide) dL_decide_22
      · rw [if_neg h1] at hF ⊢
        by_cases h2 : ex = 2
        · subst h2
          rw [if_pos rfl] at hF ⊢
          refine ⟨[⟨0, 12, 15, 25⟩, ⟨0, 12, 19, 13⟩], ⟨0, 12, 23, 15⟩, [], gEx 2, hT.trans rfl, fun z hz => ?_, rfl, by decide, cl_L_15, by decide, fun q9 => ?_⟩
          · simp only [List.mem_cons, List.not_mem_nil, or_false] at hz
            rcases hz with hz | hz
            · subst hz
              exact Or.inr ⟨by decide, gEx 0, cl_L_25, hN 2 0 (by decide) (by decide) (by decide)⟩
            · subst hz
              exact Or.inr ⟨by decide, gEx 1, cl_L_13, hN 2 1 (by decide) (by decide) (by decide)⟩
          · refine v_astore hC (lv1 := [(5, .ref q9), (0, .ref (zad Z 0)), (1, .int a1), (2, .int a2), (3, .int a3), (4, .ref (zad Z 10))]) dL_decide_23 (by decide) rfl ?_
            refine v_iconst hC (v := 3) dL_decide_25 (by decide) ?_
            exact v_iret hC hlk hrt (by decide) dL_decide_26
        · rw [if_neg h2] at hF ⊢
          exact absurd rfl hF
  · have e0 : f_L_decide M a1 a2 a3 = rRet 0 (gset M1 10 0 v) := by
      unfold f_L_decide
      rw [hr]
      rfl
    rw [e0] at hF ⊢
    refine v_i2l hC dL_decide_10 ?_
    refine v_last hC v rfl dL_decide_11 ?_
    refine v_goto (tgt := 27) hC dL_decide_12 (by decide) ?_
    refine v_iconst hC (v := 0) dL_decide_27 (by decide) ?_
    exact v_iret hC hlk hrt (by decide) dL_decide_28
def f_L_settle (M : gM) (a1 : Int32) : gR := rc (f_X8_settle M a1) (fun v M1 => rRet 0 (gset M1 10 0 v)) (fun ex M1 => if ex = 0 then rRet 1 M1 else if ex = 2 then rRet 2 M1 else rStuck)
abbrev rm_L_settle : Room := { frames := 8, cells := 2, slots := 12, locals := 134 }
theorem mw_X8_settle : Cond.instanceMethod yX8_settle ∈ gWS ∧ Cond.selects RX8 yX8_settle yX8_settle ∈ gWS ∧ Cond.initialized RX8 ∈ gWS ∧ Cond.code yX8_settle cX8_settle 4 (some .int) ∈ gWS := ⟨gIx 860 (by decide +kernel) rfl, gIx 861 (by decide +kernel) rfl, gIx 75 (by decide +kernel) rfl, gIx 862 (by decide +kernel) rfl⟩
set_option maxRecDepth 20000 in
set_option maxHeartbeats 4000000 in
theorem c_L_settle {l : Launch} (hfl : l.stackTraces = false) (Z : gZ) (M : gM) (a1 : Int32) : gMetL l yL_settle cL_settle 4 [(0, 9, 12, 25), (0, 9, 15, 15)] rm_L_settle 2 Z M [.ref (zad Z 0), .int a1, .ref (zad Z 10)] (f_L_settle M a1) := by
  refine v_enter (by decide) (Nat.le_of_ble_eq_true rfl) (fun hF p e s m args below meth c hC hN hlk hrt hT => ?_)
  refine v_lv0 (lv1 := [(0, .ref (zad Z 0)), (1, .int a1), (2, .ref (zad Z 10))]) rfl ?_
  refine v_aload_n hC 2 dL_settle_0 rfl rfl ?_
  refine v_iconst hC (v := 0) dL_settle_1 (by decide) ?_
  refine v_aload_n hC 0 dL_settle_2 rfl rfl ?_
  refine v_iload_n hC 1 dL_settle_3 rfl rfl ?_
  refine v_callHi (n := 1) hC [.int a1] 0 8 (by decide) rfl rfl (fun hne => c_X8_settle hfl Z M a1 hne) (rc_ne hF) (gIx 859 (by decide +kernel) rfl) mw_X8_settle.1 mw_X8_settle.2.1 mw_X8_settle.2.2.1 mw_X8_settle.2.2.2 ⟨rfl, by decide, by decide, by decide +kernel⟩ rfl rfl ⟨by decide, by decide⟩ rfl rfl (Nat.le_of_ble_eq_true rfl) (by decide) (by decide) dL_settle_4 (fun ex M1 hr => ?_) (fun v M1 hr => ?_)
  · have e0 : f_L_settle M a1 = (if ex = 0 then rRet 1 M1 else if ex = 2 then rRet 2 M1 else rStuck) := by
      unfold f_L_settle
      rw [hr]
      exact rc_thr _ _ _ _
    rw [e0] at hF ⊢
    by_cases h0 : ex = 0
    · subst h0
      rw [if_pos rfl] at hF ⊢
      refine ⟨[], ⟨0, 9, 12, 25⟩, [⟨0, 9, 15, 15⟩], gEx 0, hT.trans rfl, fun z hz => ?_, rfl, by decide, cl_L_25, by decide, fun q9 => ?_⟩
      · cases hz
      · refine v_astore_n hC (lv1 := [(3, .ref q9), (0, .ref (zad Z 0)), (1, .int a1), (2, .ref (zad Z 10))]) dL_settle_12 rfl (by decide) rfl ?_
        refine v_iconst hC (v := 1) dL_settle_13 (by decide) ?_
        exact v_iret hC hlk hrt (by decide) dL_settle_14
    · rw [if_neg h0] at hF ⊢
      by_cases h1 : ex = 2
      · subst h1
        rw [if_pos rfl] at hF ⊢
        refine ⟨[⟨0, 9, 12, 25⟩], ⟨0, 9, 15, 15⟩, [], gEx 2, hT.trans rfl, fun z hz => ?_, rfl, by decide, cl_L_15, by decide, fun q9 => ?_⟩
        · simp only [List.mem_cons, List.not_mem_nil, or_false] at hz
          subst hz
          exact Or.inr ⟨by decide, gEx 0, cl_L_25, hN 2 0 (by decide) (by decide) (by decide)⟩
        · refine v_astore_n hC (lv1 := [(3, .ref q9), (0, .ref (zad Z 0)), (1, .int a1), (2, .ref (zad Z 10))]) dL_settle_15 rfl (by decide) rfl ?_
          refine v_iconst hC (v := 2) dL_settle_16 (by decide) ?_
          exact v_iret hC hlk hrt (by decide) dL_settle_17
      · rw [if_neg h1] at hF ⊢
        exact absurd rfl hF
  · have e0 : f_L_settle M a1 = rRet 0 (gset M1 10 0 v) := by
      unfold f_L_settle
      rw [hr]
      rfl
    rw [e0] at hF ⊢
    refine v_i2l hC dL_settle_7 ?_
    refine v_last hC v rfl dL_settle_8 ?_
    refine v_goto (tgt := 18) hC dL_settle_9 (by decide) ?_
    refine v_iconst hC (v := 0) dL_settle_18 (by decide) ?_
    exact v_iret hC hlk hrt (by decide) dL_settle_19
def f_L_pay (M : gM) (a1 : Int32) (a2 : Int32) : gR := rc (f_X8_pay M a1 a2) (fun v M1 => rRet 0 (gset M1 10 0 v)) (fun ex M1 => if ex = 0 then rRet 1 M1 else if ex = 1 then rRet 2 M1 else if ex = 2 then rRet 3 M1 else rStuck)
abbrev rm_L_pay : Room := { frames := 8, cells := 3, slots := 18, locals := 135 }
theorem mw_X8_pay : Cond.instanceMethod yX8_pay ∈ gWS ∧ Cond.selects RX8 yX8_pay yX8_pay ∈ gWS ∧ Cond.initialized RX8 ∈ gWS ∧ Cond.code yX8_pay cX8_pay 4 (some .int) ∈ gWS := ⟨gIx 867 (by decide +kernel) rfl, gIx 868 (by decide +kernel) rfl, gIx 75 (by decide +kernel) rfl, gIx 869 (by decide +kernel) rfl⟩
set_option maxRecDepth 20000 in
set_option maxHeartbeats 4000000 in
theorem c_L_pay {l : Launch} (hfl : l.stackTraces = false) (Z : gZ) (M : gM) (a1 : Int32) (a2 : Int32) : gMetL l yL_pay cL_pay 5 [(0, 10, 13, 25), (0, 10, 17, 13), (0, 10, 21, 15)] rm_L_pay 3 Z M [.ref (zad Z 0), .int a1, .int a2, .ref (zad Z 10)] (f_L_pay M a1 a2) := by
  refine v_enter (by decide) (Nat.le_of_ble_eq_true rfl) (fun hF p e s m args below meth c hC hN hlk hrt hT => ?_)
  refine v_lv0 (lv1 := [(0, .ref (zad Z 0)), (1, .int a1), (2, .int a2), (3, .ref (zad Z 10))]) rfl ?_
  refine v_aload_n hC 3 dL_pay_0 rfl rfl ?_
  refine v_iconst hC (v := 0) dL_pay_1 (by decide) ?_
  refine v_aload_n hC 0 dL_pay_2 rfl rfl ?_
  refine v_iload_n hC 1 dL_pay_3 rfl rfl ?_
  refine v_iload_n hC 2 dL_pay_4 rfl rfl ?_
  refine v_callHi (n := 2) hC [.int a1, .int a2] 0 8 (by decide) rfl rfl (fun hne => c_X8_pay hfl Z M a1 a2 hne) (rc_ne hF) (gIx 866 (by decide +kernel) rfl) mw_X8_pay.1 mw_X8_pay.2.1 mw_X8_pay.2.2.1 mw_X8_pay.2.2.2 ⟨rfl, by decide, by decide, by decide +kernel⟩ rfl rfl ⟨by decide, by decide⟩ rfl rfl (Nat.le_of_ble_eq_true rfl) (by decide) (by decide) dL_pay_5 (fun ex M1 hr => ?_) (fun v M1 hr => ?_)
  · have e0 : f_L_pay M a1 a2 = (if ex = 0 then rRet 1 M1 else if ex = 1 then rRet 2 M1 else if ex = 2 then rRet 3 M1 else rStuck) := by
      unfold f_L_pay
      rw [hr]
      exact rc_thr _ _ _ _
    rw [e0] at hF ⊢
    by_cases h0 : ex = 0
    · subst h0
      rw [if_pos rfl] at hF ⊢
      refine ⟨[], ⟨0, 10, 13, 25⟩, [⟨0, 10, 17, 13⟩, ⟨0, 10, 21, 15⟩], gEx 0, hT.trans rfl, fun z hz => ?_, rfl, by decide, cl_L_25, by decide, fun q9 => ?_⟩
      · cases hz
      · refine v_astore hC (lv1 := [(4, .ref q9), (0, .ref (zad Z 0)), (1, .int a1), (2, .int a2), (3, .ref (zad Z 10))]) dL_pay_13 (by decide) rfl ?_
        refine v_iconst hC (v := 1) dL_pay_15 (by decide) ?_
        exact v_iret hC hlk hrt (by decide) dL_pay_16
    · rw [if_neg h0] at hF ⊢
      by_cases h1 : ex = 1
      · subst h1
        rw [if_pos rfl] at hF ⊢
        refine ⟨[⟨0, 10, 13, 25⟩], ⟨0, 10, 17, 13⟩, [⟨0, 10, 21, 15⟩], gEx 1, hT.trans rfl, fun z hz => ?_, rfl, by decide, cl_L_13, by decide, fun q9 => ?_⟩
        · simp only [List.mem_cons, List.not_mem_nil, or_false] at hz
          subst hz
          exact Or.inr ⟨by decide, gEx 0, cl_L_25, hN 1 0 (by decide) (by decide) (by decide)⟩
        · refine v_astore hC (lv1 := [(4, .ref q9), (0, .ref (zad Z 0)), (1, .int a1), (2, .int a2), (3, .ref (zad Z 10))]) dL_pay_17 (by decide) rfl ?_
          refine v_iconst hC (v := 2) dL_pay_19 (by decide) ?_
          exact v_iret hC hlk hrt (by decide) dL_pay_20
      · rw [if_neg h1] at hF ⊢
        by_cases h2 : ex = 2
        · subst h2
          rw [if_pos rfl] at hF ⊢
          refine ⟨[⟨0, 10, 13, 25⟩, ⟨0, 10, 17, 13⟩], ⟨0, 10, 21, 15⟩, [], gEx 2, hT.trans rfl, fun z hz => ?_, rfl, by decide, cl_L_15, by decide, fun q9 => ?_⟩
          · simp only [List.mem_cons, List.not_mem_nil, or_false] at hz
            rcases hz with hz | hz
            · subst hz
              exact Or.inr ⟨by decide, gEx 0, cl_L_25, hN 2 0 (by decide) (by decide) (by decide)⟩
            · subst hz
              exact Or.inr ⟨by decide, gEx 1, cl_L_13, hN 2 1 (by decide) (by decide) (by decide)⟩
          · refine v_astore hC (lv1 := [(4, .ref q9), (0, .ref (zad Z 0)), (1, .int a1), (2, .int a2), (3, .ref (zad Z 10))]) dL_pay_21 (by decide) rfl ?_
            refine v_iconst hC (v := 3) dL_pay_23 (by decide) ?_
            exact v_iret hC hlk hrt (by decide) dL_pay_24
        · rw [if_neg h2] at hF ⊢
          exact absurd rfl hF
  · have e0 : f_L_pay M a1 a2 = rRet 0 (gset M1 10 0 v) := by
      unfold f_L_pay
      rw [hr]
      rfl
    rw [e0] at hF ⊢
    refine v_i2l hC dL_pay_8 ?_
    refine v_last hC v rfl dL_pay_9 ?_
    refine v_goto (tgt := 25) hC dL_pay_10 (by decide) ?_
    refine v_iconst hC (v := 0) dL_pay_25 (by decide) ?_
    exact v_iret hC hlk hrt (by decide) dL_pay_26
def f_L_stay (M : gM) (a1 : Int32) (a2 : Int32) : gR := rc (f_X8_stay M a1 a2) (fun v M1 => rRet 0 (gset M1 10 0 v)) (fun ex M1 => if ex = 0 then rRet 1 M1 else if ex = 2 then rRet 2 M1 else rStuck)
abbrev rm_L_stay : Room := { frames := 8, cells := 2, slots := 12, locals := 134 }
theorem mw_X8_stay : Cond.instanceMethod yX8_stay ∈ gWS ∧ Cond.selects RX8 yX8_stay yX8_stay ∈ gWS ∧ Cond.initialized RX8 ∈ gWS ∧ Cond.code yX8_stay cX8_stay 4 (some .int) ∈ gWS := ⟨gIx 882 (by decide +kernel) rfl, gIx 883 (by decide +kernel) rfl, gIx 75 (by decide +kernel) rfl, gIx 884 (by decide +kernel) rfl⟩
set_option maxRecDepth 20000 in
set_option maxHeartbeats 4000000 in
theorem c_L_stay {l : Launch} (hfl : l.stackTraces = false) (Z : gZ) (M : gM) (a1 : Int32) (a2 : Int32) : gMetL l yL_stay cL_stay 5 [(0, 10, 13, 25), (0, 10, 17, 15)] rm_L_stay 2 Z M [.ref (zad Z 0), .int a1, .int a2, .ref (zad Z 10)] (f_L_stay M a1 a2) := by
  refine v_enter (by decide) (Nat.le_of_ble_eq_true rfl) (fun hF p e s m args below meth c hC hN hlk hrt hT => ?_)
  refine v_lv0 (lv1 := [(0, .ref (zad Z 0)), (1, .int a1), (2, .int a2), (3, .ref (zad Z 10))]) rfl ?_
  refine v_aload_n hC 3 dL_stay_0 rfl rfl ?_
  refine v_iconst hC (v := 0) dL_stay_1 (by decide) ?_
  refine v_aload_n hC 0 dL_stay_2 rfl rfl ?_
  refine v_iload_n hC 1 dL_stay_3 rfl rfl ?_
  refine v_iload_n hC 2 dL_stay_4 rfl rfl ?_
  refine v_callHi (n := 2) hC [.int a1, .int a2] 0 8 (by decide) rfl rfl (fun hne => c_X8_stay hfl Z M a1 a2 hne) (rc_ne hF) (gIx 881 (by decide +kernel) rfl) mw_X8_stay.1 mw_X8_stay.2.1 mw_X8_stay.2.2.1 mw_X8_stay.2.2.2 ⟨rfl, by decide, by decide, by decide +kernel⟩ rfl rfl ⟨by decide, by decide⟩ rfl rfl (Nat.le_of_ble_eq_true rfl) (by decide) (by decide) dL_stay_5 (fun ex M1 hr => ?_) (fun v M1 hr => ?_)
  · have e0 : f_L_stay M a1 a2 = (if ex = 0 then rRet 1 M1 else if ex = 2 then rRet 2 M1 else rStuck) := by
      unfold f_L_stay
      rw [hr]
      exact rc_thr _ _ _ _
    rw [e0] at hF ⊢
    by_cases h0 : ex = 0
    · subst h0
      rw [if_pos rfl] at hF ⊢
      refine ⟨[], ⟨0, 10, 13, 25⟩, [⟨0, 10, 17, 15⟩], gEx 0, hT.trans rfl, fun z hz => ?_, rfl, by decide, cl_L_25, by decide, fun q9 => ?_⟩
      · cases hz
      · refine v_astore hC (lv1 := [(4, .ref q9), (0, .ref (zad Z 0)), (1, .int a1), (2, .int a2), (3, .ref (zad Z 10))]) dL_stay_13 (by decide) rfl ?_
        refine v_iconst hC (v := 1) dL_stay_15 (by decide) ?_
        exact v_iret hC hlk hrt (by decide) dL_stay_16
    · rw [if_neg h0] at hF ⊢
      by_cases h1 : ex = 2
      · subst h1
        rw [if_pos rfl] at hF ⊢
        refine ⟨[⟨0, 10, 13, 25⟩], ⟨0, 10, 17, 15⟩, [], gEx 2, hT.trans rfl, fun z hz => ?_, rfl, by decide, cl_L_15, by decide, fun q9 => ?_⟩
        · simp only [List.mem_cons, List.not_mem_nil, or_false] at hz
          subst hz
          exact Or.inr ⟨by decide, gEx 0, cl_L_25, hN 2 0 (by decide) (by decide) (by decide)⟩
        · refine v_astore hC (lv1 := [(4, .ref q9), (0, .ref (zad Z 0)), (1, .int a1), (2, .int a2), (3, .ref (zad Z 10))]) dL_stay_17 (by decide) rfl ?_
          refine v_iconst hC (v := 2) dL_stay_19 (by decide) ?_
          exact v_iret hC hlk hrt (by decide) dL_stay_20
      · rw [if_neg h1] at hF ⊢
        exact absurd rfl hF
  · have e0 : f_L_stay M a1 a2 = rRet 0 (gset M1 10 0 v) := by
      unfold f_L_stay
      rw [hr]
      rfl
    rw [e0] at hF ⊢
    refine v_i2l hC dL_stay_8 ?_
    refine v_last hC v rfl dL_stay_9 ?_
    refine v_goto (tgt := 21) hC dL_stay_10 (by decide) ?_
    refine v_iconst hC (v := 0) dL_stay_21 (by decide) ?_
    exact v_iret hC hlk hrt (by decide) dL_stay_22
def f_L_defect (M : gM) (a1 : Int32) : gR := rc (f_X8_defect M a1) (fun v M1 => rRet 0 (gset M1 10 0 v)) (fun ex M1 => if ex = 0 then rRet 1 M1 else if ex = 2 then rRet 2 M1 else rStuck)
abbrev rm_L_defect : Room := { frames := 8, cells := 2, slots := 12, locals := 134 }
theorem mw_X8_defect : Cond.instanceMethod yX8_defect ∈ gWS ∧ Cond.selects RX8 yX8_defect yX8_defect ∈ gWS ∧ Cond.initialized RX8 ∈ gWS ∧ Cond.code yX8_defect cX8_defect 4 (some .int) ∈ gWS := ⟨gIx 897 (by decide +kernel) rfl, gIx 898 (by decide +kernel) rfl, gIx 75 (by decide +kernel) rfl, gIx 899 (by decide +kernel) rfl⟩
set_option maxRecDepth 20000 in
set_option maxHeartbeats 4000000 in
theorem c_L_defect {l : Launch} (hfl : l.stackTraces = false) (Z : gZ) (M : gM) (a1 : Int32) : gMetL l yL_defect cL_defect 4 [(0, 9, 12, 25), (0, 9, 15, 15)] rm_L_defect 2 Z M [.ref (zad Z 0), .int a1, .ref (zad Z 10)] (f_L_defect M a1) := by
  refine v_enter (by decide) (Nat.le_of_ble_eq_true rfl) (fun hF p e s m args below meth c hC hN hlk hrt hT => ?_)
  refine v_lv0 (lv1 := [(0, .ref (zad Z 0)), (1, .int a1), (2, .ref (zad Z 10))]) rfl ?_
  refine v_aload_n hC 2 dL_defect_0 rfl rfl ?_
  refine v_iconst hC (v := 0) dL_defect_1 (by decide) ?_
  refine v_aload_n hC 0 dL_defect_2 rfl rfl ?_
  refine v_iload_n hC 1 dL_defect_3 rfl rfl ?_
  refine v_callHi (n := 1) hC [.int a1] 0 8 (by decide) rfl rfl (fun hne => c_X8_defect hfl Z M a1 hne) (rc_ne hF) (gIx 896 (by decide +kernel) rfl) mw_X8_defect.1 mw_X8_defect.2.1 mw_X8_defect.2.2.1 mw_X8_defect.2.2.2 ⟨rfl, by decide, by decide, by decide +kernel⟩ rfl rfl ⟨by decide, by decide⟩ rfl rfl (Nat.le_of_ble_eq_true rfl) (by decide) (by decide) dL_defect_4 (fun ex M1 hr => ?_) (fun v M1 hr => ?_)
  · have e0 : f_L_defect M a1 = (if ex = 0 then rRet 1 M1 else if ex = 2 then rRet 2 M1 else rStuck) := by
      unfold f_L_defect
      rw [hr]
      exact rc_thr _ _ _ _
    rw [e0] at hF ⊢
    by_cases h0 : ex = 0
    · subst h0
      rw [if_pos rfl] at hF ⊢
      refine ⟨[], ⟨0, 9, 12, 25⟩, [⟨0, 9, 15, 15⟩], gEx 0, hT.trans rfl, fun z hz => ?_, rfl, by decide, cl_L_25, by decide, fun q9 => ?_⟩
      · cases hz
      · refine v_astore_n hC (lv1 := [(3, .ref q9), (0, .ref (zad Z 0)), (1, .int a1), (2, .ref (zad Z 10))]) dL_defect_12 rfl (by decide) rfl ?_
        refine v_iconst hC (v := 1) dL_defect_13 (by decide) ?_
        exact v_iret hC hlk hrt (by decide) dL_defect_14
    · rw [if_neg h0] at hF ⊢
      by_cases h1 : ex = 2
      · subst h1
        rw [if_pos rfl] at hF ⊢
        refine ⟨[⟨0, 9, 12, 25⟩], ⟨0, 9, 15, 15⟩, [], gEx 2, hT.trans rfl, fun z hz => ?_, rfl, by decide, cl_L_15, by decide, fun q9 => ?_⟩
        · simp only [List.mem_cons, List.not_mem_nil, or_false] at hz
          subst hz
          exact Or.inr ⟨by decide, gEx 0, cl_L_25, hN 2 0 (by decide) (by decide) (by decide)⟩
        · refine v_astore_n hC (lv1 := [(3, .ref q9), (0, .ref (zad Z 0)), (1, .int a1), (2, .ref (zad Z 10))]) dL_defect_15 rfl (by decide) rfl ?_
          refine v_iconst hC (v := 2) dL_defect_16 (by decide) ?_
          exact v_iret hC hlk hrt (by decide) dL_defect_17
      · rw [if_neg h1] at hF ⊢
        exact absurd rfl hF
  · have e0 : f_L_defect M a1 = rRet 0 (gset M1 10 0 v) := by
      unfold f_L_defect
      rw [hr]
      rfl
    rw [e0] at hF ⊢
    refine v_i2l hC dL_defect_7 ?_
    refine v_last hC v rfl dL_defect_8 ?_
    refine v_goto (tgt := 18) hC dL_defect_9 (by decide) ?_
    refine v_iconst hC (v := 0) dL_defect_18 (by decide) ?_
    exact v_iret hC hlk hrt (by decide) dL_defect_19
def f_L_cure (M : gM) (a1 : Int32) : gR := rc (f_X8_cure M a1) (fun v M1 => if v = 0 then rRet 0 (gset M1 10 0 0) else rRet 0 (gset M1 10 0 1)) (fun ex M1 => if ex = 0 then rRet 1 M1 else if ex = 2 then rRet 2 M1 else rStuck)
abbrev rm_L_cure : Room := { frames := 8, cells := 2, slots := 12, locals := 132 }
theorem mw_X8_cure : Cond.instanceMethod yX8_cure ∈ gWS ∧ Cond.selects RX8 yX8_cure yX8_cure ∈ gWS ∧ Cond.initialized RX8 ∈ gWS ∧ Cond.code yX8_cure cX8_cure 2 (some .boolean) ∈ gWS := ⟨gIx 905 (by decide +kernel) rfl, gIx 906 (by decide +kernel) rfl, gIx 75 (by decide +kernel) rfl, gIx 907 (by decide +kernel) rfl⟩
set_option maxRecDepth 20000 in
set_option maxHeartbeats 4000000 in
theorem c_L_cure {l : Launch} (hfl : l.stackTraces = false) (Z : gZ) (M : gM) (a1 : Int32) : gMetL l yL_cure cL_cure 4 [(0, 16, 19, 25), (0, 16, 22, 15)] rm_L_cure 2 Z M [.ref (zad Z 0), .int a1, .ref (zad Z 10)] (f_L_cure M a1) := by
  refine v_enter (by decide) (Nat.le_of_ble_eq_true rfl) (fun hF p e s m args below meth c hC hN hlk hrt hT => ?_)
  refine v_lv0 (lv1 := [(0, .ref (zad Z 0)), (1, .int a1), (2, .ref (zad Z 10))]) rfl ?_
  refine v_aload_n hC 2 dL_cure_0 rfl rfl ?_
  refine v_iconst hC (v := 0) dL_cure_1 (by decide) ?_
  refine v_aload_n hC 0 dL_cure_2 rfl rfl ?_
  refine v_iload_n hC 1 dL_cure_3 rfl rfl ?_
  refine v_callHi (n := 1) hC [.int a1] 0 8 (by decide) rfl rfl (fun hne => c_X8_cure hfl Z M a1 hne) (rc_ne hF) (gIx 904 (by decide +kernel) rfl) mw_X8_cure.1 mw_X8_cure.2.1 mw_X8_cure.2.2.1 mw_X8_cure.2.2.2 ⟨rfl, by decide, by decide, by decide +kernel⟩ rfl rfl ⟨by decide, by decide⟩ rfl rfl (Nat.le_of_ble_eq_true rfl) (by decide) (by decide) dL_cure_4 (fun ex M1 hr => ?_) (fun v M1 hr => ?_)
  · have e0 : f_L_cure M a1 = (if ex = 0 then rRet 1 M1 else if ex = 2 then rRet 2 M1 else rStuck) := by
      unfold f_L_cure
      rw [hr]
      exact rc_thr _ _ _ _
    rw [e0] at hF ⊢
    by_cases h0 : ex = 0
    · subst h0
      rw [if_pos rfl] at hF ⊢
      refine ⟨[], ⟨0, 16, 19, 25⟩, [⟨0, 16, 22, 15⟩], gEx 0, hT.trans rfl, fun z hz => ?_, rfl, by decide, cl_L_25, by decide, fun q9 => ?_⟩
      · cases hz
      · refine v_astore_n hC (lv1 := [(3, .ref q9), (0, .ref (zad Z 0)), (1, .int a1), (2, .ref (zad Z 10))]) dL_cure_19 rfl (by decide) rfl ?_
        refine v_iconst hC (v := 1) dL_cure_20 (by decide) ?_
        exact v_iret hC hlk hrt (by decide) dL_cure_21
    · rw [if_neg h0] at hF ⊢
      by_cases h1 : ex = 2
      · subst h1
        rw [if_pos rfl] at hF ⊢
        refine ⟨[⟨0, 16, 19, 25⟩], ⟨0, 16, 22, 15⟩, [], gEx 2, hT.trans rfl, fun z hz => ?_, rfl, by decide, cl_L_15, by decide, fun q9 => ?_⟩
        · simp only [List.mem_cons, List.not_mem_nil, or_false] at hz
          subst hz
          exact Or.inr ⟨by decide, gEx 0, cl_L_25, hN 2 0 (by decide) (by decide) (by decide)⟩
        · refine v_astore_n hC (lv1 := [(3, .ref q9), (0, .ref (zad Z 0)), (1, .int a1), (2, .ref (zad Z 10))]) dL_cure_22 rfl (by decide) rfl ?_
          refine v_iconst hC (v := 2) dL_cure_23 (by decide) ?_
          exact v_iret hC hlk hrt (by decide) dL_cure_24
      · rw [if_neg h1] at hF ⊢
        exact absurd rfl hF
  · have e0 : f_L_cure M a1 = (if v = 0 then rRet 0 (gset M1 10 0 0) else rRet 0 (gset M1 10 0 1)) := by
      unfold f_L_cure
      rw [hr]
      rfl
    rw [e0] at hF ⊢
    refine v_if_eq (tgt := 14) hC dL_cure_7 (by decide) (fun h => ?_) (fun h => ?_)
    · rw [if_pos h] at hF ⊢
      refine v_lconst hC (v := 0) dL_cure_14 (by decide) ?_
      refine v_last hC 0 (by decide) dL_cure_15 ?_
      refine v_goto (tgt := 25) hC dL_cure_16 (by decide) ?_
      refine v_iconst hC (v := 0) dL_cure_25 (by decide) ?_
      exact v_iret hC hlk hrt (by decide) dL_cure_26
    · rw [if_neg h] at hF ⊢
      refine v_lconst hC (v := 1) dL_cure_10 (by decide) ?_
      refine v_goto (tgt := 15) hC dL_cure_11 (by decide) ?_
      refine v_last hC 1 (by decide) dL_cure_15 ?_
      refine v_goto (tgt := 25) hC dL_cure_16 (by decide) ?_
      refine v_iconst hC (v := 0) dL_cure_25 (by decide) ?_
      exact v_iret hC hlk hrt (by decide) dL_cure_26
def f_L_extend (M : gM) (a1 : Int32) (a2 : Int32) (a3 : Int32) : gR := rc (f_X8_extend M a1 a2 a3) (fun v M1 => rRet 0 (gset M1 10 0 v)) (fun ex M1 => if ex = 0 then rRet 1 M1 else if ex = 1 then rRet 2 M1 else if ex = 2 then rRet 3 M1 else rStuck)
abbrev rm_L_extend : Room := { frames := 10, cells := 4, slots := 24, locals := 179 }
theorem mw_X8_extend : Cond.instanceMethod yX8_extend ∈ gWS ∧ Cond.selects RX8 yX8_extend yX8_extend ∈ gWS ∧ Cond.initialized RX8 ∈ gWS ∧ Cond.code yX8_extend cX8_extend 6 (some .int) ∈ gWS := ⟨gIx 913 (by decide +kernel) rfl, gIx 914 (by decide +kernel) rfl, gIx 75 (by decide +kernel) rfl, gIx 915 (by decide +kernel) rfl⟩
set_option maxRecDepth 20000 in
set_option maxHeartbeats 4000000 in
theorem c_L_extend {l : Launch} (hfl : l.stackTraces = false) (Z : gZ) (M : gM) (a1 : Int32) (a2 : Int32) (a3 : Int32) : gMetL l yL_extend cL_extend 6 [(0, 12, 15, 25), (0, 12, 19, 13), (0, 12, 23, 15)] rm_L_extend 4 Z M [.ref (zad Z 0), .int a1, .int a2, .int a3, .ref (zad Z 10)] (f_L_extend M a1 a2 a3) := by
  refine v_enter (by decide) (Nat.le_of_ble_eq_true rfl) (fun hF p e s m args below meth c hC hN hlk hrt hT => ?_)
  refine v_lv0 (lv1 := [(0, .ref (zad Z 0)), (1, .int a1), (2, .int a2), (3, .int a3), (4, .ref (zad Z 10))]) rfl ?_
  refine v_aload hC 4 dL_extend_0 rfl ?_
  refine v_iconst hC (v := 0) dL_extend_2 (by decide) ?_
  refine v_aload_n hC 0 dL_extend_3 rfl rfl ?_
  refine v_iload_n hC 1 dL_extend_4 rfl rfl ?_
  refine v_iload_n hC 2 dL_extend_5 rfl rfl ?_
  refine v_iload_n hC 3 dL_extend_6 rfl rfl ?_
  refine v_callHi (n := 3) hC [.int a1, .int a2, .int a3] 0 8 (by decide) rfl rfl (fun hne => c_X8_extend hfl Z M a1 a2 a3 hne) (rc_ne hF) (gIx 912 (by decide +kernel) rfl) mw_X8_extend.1 mw_X8_extend.2.1 mw_X8_extend.2.2.1 mw_X8_extend.2.2.2 ⟨rfl, by decide, by decide, by decide +kernel⟩ rfl rfl ⟨by decide, by decide⟩ rfl rfl (Nat.le_of_ble_eq_true rfl) (by decide) (by decide) dL_extend_7 (fun ex M1 hr => ?_) (fun v M1 hr => ?_)
  · have e0 : f_L_extend M a1 a2 a3 = (if ex = 0 then rRet 1 M1 else if ex = 1 then rRet 2 M1 else if ex = 2 then rRet 3 M1 else rStuck) := by
      unfold f_L_extend
      rw [hr]
      exact rc_thr _ _ _ _
    rw [e0] at hF ⊢
    by_cases h0 : ex = 0
    · subst h0
      rw [if_pos rfl] at hF ⊢
      refine ⟨[], ⟨0, 12, 15, 25⟩, [⟨0, 12, 19, 13⟩, ⟨0, 12, 23, 15⟩], gEx 0, hT.trans rfl, fun z hz => ?_, rfl, by decide, cl_L_25, by decide, fun q9 => ?_⟩
      · cases hz
      · refine v_astore hC (lv1 := [(5, .ref q9), (0, .ref (zad Z 0)), (1, .int a1), (2, .int a2), (3, .int a3), (4, .ref (zad Z 10))]) dL_extend_15 (by decide) rfl ?_
        refine v_iconst hC (v := 1) dL_extend_17 (by decide) ?_
        exact v_iret hC hlk hrt (by decide) dL_extend_18
    · rw [if_neg h0] at hF ⊢
      by_cases h1 : ex = 1
      · subst h1
        rw [if_pos rfl] at hF ⊢
        refine ⟨[⟨0, 12, 15, 25⟩], ⟨0, 12, 19, 13⟩, [⟨0, 12, 23, 15⟩], gEx 1, hT.trans rfl, fun z hz => ?_, rfl, by decide, cl_L_13, by decide, fun q9 => ?_⟩
        · simp only [List.mem_cons, List.not_mem_nil, or_false] at hz
          subst hz
          exact Or.inr ⟨by decide, gEx 0, cl_L_25, hN 1 0 (by decide) (by decide) (by decide)⟩
        · refine v_astore hC (lv1 := [(5, .ref q9), (0, .ref (zad Z 0)), (1, .int a1), (2, .int a2), (3, .int a3), (4, .ref (zad Z 10))]) dL_extend_19 (by decide) rfl ?_
          refine v_iconst hC (v := 2) dL_extend_21 (by decide) ?_
          exact v_iret hC hlk hrt (by decide) dL_extend_22
      · rw [if_neg h1] at hF ⊢
        by_cases h2 : ex = 2
        · subst h2
          rw [if_pos rfl] at hF ⊢
          refine ⟨[⟨0, 12, 15, 25⟩, ⟨0, 12, 19, 13⟩], ⟨0, 12, 23, 15⟩, [], gEx 2, hT.trans rfl, fun z hz => ?_, rfl, by decide, cl_L_15, by decide, fun q9 => ?_⟩
          · simp only [List.mem_cons, List.not_mem_nil, or_false] at hz
            rcases hz with hz | hz
            · subst hz
              exact Or.inr ⟨by decide, gEx 0, cl_L_25, hN 2 0 (by decide) (by decide) (by decide)⟩
            · subst hz
              exact Or.inr ⟨by decide, gEx 1, cl_L_13, hN 2 1 (by decide) (by decide) (by decide)⟩
          · refine v_astore hC (lv1 := [(5, .ref q9), (0, .ref (zad Z 0)), (1, .int a1), (2, .int a2), (3, .int a3), (4, .ref (zad Z 10))]) dL_extend_23 (by decide) rfl ?_
            refine v_iconst hC (v := 3) dL_extend_25 (by decide) ?_
            exact v_iret hC hlk hrt (by decide) dL_extend_26
        · rw [if_neg h2] at hF ⊢
          exact absurd rfl hF
  · have e0 : f_L_extend M a1 a2 a3 = rRet 0 (gset M1 10 0 v) := by
      unfold f_L_extend
      rw [hr]
      rfl
    rw [e0] at hF ⊢
    refine v_i2l hC dL_extend_10 ?_
    refine v_last hC v rfl dL_extend_11 ?_
    refine v_goto (tgt := 27) hC dL_extend_12 (by decide) ?_
    refine v_iconst hC (v := 0) dL_extend_27 (by decide) ?_
    exact v_iret hC hlk hrt (by decide) dL_extend_28
def f_L_hearing (M : gM) (a1 : Int32) (a2 : Int32) (a3 : Int32) : gR := rc (f_X8_hearing M a1 a2 a3) (fun v M1 => rRet 0 (gset M1 10 0 v)) (fun ex M1 => if ex = 0 then rRet 1 M1 else if ex = 1 then rRet 2 M1 else if ex = 2 then rRet 3 M1 else rStuck)
abbrev rm_L_hearing : Room := { frames := 8, cells := 2, slots := 12, locals := 134 }
theorem mw_X8_hearing : Cond.instanceMethod yX8_hearing ∈ gWS ∧ Cond.selects RX8 yX8_hearing yX8_hearing ∈ gWS ∧ Cond.initialized RX8 ∈ gWS ∧ Cond.code yX8_hearing cX8_hearing 4 (some .int) ∈ gWS := ⟨gIx 931 (by decide +kernel) rfl, gIx 932 (by decide +kernel) rfl, gIx 75 (by decide +kernel) rfl, gIx 933 (by decide +kernel) rfl⟩
set_option maxRecDepth 20000 in
set_option maxHeartbeats 4000000 in
theorem c_L_hearing {l : Launch} (hfl : l.stackTraces = false) (Z : gZ) (M : gM) (a1 : Int32) (a2 : Int32) (a3 : Int32) : gMetL l yL_hearing cL_hearing 6 [(0, 12, 15, 25), (0, 12, 19, 13), (0, 12, 23, 15)] rm_L_hearing 2 Z M [.ref (zad Z 0), .int a1, .int a2, .int a3, .ref (zad Z 10)] (f_L_hearing M a1 a2 a3) := by
  refine v_enter (by decide) (Nat.le_of_ble_eq_true rfl) (fun hF p e s m args below meth c hC hN hlk hrt hT => ?_)
  refine v_lv0 (lv1 := [(0, .ref (zad Z 0)), (1, .int a1), (2, .int a2), (3, .int a3), (4, .ref (zad Z 10))]) rfl ?_
  refine v_aload hC 4 dL_hearing_0 rfl ?_
  refine v_iconst hC (v := 0) dL_hearing_2 (by decide) ?_
  refine v_aload_n hC 0 dL_hearing_3 rfl rfl ?_
  refine v_iload_n hC 1 dL_hearing_4 rfl rfl ?_
  refine v_iload_n hC 2 dL_hearing_5 rfl rfl ?_
  refine v_iload_n hC 3 dL_hearing_6 rfl rfl ?_
  refine v_callHi (n := 3) hC [.int a1, .int a2, .int a3] 0 8 (by decide) rfl rfl (fun hne => c_X8_hearing hfl Z M a1 a2 a3 hne) (rc_ne hF) (gIx 930 (by decide +kernel) rfl) mw_X8_hearing.1 mw_X8_hearing.2.1 mw_X8_hearing.2.2.1 mw_X8_hearing.2.2.2 ⟨rfl, by decide, by decide, by decide +kernel⟩ rfl rfl ⟨by decide, by decide⟩ rfl rfl (Nat.le_of_ble_eq_true rfl) (by decide) (by decide) dL_hearing_7 (fun ex M1 hr => ?_) (fun v M1 hr => ?_)
  · have e0 : f_L_hearing M a1 a2 a3 = (if ex = 0 then rRet 1 M1 else if ex = 1 then rRet 2 M1 else if ex = 2 then rRet 3 M1 else rStuck) := by
      unfold f_L_hearing
      rw [hr]
      exact rc_thr _ _ _ _
    rw [e0] at hF ⊢
    by_cases h0 : ex = 0
    · subst h0
      rw [if_pos rfl] at hF ⊢
      refine ⟨[], ⟨0, 12, 15, 25⟩, [⟨0, 12, 19, 13⟩, ⟨0, 12, 23, 15⟩], gEx 0, hT.trans rfl, fun z hz => ?_, rfl, by decide, cl_L_25, by decide, fun q9 => ?_⟩
      · cases hz
      · refine v_astore hC (lv1 := [(5, .ref q9), (0, .ref (zad Z 0)), (1, .int a1), (2, .int a2), (3, .int a3), (4, .ref (zad Z 10))]) dL_hearing_15 (by decide) rfl ?_
        refine v_iconst hC (v := 1) dL_hearing_17 (by decide) ?_
        exact v_iret hC hlk hrt (by decide) dL_hearing_18
    · rw [if_neg h0] at hF ⊢
      by_cases h1 : ex = 1
      · subst h1
        rw [if_pos rfl] at hF ⊢
        refine ⟨[⟨0, 12, 15, 25⟩], ⟨0, 12, 19, 13⟩, [⟨0, 12, 23, 15⟩], gEx 1, hT.trans rfl, fun z hz => ?_, rfl, by decide, cl_L_13, by decide, fun q9 => ?_⟩
        · simp only [List.mem_cons, List.not_mem_nil, or_false] at hz
          subst hz
          exact Or.inr ⟨by decide, gEx 0, cl_L_25, hN 1 0 (by decide) (by decide) (by decide)⟩
        · refine v_astore hC (lv1 := [(5, .ref q9), (0, .ref (zad Z 0)), (1, .int a1), (2, .int a2), (3, .int a3), (4, .ref (zad Z 10))]) dL_hearing_19 (by decide) rfl ?_
          refine v_iconst hC (v := 2) dL_hearing_21 (by decide) ?_
          exact v_iret hC hlk hrt (by decide) dL_hearing_22
      · rw [if_neg h1] at hF ⊢
        by_cases h2 : ex = 2
        · subst h2
          rw [if_pos rfl] at hF ⊢
          refine ⟨[⟨0, 12, 15, 25⟩, ⟨0, 12, 19, 13⟩], ⟨0, 12, 23, 15⟩, [], gEx 2, hT.trans rfl, fun z hz => ?_, rfl, by decide, cl_L_15, by decide, fun q9 => ?_⟩
          · simp only [List.mem_cons, List.not_mem_nil, or_false] at hz
            rcases hz with hz | hz
            · subst hz
              exact Or.inr ⟨by decide, gEx 0, cl_L_25, hN 2 0 (by decide) (by decide) (by decide)⟩
            · subst hz
              exact Or.inr ⟨by decide, gEx 1, cl_L_13, hN 2 1 (by decide) (by decide) (by decide)⟩
          · refine v_astore hC (lv1 := [(5, .ref q9), (0, .ref (zad Z 0)), (1, .int a1), (2, .int a2), (3, .int a3), (4, .ref (zad Z 10))]) dL_hearing_23 (by decide) rfl ?_
            refine v_iconst hC (v := 3) dL_hearing_25 (by decide) ?_
            exact v_iret hC hlk hrt (by decide) dL_hearing_26
        · rw [if_neg h2] at hF ⊢
          exact absurd rfl hF
  · have e0 : f_L_hearing M a1 a2 a3 = rRet 0 (gset M1 10 0 v) := by
      unfold f_L_hearing
      rw [hr]
      rfl
    rw [e0] at hF ⊢
    refine v_i2l hC dL_hearing_10 ?_
    refine v_last hC v rfl dL_hearing_11 ?_
    refine v_goto (tgt := 27) hC dL_hearing_12 (by decide) ?_
    refine v_iconst hC (v := 0) dL_hearing_27 (by decide) ?_
    exact v_iret hC hlk hrt (by decide) dL_hearing_28
def f_L_continueHearing (M : gM) (a1 : Int32) : gR := rc (f_X8_continueHearing M a1) (fun v M1 => rRet 0 (gset M1 10 0 v)) (fun ex M1 => if ex = 0 then rRet 1 M1 else if ex = 2 then rRet 2 M1 else rStuck)
abbrev rm_L_continueHearing : Room := { frames := 8, cells := 2, slots := 12, locals := 133 }
theorem mw_X8_continueHearing : Cond.instanceMethod yX8_continueHearing ∈ gWS ∧ Cond.selects RX8 yX8_continueHearing yX8_continueHearing ∈ gWS ∧ Cond.initialized RX8 ∈ gWS ∧ Cond.code yX8_continueHearing cX8_continueHearing 3 (some .int) ∈ gWS := ⟨gIx 956 (by decide +kernel) rfl, gIx 957 (by decide +kernel) rfl, gIx 75 (by decide +kernel) rfl, gIx 958 (by decide +kernel) rfl⟩
set_option maxRecDepth 20000 in
set_option maxHeartbeats 4000000 in
theorem c_L_continueHearing {l : Launch} (hfl : l.stackTraces = false) (Z : gZ) (M : gM) (a1 : Int32) : gMetL l yL_continueHearing cL_continueHearing 4 [(0, 9, 12, 25), (0, 9, 15, 15)] rm_L_continueHearing 2 Z M [.ref (zad Z 0), .int a1, .ref (zad Z 10)] (f_L_continueHearing M a1) := by
  refine v_enter (by decide) (Nat.le_of_ble_eq_true rfl) (fun hF p e s m args below meth c hC hN hlk hrt hT => ?_)
  refine v_lv0 (lv1 := [(0, .ref (zad Z 0)), (1, .int a1), (2, .ref (zad Z 10))]) rfl ?_
  refine v_aload_n hC 2 dL_continueHearing_0 rfl rfl ?_
  refine v_iconst hC (v := 0) dL_continueHearing_1 (by decide) ?_
  refine v_aload_n hC 0 dL_continueHearing_2 rfl rfl ?_
  refine v_iload_n hC 1 dL_continueHearing_3 rfl rfl ?_
  refine v_callHi (n := 1) hC [.int a1] 0 8 (by decide) rfl rfl (fun hne => c_X8_continueHearing hfl Z M a1 hne) (rc_ne hF) (gIx 955 (by decide +kernel) rfl) mw_X8_continueHearing.1 mw_X8_continueHearing.2.1 mw_X8_continueHearing.2.2.1 mw_X8_continueHearing.2.2.2 ⟨rfl, by decide, by decide, by decide +kernel⟩ rfl rfl ⟨by decide, by decide⟩ rfl rfl (Nat.le_of_ble_eq_true rfl) (by decide) (by decide) dL_continueHearing_4 (fun ex M1 hr => ?_) (fun v M1 hr => ?_)
  · have e0 : f_L_continueHearing M a1 = (if ex = 0 then rRet 1 M1 else if ex = 2 then rRet 2 M1 else rStuck) := by
      unfold f_L_continueHearing
      rw [hr]
      exact rc_thr _ _ _ _
    rw [e0] at hF ⊢
    by_cases h0 : ex = 0
    · subst h0
      rw [if_pos rfl] at hF ⊢
      refine ⟨[], ⟨0, 9, 12, 25⟩, [⟨0, 9, 15, 15⟩], gEx 0, hT.trans rfl, fun z hz => ?_, rfl, by decide, cl_L_25, by decide, fun q9 => ?_⟩
      · cases hz
      · refine v_astore_n hC (lv1 := [(3, .ref q9), (0, .ref (zad Z 0)), (1, .int a1), (2, .ref (zad Z 10))]) dL_continueHearing_12 rfl (by decide) rfl ?_
        refine v_iconst hC (v := 1) dL_continueHearing_13 (by decide) ?_
        exact v_iret hC hlk hrt (by decide) dL_continueHearing_14
    · rw [if_neg h0] at hF ⊢
      by_cases h1 : ex = 2
      · subst h1
        rw [if_pos rfl] at hF ⊢
        refine ⟨[⟨0, 9, 12, 25⟩], ⟨0, 9, 15, 15⟩, [], gEx 2, hT.trans rfl, fun z hz => ?_, rfl, by decide, cl_L_15, by decide, fun q9 => ?_⟩
        · simp only [List.mem_cons, List.not_mem_nil, or_false] at hz
          subst hz
          exact Or.inr ⟨by decide, gEx 0, cl_L_25, hN 2 0 (by decide) (by decide) (by decide)⟩
        · refine v_astore_n hC (lv1 := [(3, .ref q9), (0, .ref (zad Z 0)), (1, .int a1), (2, .ref (zad Z 10))]) dL_continueHearing_15 rfl (by decide) rfl ?_
          refine v_iconst hC (v := 2) dL_continueHearing_16 (by decide) ?_
          exact v_iret hC hlk hrt (by decide) dL_continueHearing_17
      · rw [if_neg h1] at hF ⊢
        exact absurd rfl hF
  · have e0 : f_L_continueHearing M a1 = rRet 0 (gset M1 10 0 v) := by
      unfold f_L_continueHearing
      rw [hr]
      rfl
    rw [e0] at hF ⊢
    refine v_i2l hC dL_continueHearing_7 ?_
    refine v_last hC v rfl dL_continueHearing_8 ?_
    refine v_goto (tgt := 18) hC dL_continueHearing_9 (by decide) ?_
    refine v_iconst hC (v := 0) dL_continueHearing_18 (by decide) ?_
    exact v_iret hC hlk hrt (by decide) dL_continueHearing_19
def f_L_strike (M : gM) (a1 : Int32) (a2 : Int32) (a3 : Int32) : gR := rc (f_X8_strike M a1 a2 a3) (fun v M1 => rRet 0 (gset M1 10 0 v)) (fun ex M1 => if ex = 0 then rRet 1 M1 else if ex = 2 then rRet 2 M1 else rStuck)
abbrev rm_L_strike : Room := { frames := 8, cells := 4, slots := 24, locals := 134 }
theorem mw_X8_strike : Cond.instanceMethod yX8_strike ∈ gWS ∧ Cond.selects RX8 yX8_strike yX8_strike ∈ gWS ∧ Cond.initialized RX8 ∈ gWS ∧ Cond.code yX8_strike cX8_strike 4 (some .int) ∈ gWS := ⟨gIx 973 (by decide +kernel) rfl, gIx 974 (by decide +kernel) rfl, gIx 75 (by decide +kernel) rfl, gIx 975 (by decide +kernel) rfl⟩
set_option maxRecDepth 20000 in
set_option maxHeartbeats 4000000 in
theorem c_L_strike {l : Launch} (hfl : l.stackTraces = false) (Z : gZ) (M : gM) (a1 : Int32) (a2 : Int32) (a3 : Int32) : gMetL l yL_strike cL_strike 6 [(0, 12, 15, 25), (0, 12, 19, 15)] rm_L_strike 4 Z M [.ref (zad Z 0), .int a1, .int a2, .int a3, .ref (zad Z 10)] (f_L_strike M a1 a2 a3) := by
  refine v_enter (by decide) (Nat.le_of_ble_eq_true rfl) (fun hF p e s m args below meth c hC hN hlk hrt hT => ?_)
  refine v_lv0 (lv1 := [(0, .ref (zad Z 0)), (1, .int a1), (2, .int a2), (3, .int a3), (4, .ref (zad Z 10))]) rfl ?_
  refine v_aload hC 4 dL_strike_0 rfl ?_
  refine v_iconst hC (v := 0) dL_strike_2 (by decide) ?_
  refine v_aload_n hC 0 dL_strike_3 rfl rfl ?_
  refine v_iload_n hC 1 dL_strike_4 rfl rfl ?_
  refine v_iload_n hC 2 dL_strike_5 rfl rfl ?_
  refine v_iload_n hC 3 dL_strike_6 rfl rfl ?_
  refine v_callHi (n := 3) hC [.int a1, .int a2, .int a3] 0 8 (by decide) rfl rfl (fun hne => c_X8_strike hfl Z M a1 a2 a3 hne) (rc_ne hF) (gIx 972 (by decide +kernel) rfl) mw_X8_strike.1 mw_X8_strike.2.1 mw_X8_strike.2.2.1 mw_X8_strike.2.2.2 ⟨rfl, by decide, by decide, by decide +kernel⟩ rfl rfl ⟨by decide, by decide⟩ rfl rfl (Nat.le_of_ble_eq_true rfl) (by decide) (by decide) dL_strike_7 (fun ex M1 hr => ?_) (fun v M1 hr => ?_)
  · have e0 : f_L_strike M a1 a2 a3 = (if ex = 0 then rRet 1 M1 else if ex = 2 then rRet 2 M1 else rStuck) := by
      unfold f_L_strike
      rw [hr]
      exact rc_thr _ _ _ _
    rw [e0] at hF ⊢
    by_cases h0 : ex = 0
    · subst h0
      rw [if_pos rfl] at hF ⊢
      refine ⟨[], ⟨0, 12, 15, 25⟩, [⟨0, 12, 19, 15⟩], gEx 0, hT.trans rfl, fun z hz => ?_, rfl, by decide, cl_L_25, by decide, fun q9 => ?_⟩
      · cases hz
      · refine v_astore hC (lv1 := [(5, .ref q9), (0, .ref (zad Z 0)), (1, .int a1), (2, .int a2), (3, .int a3), (4, .ref (zad Z 10))]) dL_strike_15 (by decide) rfl ?_
        refine v_iconst hC (v := 1) dL_strike_17 (by decide) ?_
        exact v_iret hC hlk hrt (by decide) dL_strike_18
    · rw [if_neg h0] at hF ⊢
      by_cases h1 : ex = 2
      · subst h1
        rw [if_pos rfl] at hF ⊢
        refine ⟨[⟨0, 12, 15, 25⟩], ⟨0, 12, 19, 15⟩, [], gEx 2, hT.trans rfl, fun z hz => ?_, rfl, by decide, cl_L_15, by decide, fun q9 => ?_⟩
        · simp only [List.mem_cons, List.not_mem_nil, or_false] at hz
          subst hz
          exact Or.inr ⟨by decide, gEx 0, cl_L_25, hN 2 0 (by decide) (by decide) (by decide)⟩
        · refine v_astore hC (lv1 := [(5, .ref q9), (0, .ref (zad Z 0)), (1, .int a1), (2, .int a2), (3, .int a3), (4, .ref (zad Z 10))]) dL_strike_19 (by decide) rfl ?_
          refine v_iconst hC (v := 2) dL_strike_21 (by decide) ?_
          exact v_iret hC hlk hrt (by decide) dL_strike_22
      · rw [if_neg h1] at hF ⊢
        exact absurd rfl hF
  · have e0 : f_L_strike M a1 a2 a3 = rRet 0 (gset M1 10 0 v) := by
      unfold f_L_strike
      rw [hr]
      rfl
    rw [e0] at hF ⊢
    refine v_i2l hC dL_strike_10 ?_
    refine v_last hC v rfl dL_strike_11 ?_
    refine v_goto (tgt := 23) hC dL_strike_12 (by decide) ?_
    refine v_iconst hC (v := 0) dL_strike_23 (by decide) ?_
    exact v_iret hC hlk hrt (by decide) dL_strike_24
def f_L_dismiss (M : gM) (a1 : Int32) (a2 : Int32) : gR := rc (f_X8_dismiss M a1 a2) (fun v M1 => rRet 0 (gset M1 10 0 v)) (fun ex M1 => if ex = 0 then rRet 1 M1 else if ex = 2 then rRet 2 M1 else rStuck)
abbrev rm_L_dismiss : Room := { frames := 8, cells := 3, slots := 18, locals := 135 }
theorem mw_X8_dismiss : Cond.instanceMethod yX8_dismiss ∈ gWS ∧ Cond.selects RX8 yX8_dismiss yX8_dismiss ∈ gWS ∧ Cond.initialized RX8 ∈ gWS ∧ Cond.code yX8_dismiss cX8_dismiss 5 (some .int) ∈ gWS := ⟨gIx 1008 (by decide +kernel) rfl, gIx 1009 (by decide +kernel) rfl, gIx 75 (by decide +kernel) rfl, gIx 1010 (by decide +kernel) rfl⟩
set_option maxRecDepth 20000 in
set_option maxHeartbeats 4000000 in
theorem c_L_dismiss {l : Launch} (hfl : l.stackTraces = false) (Z : gZ) (M : gM) (a1 : Int32) (a2 : Int32) : gMetL l yL_dismiss cL_dismiss 5 [(0, 10, 13, 25), (0, 10, 17, 15)] rm_L_dismiss 3 Z M [.ref (zad Z 0), .int a1, .int a2, .ref (zad Z 10)] (f_L_dismiss M a1 a2) := by
  refine v_enter (by decide) (Nat.le_of_ble_eq_true rfl) (fun hF p e s m args below meth c hC hN hlk hrt hT => ?_)
  refine v_lv0 (lv1 := [(0, .ref (zad Z 0)), (1, .int a1), (2, .int a2), (3, .ref (zad Z 10))]) rfl ?_
  refine v_aload_n hC 3 dL_dismiss_0 rfl rfl ?_
  refine v_iconst hC (v := 0) dL_dismiss_1 (by decide) ?_
  refine v_aload_n hC 0 dL_dismiss_2 rfl rfl ?_
  refine v_iload_n hC 1 dL_dismiss_3 rfl rfl ?_
  refine v_iload_n hC 2 dL_dismiss_4 rfl rfl ?_
  refine v_callHi (n := 2) hC [.int a1, .int a2] 0 8 (by decide) rfl rfl (fun hne => c_X8_dismiss hfl Z M a1 a2 hne) (rc_ne hF) (gIx 1007 (by decide +kernel) rfl) mw_X8_dismiss.1 mw_X8_dismiss.2.1 mw_X8_dismiss.2.2.1 mw_X8_dismiss.2.2.2 ⟨rfl, by decide, by decide, by decide +kernel⟩ rfl rfl ⟨by decide, by decide⟩ rfl rfl (Nat.le_of_ble_eq_true rfl) (by decide) (by decide) dL_dismiss_5 (fun ex M1 hr => ?_) (fun v M1 hr => ?_)
  · have e0 : f_L_dismiss M a1 a2 = (if ex = 0 then rRet 1 M1 else if ex = 2 then rRet 2 M1 else rStuck) := by
      unfold f_L_dismiss
      rw [hr]
      exact rc_thr _ _ _ _
    rw [e0] at hF ⊢
    by_cases h0 : ex = 0
    · subst h0
      rw [if_pos rfl] at hF ⊢
      refine ⟨[], ⟨0, 10, 13, 25⟩, [⟨0, 10, 17, 15⟩], gEx 0, hT.trans rfl, fun z hz => ?_, rfl, by decide, cl_L_25, by decide, fun q9 => ?_⟩
      · cases hz
      · refine v_astore hC (lv1 := [(4, .ref q9), (0, .ref (zad Z 0)), (1, .int a1), (2, .int a2), (3, .ref (zad Z 10))]) dL_dismiss_13 (by decide) rfl ?_
        refine v_iconst hC (v := 1) dL_dismiss_15 (by decide) ?_
        exact v_iret hC hlk hrt (by decide) dL_dismiss_16
    · rw [if_neg h0] at hF ⊢
      by_cases h1 : ex = 2
      · subst h1
        rw [if_pos rfl] at hF ⊢
        refine ⟨[⟨0, 10, 13, 25⟩], ⟨0, 10, 17, 15⟩, [], gEx 2, hT.trans rfl, fun z hz => ?_, rfl, by decide, cl_L_15, by decide, fun q9 => ?_⟩
        · simp only [List.mem_cons, List.not_mem_nil, or_false] at hz
          subst hz
          exact Or.inr ⟨by decide, gEx 0, cl_L_25, hN 2 0 (by decide) (by decide) (by decide)⟩
        · refine v_astore hC (lv1 := [(4, .ref q9), (0, .ref (zad Z 0)), (1, .int a1), (2, .int a2), (3, .ref (zad Z 10))]) dL_dismiss_17 (by decide) rfl ?_
          refine v_iconst hC (v := 2) dL_dismiss_19 (by decide) ?_
          exact v_iret hC hlk hrt (by decide) dL_dismiss_20
      · rw [if_neg h1] at hF ⊢
        exact absurd rfl hF
  · have e0 : f_L_dismiss M a1 a2 = rRet 0 (gset M1 10 0 v) := by
      unfold f_L_dismiss
      rw [hr]
      rfl
    rw [e0] at hF ⊢
    refine v_i2l hC dL_dismiss_8 ?_
    refine v_last hC v rfl dL_dismiss_9 ?_
    refine v_goto (tgt := 21) hC dL_dismiss_10 (by decide) ?_
    refine v_iconst hC (v := 0) dL_dismiss_21 (by decide) ?_
    exact v_iret hC hlk hrt (by decide) dL_dismiss_22
def f_L_seat (M : gM) (a1 : Int32) (a2 : Int32) : gR := rc (f_X8_seat M a1 a2) (fun v M1 => rRet 0 (gset M1 10 0 v)) (fun ex M1 => if ex = 0 then rRet 1 M1 else rStuck)
abbrev rm_L_seat : Room := { frames := 8, cells := 2, slots := 12, locals := 133 }
theorem mw_X8_seat : Cond.instanceMethod yX8_seat ∈ gWS ∧ Cond.selects RX8 yX8_seat yX8_seat ∈ gWS ∧ Cond.initialized RX8 ∈ gWS ∧ Cond.code yX8_seat cX8_seat 3 (some .int) ∈ gWS := ⟨gIx 1032 (by decide +kernel) rfl, gIx 1033 (by decide +kernel) rfl, gIx 75 (by decide +kernel) rfl, gIx 1034 (by decide +kernel) rfl⟩
set_option maxRecDepth 20000 in
set_option maxHeartbeats 4000000 in
theorem c_L_seat {l : Launch} (hfl : l.stackTraces = false) (Z : gZ) (M : gM) (a1 : Int32) (a2 : Int32) : gMetL l yL_seat cL_seat 5 [(0, 10, 13, 25)] rm_L_seat 2 Z M [.ref (zad Z 0), .int a1, .int a2, .ref (zad Z 10)] (f_L_seat M a1 a2) := by
  refine v_enter (by decide) (Nat.le_of_ble_eq_true rfl) (fun hF p e s m args below meth c hC hN hlk hrt hT => ?_)
  refine v_lv0 (lv1 := [(0, .ref (zad Z 0)), (1, .int a1), (2, .int a2), (3, .ref (zad Z 10))]) rfl ?_
  refine v_aload_n hC 3 dL_seat_0 rfl rfl ?_
  refine v_iconst hC (v := 0) dL_seat_1 (by decide) ?_
  refine v_aload_n hC 0 dL_seat_2 rfl rfl ?_
  refine v_iload_n hC 1 dL_seat_3 rfl rfl ?_
  refine v_iload_n hC 2 dL_seat_4 rfl rfl ?_
  refine v_callHi (n := 2) hC [.int a1, .int a2] 0 8 (by decide) rfl rfl (fun hne => c_X8_seat hfl Z M a1 a2 hne) (rc_ne hF) (gIx 1031 (by decide +kernel) rfl) mw_X8_seat.1 mw_X8_seat.2.1 mw_X8_seat.2.2.1 mw_X8_seat.2.2.2 ⟨rfl, by decide, by decide, by decide +kernel⟩ rfl rfl ⟨by decide, by decide⟩ rfl rfl (Nat.le_of_ble_eq_true rfl) (by decide) (by decide) dL_seat_5 (fun ex M1 hr => ?_) (fun v M1 hr => ?_)
  · have e0 : f_L_seat M a1 a2 = (if ex = 0 then rRet 1 M1 else rStuck) := by
      unfold f_L_seat
      rw [hr]
      exact rc_thr _ _ _ _
    rw [e0] at hF ⊢
    by_cases h0 : ex = 0
    · subst h0
      rw [if_pos rfl] at hF ⊢
      refine ⟨[], ⟨0, 10, 13, 25⟩, [], gEx 0, hT.trans rfl, fun z hz => ?_, rfl, by decide, cl_L_25, by decide, fun q9 => ?_⟩
      · cases hz
      · refine v_astore hC (lv1 := [(4, .ref q9), (0, .ref (zad Z 0)), (1, .int a1), (2, .int a2), (3, .ref (zad Z 10))]) dL_seat_13 (by decide) rfl ?_
        refine v_iconst hC (v := 1) dL_seat_15 (by decide) ?_
        exact v_iret hC hlk hrt (by decide) dL_seat_16
    · rw [if_neg h0] at hF ⊢
      exact absurd rfl hF
  · have e0 : f_L_seat M a1 a2 = rRet 0 (gset M1 10 0 v) := by
      unfold f_L_seat
      rw [hr]
      rfl
    rw [e0] at hF ⊢
    refine v_i2l hC dL_seat_8 ?_
    refine v_last hC v rfl dL_seat_9 ?_
    refine v_goto (tgt := 17) hC dL_seat_10 (by decide) ?_
    refine v_iconst hC (v := 0) dL_seat_17 (by decide) ?_
    exact v_iret hC hlk hrt (by decide) dL_seat_18
def f_L_exhibit (M : gM) (a1 : Int32) (a2 : Int32) : gR := rc (f_X8_exhibit M a1 a2) (fun v M1 => rRet 0 (gset M1 10 0 v)) (fun ex M1 => if ex = 0 then rRet 1 M1 else if ex = 2 then rRet 2 M1 else rStuck)
abbrev rm_L_exhibit : Room := { frames := 8, cells := 3, slots := 18, locals := 133 }
theorem mw_X8_exhibit : Cond.instanceMethod yX8_exhibit ∈ gWS ∧ Cond.selects RX8 yX8_exhibit yX8_exhibit ∈ gWS ∧ Cond.initialized RX8 ∈ gWS ∧ Cond.code yX8_exhibit cX8_exhibit 3 (some .int) ∈ gWS := ⟨gIx 1041 (by decide +kernel) rfl, gIx 1042 (by decide +kernel) rfl, gIx 75 (by decide +kernel) rfl, gIx 1043 (by decide +kernel) rfl⟩
set_option maxRecDepth 20000 in
set_option maxHeartbeats 4000000 in
theorem c_L_exhibit {l : Launch} (hfl : l.stackTraces = false) (Z : gZ) (M : gM) (a1 : Int32) (a2 : Int32) : gMetL l yL_exhibit cL_exhibit 5 [(0, 10, 13, 25), (0, 10, 17, 15)] rm_L_exhibit 3 Z M [.ref (zad Z 0), .int a1, .int a2, .ref (zad Z 10)] (f_L_exhibit M a1 a2) := by
  refine v_enter (by decide) (Nat.le_of_ble_eq_true rfl) (fun hF p e s m args below meth c hC hN hlk hrt hT => ?_)
  refine v_lv0 (lv1 := [(0, .ref (zad Z 0)), (1, .int a1), (2, .int a2), (3, .ref (zad Z 10))]) rfl ?_
  refine v_aload_n hC 3 dL_exhibit_0 rfl rfl ?_
  refine v_iconst hC (v := 0) dL_exhibit_1 (by decide) ?_
  refine v_aload_n hC 0 dL_exhibit_2 rfl rfl ?_
  refine v_iload_n hC 1 dL_exhibit_3 rfl rfl ?_
  refine v_iload_n hC 2 dL_exhibit_4 rfl rfl ?_
  refine v_callHi (n := 2) hC [.int a1, .int a2] 0 8 (by decide) rfl rfl (fun hne => c_X8_exhibit hfl Z M a1 a2 hne) (rc_ne hF) (gIx 1040 (by decide +kernel) rfl) mw_X8_exhibit.1 mw_X8_exhibit.2.1 mw_X8_exhibit.2.2.1 mw_X8_exhibit.2.2.2 ⟨rfl, by decide, by decide, by decide +kernel⟩ rfl rfl ⟨by decide, by decide⟩ rfl rfl (Nat.le_of_ble_eq_true rfl) (by decide) (by decide) dL_exhibit_5 (fun ex M1 hr => ?_) (fun v M1 hr => ?_)
  · have e0 : f_L_exhibit M a1 a2 = (if ex = 0 then rRet 1 M1 else if ex = 2 then rRet 2 M1 else rStuck) := by
      unfold f_L_exhibit
      rw [hr]
      exact rc_thr _ _ _ _
    rw [e0] at hF ⊢
    by_cases h0 : ex = 0
    · subst h0
      rw [if_pos rfl] at hF ⊢
      refine ⟨[], ⟨0, 10, 13, 25⟩, [⟨0, 10, 17, 15⟩], gEx 0, hT.trans rfl, fun z hz => ?_, rfl, by decide, cl_L_25, by decide, fun q9 => ?_⟩
      · cases hz
      · refine v_astore hC (lv1 := [(4, .ref q9), (0, .ref (zad Z 0)), (1, .int a1), (2, .int a2), (3, .ref (zad Z 10))]) dL_exhibit_13 (by decide) rfl ?_
        refine v_iconst hC (v := 1) dL_exhibit_15 (by decide) ?_
        exact v_iret hC hlk hrt (by decide) dL_exhibit_16
    · rw [if_neg h0] at hF ⊢
      by_cases h1 : ex = 2
      · subst h1
        rw [if_pos rfl] at hF ⊢
        refine ⟨[⟨0, 10, 13, 25⟩], ⟨0, 10, 17, 15⟩, [], gEx 2, hT.trans rfl, fun z hz => ?_, rfl, by decide, cl_L_15, by decide, fun q9 => ?_⟩
        · simp only [List.mem_cons, List.not_mem_nil, or_false] at hz
          subst hz
          exact Or.inr ⟨by decide, gEx 0, cl_L_25, hN 2 0 (by decide) (by decide) (by decide)⟩
        · refine v_astore hC (lv1 := [(4, .ref q9), (0, .ref (zad Z 0)), (1, .int a1), (2, .int a2), (3, .ref (zad Z 10))]) dL_exhibit_17 (by decide) rfl ?_
          refine v_iconst hC (v := 2) dL_exhibit_19 (by decide) ?_
          exact v_iret hC hlk hrt (by decide) dL_exhibit_20
      · rw [if_neg h1] at hF ⊢
        exact absurd rfl hF
  · have e0 : f_L_exhibit M a1 a2 = rRet 0 (gset M1 10 0 v) := by
      unfold f_L_exhibit
      rw [hr]
      rfl
    rw [e0] at hF ⊢
    refine v_i2l hC dL_exhibit_8 ?_
    refine v_last hC v rfl dL_exhibit_9 ?_
    refine v_goto (tgt := 21) hC dL_exhibit_10 (by decide) ?_
    refine v_iconst hC (v := 0) dL_exhibit_21 (by decide) ?_
    exact v_iret hC hlk hrt (by decide) dL_exhibit_22
def f_L_hand (M : gM) (a1 : Int32) (a2 : Int32) (a3 : Int32) : gR := rc (f_X8_hand M a1 a2 a3) (fun v M1 => if v = 0 then rRet 0 (gset M1 10 0 0) else rRet 0 (gset M1 10 0 1)) (fun ex M1 => if ex = 0 then rRet 1 M1 else rStuck)
abbrev rm_L_hand : Room := { frames := 8, cells := 3, slots := 18, locals := 134 }
theorem mw_X8_hand : Cond.instanceMethod yX8_hand ∈ gWS ∧ Cond.selects RX8 yX8_hand yX8_hand ∈ gWS ∧ Cond.initialized RX8 ∈ gWS ∧ Cond.code yX8_hand cX8_hand 4 (some .boolean) ∈ gWS := ⟨gIx 1053 (by decide +kernel) rfl, gIx 1054 (by decide +kernel) rfl, gIx 75 (by decide +kernel) rfl, gIx 1055 (by decide +kernel) rfl⟩
set_option maxRecDepth 20000 in
set_option maxHeartbeats 4000000 in
theorem c_L_hand {l : Launch} (hfl : l.stackTraces = false) (Z : gZ) (M : gM) (a1 : Int32) (a2 : Int32) (a3 : Int32) : gMetL l yL_hand cL_hand 6 [(0, 19, 22, 25)] rm_L_hand 3 Z M [.ref (zad Z 0), .int a1, .int a2, .int a3, .ref (zad Z 10)] (f_L_hand M a1 a2 a3) := by
  refine v_enter (by decide) (Nat.le_of_ble_eq_true rfl) (fun hF p e s m args below meth c hC hN hlk hrt hT => ?_)
  refine v_lv0 (lv1 := [(0, .ref (zad Z 0)), (1, .int a1), (2, .int a2), (3, .int a3), (4, .ref (zad Z 10))]) rfl ?_
  refine v_aload hC 4 dL_hand_0 rfl ?_
  refine v_iconst hC (v := 0) dL_hand_2 (by decide) ?_
  refine v_aload_n hC 0 dL_hand_3 rfl rfl ?_
  refine v_iload_n hC 1 dL_hand_4 rfl rfl ?_
  refine v_iload_n hC 2 dL_hand_5 rfl rfl ?_
  refine v_iload_n hC 3 dL_hand_6 rfl rfl ?_
  refine v_callHi (n := 3) hC [.int a1, .int a2, .int a3] 0 8 (by decide) rfl rfl (fun hne => c_X8_hand hfl Z M a1 a2 a3 hne) (rc_ne hF) (gIx 1052 (by decide +kernel) rfl) mw_X8_hand.1 mw_X8_hand.2.1 mw_X8_hand.2.2.1 mw_X8_hand.2.2.2 ⟨rfl, by decide, by decide, by decide +kernel⟩ rfl rfl ⟨by decide, by decide⟩ rfl rfl (Nat.le_of_ble_eq_true rfl) (by decide) (by decide) dL_hand_7 (fun ex M1 hr => ?_) (fun v M1 hr => ?_)
  · have e0 : f_L_hand M a1 a2 a3 = (if ex = 0 then rRet 1 M1 else rStuck) := by
      unfold f_L_hand
      rw [hr]
      exact rc_thr _ _ _ _
    rw [e0] at hF ⊢
    by_cases h0 : ex = 0
    · subst h0
      rw [if_pos rfl] at hF ⊢
      refine ⟨[], ⟨0, 19, 22, 25⟩, [], gEx 0, hT.trans rfl, fun z hz => ?_, rfl, by decide, cl_L_25, by decide, fun q9 => ?_⟩
      · cases hz
      · refine v_astore hC (lv1 := [(5, .ref q9), (0, .ref (zad Z 0)), (1, .int a1), (2, .int a2), (3, .int a3), (4, .ref (zad Z 10))]) dL_hand_22 (by decide) rfl ?_
        refine v_iconst hC (v := 1) dL_hand_24 (by decide) ?_
        exact v_iret hC hlk hrt (by decide) dL_hand_25
    · rw [if_neg h0] at hF ⊢
      exact absurd rfl hF
  · have e0 : f_L_hand M a1 a2 a3 = (if v = 0 then rRet 0 (gset M1 10 0 0) else rRet 0 (gset M1 10 0 1)) := by
      unfold f_L_hand
      rw [hr]
      rfl
    rw [e0] at hF ⊢
    refine v_if_eq (tgt := 17) hC dL_hand_10 (by decide) (fun h => ?_) (fun h => ?_)
    · rw [if_pos h] at hF ⊢
      refine v_lconst hC (v := 0) dL_hand_17 (by decide) ?_
      refine v_last hC 0 (by decide) dL_hand_18 ?_
      refine v_goto (tgt := 26) hC dL_hand_19 (by decide) ?_
      refine v_iconst hC (v := 0) dL_hand_26 (by decide) ?_
      exact v_iret hC hlk hrt (by decide) dL_hand_27
    · rw [if_neg h] at hF ⊢
      refine v_lconst hC (v := 1) dL_hand_13 (by decide) ?_
      refine v_goto (tgt := 18) hC dL_hand_14 (by decide) ?_
      refine v_last hC 1 (by decide) dL_hand_18 ?_
      refine v_goto (tgt := 26) hC dL_hand_19 (by decide) ?_
      refine v_iconst hC (v := 0) dL_hand_26 (by decide) ?_
      exact v_iret hC hlk hrt (by decide) dL_hand_27
def f_L_object (M : gM) (a1 : Int32) (a2 : Int32) : gR := rc (f_X8_object M a1 a2) (fun _ M1 => rRet 0 M1) (fun ex M1 => if ex = 0 then rRet 1 M1 else if ex = 2 then rRet 2 M1 else rStuck)
abbrev rm_L_object : Room := { frames := 8, cells := 3, slots := 18, locals := 133 }
theorem mw_X8_object : Cond.instanceMethod yX8_object ∈ gWS ∧ Cond.selects RX8 yX8_object yX8_object ∈ gWS ∧ Cond.initialized RX8 ∈ gWS ∧ Cond.code yX8_object cX8_object 3 none ∈ gWS := ⟨gIx 1065 (by decide +kernel) rfl, gIx 1066 (by decide +kernel) rfl, gIx 75 (by decide +kernel) rfl, gIx 1067 (by decide +kernel) rfl⟩
set_option maxRecDepth 20000 in
set_option maxHeartbeats 4000000 in
theorem c_L_object {l : Launch} (hfl : l.stackTraces = false) (Z : gZ) (M : gM) (a1 : Int32) (a2 : Int32) : gMetL l yL_object cL_object 4 [(0, 6, 9, 25), (0, 6, 12, 15)] rm_L_object 3 Z M [.ref (zad Z 0), .int a1, .int a2] (f_L_object M a1 a2) := by
  refine v_enter (by decide) (Nat.le_of_ble_eq_true rfl) (fun hF p e s m args below meth c hC hN hlk hrt hT => ?_)
  refine v_lv0 (lv1 := [(0, .ref (zad Z 0)), (1, .int a1), (2, .int a2)]) rfl ?_
  refine v_aload_n hC 0 dL_object_0 rfl rfl ?_
  refine v_iload_n hC 1 dL_object_1 rfl rfl ?_
  refine v_iload_n hC 2 dL_object_2 rfl rfl ?_
  refine v_callHv (n := 2) hC [.int a1, .int a2] 0 8 (by decide) rfl rfl (fun hne => c_X8_object hfl Z M a1 a2 hne) (rc_ne hF) (gIx 1064 (by decide +kernel) rfl) mw_X8_object.1 mw_X8_object.2.1 mw_X8_object.2.2.1 mw_X8_object.2.2.2 ⟨rfl, by decide, by decide, by decide +kernel⟩ rfl rfl ⟨by decide, by decide⟩ rfl rfl (Nat.le_of_ble_eq_true rfl) (by decide) (by decide) dL_object_3 (fun ex M1 hr => ?_) (fun M1 hr => ?_)
  · have e0 : f_L_object M a1 a2 = (if ex = 0 then rRet 1 M1 else if ex = 2 then rRet 2 M1 else rStuck) := by
      unfold f_L_object
      rw [hr]
      exact rc_thr _ _ _ _
    rw [e0] at hF ⊢
    by_cases h0 : ex = 0
    · subst h0
      rw [if_pos rfl] at hF ⊢
      refine ⟨[], ⟨0, 6, 9, 25⟩, [⟨0, 6, 12, 15⟩], gEx 0, hT.trans rfl, fun z hz => ?_, rfl, by decide, cl_L_25, by decide, fun q9 => ?_⟩
      · cases hz
      · refine v_astore_n hC (lv1 := [(3, .ref q9), (0, .ref (zad Z 0)), (1, .int a1), (2, .int a2)]) dL_object_9 rfl (by decide) rfl ?_
        refine v_iconst hC (v := 1) dL_object_10 (by decide) ?_
        exact v_iret hC hlk hrt (by decide) dL_object_11
    · rw [if_neg h0] at hF ⊢
      by_cases h1 : ex = 2
      · subst h1
        rw [if_pos rfl] at hF ⊢
        refine ⟨[⟨0, 6, 9, 25⟩], ⟨0, 6, 12, 15⟩, [], gEx 2, hT.trans rfl, fun z hz => ?_, rfl, by decide, cl_L_15, by decide, fun q9 => ?_⟩
        · simp only [List.mem_cons, List.not_mem_nil, or_false] at hz
          subst hz
          exact Or.inr ⟨by decide, gEx 0, cl_L_25, hN 2 0 (by decide) (by decide) (by decide)⟩
        · refine v_astore_n hC (lv1 := [(3, .ref q9), (0, .ref (zad Z 0)), (1, .int a1), (2, .int a2)]) dL_object_12 rfl (by decide) rfl ?_
          refine v_iconst hC (v := 2) dL_object_13 (by decide) ?_
          exact v_iret hC hlk hrt (by decide) dL_object_14
      · rw [if_neg h1] at hF ⊢
        exact absurd rfl hF
  · have e0 : f_L_object M a1 a2 = rRet 0 M1 := by
      unfold f_L_object
      rw [hr]
      rfl
    rw [e0] at hF ⊢
    refine v_goto (tgt := 15) hC dL_object_6 (by decide) ?_
    refine v_iconst hC (v := 0) dL_object_15 (by decide) ?_
    exact v_iret hC hlk hrt (by decide) dL_object_16
def f_L_sustain (M : gM) (a1 : Int32) (a2 : Int32) (a3 : Int32) : gR := rc (f_X8_sustain M a1 a2 a3) (fun _ M1 => rRet 0 M1) (fun ex M1 => if ex = 0 then rRet 1 M1 else if ex = 2 then rRet 2 M1 else rStuck)
abbrev rm_L_sustain : Room := { frames := 8, cells := 3, slots := 18, locals := 134 }
theorem mw_X8_sustain : Cond.instanceMethod yX8_sustain ∈ gWS ∧ Cond.selects RX8 yX8_sustain yX8_sustain ∈ gWS ∧ Cond.initialized RX8 ∈ gWS ∧ Cond.code yX8_sustain cX8_sustain 4 none ∈ gWS := ⟨gIx 1073 (by decide +kernel) rfl, gIx 1074 (by decide +kernel) rfl, gIx 75 (by decide +kernel) rfl, gIx 1075 (by decide +kernel) rfl⟩
set_option maxRecDepth 20000 in
set_option maxHeartbeats 4000000 in
theorem c_L_sustain {l : Launch} (hfl : l.stackTraces = false) (Z : gZ) (M : gM) (a1 : Int32) (a2 : Int32) (a3 : Int32) : gMetL l yL_sustain cL_sustain 5 [(0, 7, 10, 25), (0, 7, 14, 15)] rm_L_sustain 3 Z M [.ref (zad Z 0), .int a1, .int a2, .int a3] (f_L_sustain M a1 a2 a3) := by
  refine v_enter (by decide) (Nat.le_of_ble_eq_true rfl) (fun hF p e s m args below meth c hC hN hlk hrt hT => ?_)
  refine v_lv0 (lv1 := [(0, .ref (zad Z 0)), (1, .int a1), (2, .int a2), (3, .int a3)]) rfl ?_
  refine v_aload_n hC 0 dL_sustain_0 rfl rfl ?_
  refine v_iload_n hC 1 dL_sustain_1 rfl rfl ?_
  refine v_iload_n hC 2 dL_sustain_2 rfl rfl ?_
  refine v_iload_n hC 3 dL_sustain_3 rfl rfl ?_
  refine v_callHv (n := 3) hC [.int a1, .int a2, .int a3] 0 8 (by decide) rfl rfl (fun hne => c_X8_sustain hfl Z M a1 a2 a3 hne) (rc_ne hF) (gIx 1072 (by decide +kernel) rfl) mw_X8_sustain.1 mw_X8_sustain.2.1 mw_X8_sustain.2.2.1 mw_X8_sustain.2.2.2 ⟨rfl, by decide, by decide, by decide +kernel⟩ rfl rfl ⟨by decide, by decide⟩ rfl rfl (Nat.le_of_ble_eq_true rfl) (by decide) (by decide) dL_sustain_4 (fun ex M1 hr => ?_) (fun M1 hr => ?_)
  · have e0 : f_L_sustain M a1 a2 a3 = (if ex = 0 then rRet 1 M1 else if ex = 2 then rRet 2 M1 else rStuck) := by
      unfold f_L_sustain
      rw [hr]
      exact rc_thr _ _ _ _
    rw [e0] at hF ⊢
    by_cases h0 : ex = 0
    · subst h0
      rw [if_pos rfl] at hF ⊢
      refine ⟨[], ⟨0, 7, 10, 25⟩, [⟨0, 7, 14, 15⟩], gEx 0, hT.trans rfl, fun z hz => ?_, rfl, by decide, cl_L_25, by decide, fun q9 => ?_⟩
      · cases hz
      · refine v_astore hC (lv1 := [(4, .ref q9), (0, .ref (zad Z 0)), (1, .int a1), (2, .int a2), (3, .int a3)]) dL_sustain_10 (by decide) rfl ?_
        refine v_iconst hC (v := 1) dL_sustain_12 (by decide) ?_
        exact v_iret hC hlk hrt (by decide) dL_sustain_13
    · rw [if_neg h0] at hF ⊢
      by_cases h1 : ex = 2
      · subst h1
        rw [if_pos rfl] at hF ⊢
        refine ⟨[⟨0, 7, 10, 25⟩], ⟨0, 7, 14, 15⟩, [], gEx 2, hT.trans rfl, fun z hz => ?_, rfl, by decide, cl_L_15, by decide, fun q9 => ?_⟩
        · simp only [List.mem_cons, List.not_mem_nil, or_false] at hz
          subst hz
          exact Or.inr ⟨by decide, gEx 0, cl_L_25, hN 2 0 (by decide) (by decide) (by decide)⟩
        · refine v_astore hC (lv1 := [(4, .ref q9), (0, .ref (zad Z 0)), (1, .int a1), (2, .int a2), (3, .int a3)]) dL_sustain_14 (by decide) rfl ?_
          refine v_iconst hC (v := 2) dL_sustain_16 (by decide) ?_
          exact v_iret hC hlk hrt (by decide) dL_sustain_17
      · rw [if_neg h1] at hF ⊢
        exact absurd rfl hF
  · have e0 : f_L_sustain M a1 a2 a3 = rRet 0 M1 := by
      unfold f_L_sustain
      rw [hr]
      rfl
    rw [e0] at hF ⊢
    refine v_goto (tgt := 18) hC dL_sustain_7 (by decide) ?_
    refine v_iconst hC (v := 0) dL_sustain_18 (by decide) ?_
    exact v_iret hC hlk hrt (by decide) dL_sustain_19
def f_L_isAdmitted (M : gM) (a1 : Int32) : gR := rc (f_X8_isAdmitted M a1) (fun v M1 => if v = 0 then rRet 0 (gset M1 10 0 0) else rRet 0 (gset M1 10 0 1)) (fun ex M1 => if ex = 0 then rRet 1 M1 else rStuck)
abbrev rm_L_isAdmitted : Room := { frames := 8, cells := 1, slots := 6, locals := 132 }
theorem mw_X8_isAdmitted : Cond.instanceMethod yX8_isAdmitted ∈ gWS ∧ Cond.selects RX8 yX8_isAdmitted yX8_isAdmitted ∈ gWS ∧ Cond.initialized RX8 ∈ gWS ∧ Cond.code yX8_isAdmitted cX8_isAdmitted 2 (some .boolean) ∈ gWS := ⟨gIx 1081 (by decide +kernel) rfl, gIx 1082 (by decide +kernel) rfl, gIx 75 (by decide +kernel) rfl, gIx 1083 (by decide +kernel) rfl⟩
set_option maxRecDepth 20000 in
set_option maxHeartbeats 4000000 in
theorem c_L_isAdmitted {l : Launch} (hfl : l.stackTraces = false) (Z : gZ) (M : gM) (a1 : Int32) : gMetL l yL_isAdmitted cL_isAdmitted 4 [(0, 16, 19, 25)] rm_L_isAdmitted 1 Z M [.ref (zad Z 0), .int a1, .ref (zad Z 10)] (f_L_isAdmitted M a1) := by
  refine v_enter (by decide) (Nat.le_of_ble_eq_true rfl) (fun hF p e s m args below meth c hC hN hlk hrt hT => ?_)
  refine v_lv0 (lv1 := [(0, .ref (zad Z 0)), (1, .int a1), (2, .ref (zad Z 10))]) rfl ?_
  refine v_aload_n hC 2 dL_isAdmitted_0 rfl rfl ?_
  refine v_iconst hC (v := 0) dL_isAdmitted_1 (by decide) ?_
  refine v_aload_n hC 0 dL_isAdmitted_2 rfl rfl ?_
  refine v_iload_n hC 1 dL_isAdmitted_3 rfl rfl ?_
  refine v_callHi (n := 1) hC [.int a1] 0 8 (by decide) rfl rfl (fun hne => c_X8_isAdmitted hfl Z M a1 hne) (rc_ne hF) (gIx 1080 (by decide +kernel) rfl) mw_X8_isAdmitted.1 mw_X8_isAdmitted.2.1 mw_X8_isAdmitted.2.2.1 mw_X8_isAdmitted.2.2.2 ⟨rfl, by decide, by decide, by decide +kernel⟩ rfl rfl ⟨by decide, by decide⟩ rfl rfl (Nat.le_of_ble_eq_true rfl) (by decide) (by decide) dL_isAdmitted_4 (fun ex M1 hr => ?_) (fun v M1 hr => ?_)
  · have e0 : f_L_isAdmitted M a1 = (if ex = 0 then rRet 1 M1 else rStuck) := by
      unfold f_L_isAdmitted
      rw [hr]
      exact rc_thr _ _ _ _
    rw [e0] at hF ⊢
    by_cases h0 : ex = 0
    · subst h0
      rw [if_pos rfl] at hF ⊢
      refine ⟨[], ⟨0, 16, 19, 25⟩, [], gEx 0, hT.trans rfl, fun z hz => ?_, rfl, by decide, cl_L_25, by decide, fun q9 => ?_⟩
      · cases hz
      · refine v_astore_n hC (lv1 := [(3, .ref q9), (0, .ref (zad Z 0)), (1, .int a1), (2, .ref (zad Z 10))]) dL_isAdmitted_19 rfl (by decide) rfl ?_
        refine v_iconst hC (v := 1) dL_isAdmitted_20 (by decide) ?_
        exact v_iret hC hlk hrt (by decide) dL_isAdmitted_21
    · rw [if_neg h0] at hF ⊢
      exact absurd rfl hF
  · have e0 : f_L_isAdmitted M a1 = (if v = 0 then rRet 0 (gset M1 10 0 0) else rRet 0 (gset M1 10 0 1)) := by
      unfold f_L_isAdmitted
      rw [hr]
      rfl
    rw [e0] at hF ⊢
    refine v_if_eq (tgt := 14) hC dL_isAdmitted_7 (by decide) (fun h => ?_) (fun h => ?_)
    · rw [if_pos h] at hF ⊢
      refine v_lconst hC (v := 0) dL_isAdmitted_14 (by decide) ?_
      refine v_last hC 0 (by decide) dL_isAdmitted_15 ?_
      refine v_goto (tgt := 22) hC dL_isAdmitted_16 (by decide) ?_
      refine v_iconst hC (v := 0) dL_isAdmitted_22 (by decide) ?_
      exact v_iret hC hlk hrt (by decide) dL_isAdmitted_23
    · rw [if_neg h] at hF ⊢
      refine v_lconst hC (v := 1) dL_isAdmitted_10 (by decide) ?_
      refine v_goto (tgt := 15) hC dL_isAdmitted_11 (by decide) ?_
      refine v_last hC 1 (by decide) dL_isAdmitted_15 ?_
      refine v_goto (tgt := 22) hC dL_isAdmitted_16 (by decide) ?_
      refine v_iconst hC (v := 0) dL_isAdmitted_22 (by decide) ?_
      exact v_iret hC hlk hrt (by decide) dL_isAdmitted_23
def f_L_seal (M : gM) (a1 : Int32) (a2 : Int32) : gR := rc (f_X8_seal M a1 a2) (fun v M1 => if v = 0 then rRet 0 (gset M1 10 0 0) else rRet 0 (gset M1 10 0 1)) (fun ex M1 => if ex = 0 then rRet 1 M1 else rStuck)
abbrev rm_L_seal : Room := { frames := 8, cells := 1, slots := 6, locals := 134 }
theorem mw_X8_seal : Cond.instanceMethod yX8_seal ∈ gWS ∧ Cond.selects RX8 yX8_seal yX8_seal ∈ gWS ∧ Cond.initialized RX8 ∈ gWS ∧ Cond.code yX8_seal cX8_seal 4 (some .boolean) ∈ gWS := ⟨gIx 1092 (by decide +kernel) rfl, gIx 1093 (by decide +kernel) rfl, gIx 75 (by decide +kernel) rfl, gIx 1094 (by decide +kernel) rfl⟩
set_option maxRecDepth 20000 in
set_option maxHeartbeats 4000000 in
theorem c_L_seal {l : Launch} (hfl : l.stackTraces = false) (Z : gZ) (M : gM) (a1 : Int32) (a2 : Int32) : gMetL l yL_seal cL_seal 5 [(0, 17, 20, 25)] rm_L_seal 1 Z M [.ref (zad Z 0), .int a1, .int a2, .ref (zad Z 10)] (f_L_seal M a1 a2) := by
  refine v_enter (by decide) (Nat.le_of_ble_eq_true rfl) (fun hF p e s m args below meth c hC hN hlk hrt hT => ?_)
  refine v_lv0 (lv1 := [(0, .ref (zad Z 0)), (1, .int a1), (2, .int a2), (3, .ref (zad Z 10))]) rfl ?_
  refine v_aload_n hC 3 dL_seal_0 rfl rfl ?_
  refine v_iconst hC (v := 0) dL_seal_1 (by decide) ?_
  refine v_aload_n hC 0 dL_seal_2 rfl rfl ?_
  refine v_iload_n hC 1 dL_seal_3 rfl rfl ?_
  refine v_iload_n hC 2 dL_seal_4 rfl rfl ?_
  refine v_callHi (n := 2) hC [.int a1, .int a2] 0 8 (by decide) rfl rfl (fun hne => c_X8_seal hfl Z M a1 a2 hne) (rc_ne hF) (gIx 1091 (by decide +kernel) rfl) mw_X8_seal.1 mw_X8_seal.2.1 mw_X8_seal.2.2.1 mw_X8_seal.2.2.2 ⟨rfl, by decide, by decide, by decide +kernel⟩ rfl rfl ⟨by decide, by decide⟩ rfl rfl (Nat.le_of_ble_eq_true rfl) (by decide) (by decide) dL_seal_5 (fun ex M1 hr => ?_) (fun v M1 hr => ?_)
  · have e0 : f_L_seal M a1 a2 = (if ex = 0 then rRet 1 M1 else rStuck) := by
      unfold f_L_seal
      rw [hr]
      exact rc_thr _ _ _ _
    rw [e0] at hF ⊢
    by_cases h0 : ex = 0
    · subst h0
      rw [if_pos rfl] at hF ⊢
      refine ⟨[], ⟨0, 17, 20, 25⟩, [], gEx 0, hT.trans rfl, fun z hz => ?_, rfl, by decide, cl_L_25, by decide, fun q9 => ?_⟩
      · cases hz
      · refine v_astore hC (lv1 := [(4, .ref q9), (0, .ref (zad Z 0)), (1, .int a1), (2, .int a2), (3, .ref (zad Z 10))]) dL_seal_20 (by decide) rfl ?_
        refine v_iconst hC (v := 1) dL_seal_22 (by decide) ?_
        exact v_iret hC hlk hrt (by decide) dL_seal_23
    · rw [if_neg h0] at hF ⊢
      exact absurd rfl hF
  · have e0 : f_L_seal M a1 a2 = (if v = 0 then rRet 0 (gset M1 10 0 0) else rRet 0 (gset M1 10 0 1)) := by
      unfold f_L_seal
      rw [hr]
      rfl
    rw [e0] at hF ⊢
    refine v_if_eq (tgt := 15) hC dL_seal_8 (by decide) (fun h => ?_) (fun h => ?_)
    · rw [if_pos h] at hF ⊢
      refine v_lconst hC (v := 0) dL_seal_15 (by decide) ?_
      refine v_last hC 0 (by decide) dL_seal_16 ?_
      refine v_goto (tgt := 24) hC dL_seal_17 (by decide) ?_
      refine v_iconst hC (v := 0) dL_seal_24 (by decide) ?_
      exact v_iret hC hlk hrt (by decide) dL_seal_25
    · rw [if_neg h] at hF ⊢
      refine v_lconst hC (v := 1) dL_seal_11 (by decide) ?_
      refine v_goto (tgt := 16) hC dL_seal_12 (by decide) ?_
      refine v_last hC 1 (by decide) dL_seal_16 ?_
      refine v_goto (tgt := 24) hC dL_seal_17 (by decide) ?_
      refine v_iconst hC (v := 0) dL_seal_24 (by decide) ?_
      exact v_iret hC hlk hrt (by decide) dL_seal_25
def f_L_maySee (M : gM) (a1 : Int32) (a2 : Int32) (a3 : Int32) : gR := rc (f_X8_maySee M a1 a2 a3) (fun v M1 => if v = 0 then rRet 0 (gset M1 10 0 0) else rRet 0 (gset M1 10 0 1)) (fun ex M1 => if ex = 0 then rRet 1 M1 else if ex = 1 then rRet 2 M1 else rStuck)
abbrev rm_L_maySee : Room := { frames := 8, cells := 3, slots := 18, locals := 134 }
theorem mw_X8_maySee : Cond.instanceMethod yX8_maySee ∈ gWS ∧ Cond.selects RX8 yX8_maySee yX8_maySee ∈ gWS ∧ Cond.initialized RX8 ∈ gWS ∧ Cond.code yX8_maySee cX8_maySee 4 (some .boolean) ∈ gWS := ⟨gIx 1107 (by decide +kernel) rfl, gIx 1108 (by decide +kernel) rfl, gIx 75 (by decide +kernel) rfl, gIx 1109 (by decide +kernel) rfl⟩
set_option maxRecDepth 20000 in
set_option maxHeartbeats 4000000 in
theorem c_L_maySee {l : Launch} (hfl : l.stackTraces = false) (Z : gZ) (M : gM) (a1 : Int32) (a2 : Int32) (a3 : Int32) : gMetL l yL_maySee cL_maySee 6 [(0, 19, 22, 25), (0, 19, 26, 13)] rm_L_maySee 3 Z M [.ref (zad Z 0), .int a1, .int a2, .int a3, .ref (zad Z 10)] (f_L_maySee M a1 a2 a3) := by
  refine v_enter (by decide) (Nat.le_of_ble_eq_true rfl) (fun hF p e s m args below meth c hC hN hlk hrt hT => ?_)
  refine v_lv0 (lv1 := [(0, .ref (zad Z 0)), (1, .int a1), (2, .int a2), (3, .int a3), (4, .ref (zad Z 10))]) rfl ?_
  refine v_aload hC 4 dL_maySee_0 rfl ?_
  refine v_iconst hC (v := 0) dL_maySee_2 (by decide) ?_
  refine v_aload_n hC 0 dL_maySee_3 rfl rfl ?_
  refine v_iload_n hC 1 dL_maySee_4 rfl rfl ?_
  refine v_iload_n hC 2 dL_maySee_5 rfl rfl ?_
  refine v_iload_n hC 3 dL_maySee_6 rfl rfl ?_
  refine v_callHi (n := 3) hC [.int a1, .int a2, .int a3] 0 8 (by decide) rfl rfl (fun hne => c_X8_maySee hfl Z M a1 a2 a3 hne) (rc_ne hF) (gIx 1106 (by decide +kernel) rfl) mw_X8_maySee.1 mw_X8_maySee.2.1 mw_X8_maySee.2.2.1 mw_X8_maySee.2.2.2 ⟨rfl, by decide, by decide, by decide +kernel⟩ rfl rfl ⟨by decide, by decide⟩ rfl rfl (Nat.le_of_ble_eq_true rfl) (by decide) (by decide) dL_maySee_7 (fun ex M1 hr => ?_) (fun v M1 hr => ?_)
  · have e0 : f_L_maySee M a1 a2 a3 = (if ex = 0 then rRet 1 M1 else if ex = 1 then rRet 2 M1 else rStuck) := by
      unfold f_L_maySee
      rw [hr]
      exact rc_thr _ _ _ _
    rw [e0] at hF ⊢
    by_cases h0 : ex = 0
    · subst h0
      rw [if_pos rfl] at hF ⊢
      refine ⟨[], ⟨0, 19, 22, 25⟩, [⟨0, 19, 26, 13⟩], gEx 0, hT.trans rfl, fun z hz => ?_, rfl, by decide, cl_L_25, by decide, fun q9 => ?_⟩
      · cases hz
      · refine v_astore hC (lv1 := [(5, .ref q9), (0, .ref (zad Z 0)), (1, .int a1), (2, .int a2), (3, .int a3), (4, .ref (zad Z 10))]) dL_maySee_22 (by decide) rfl ?_
        refine v_iconst hC (v := 1) dL_maySee_24 (by decide) ?_
        exact v_iret hC hlk hrt (by decide) dL_maySee_25
    · rw [if_neg h0] at hF ⊢
      by_cases h1 : ex = 1
      · subst h1
        rw [if_pos rfl] at hF ⊢
        refine ⟨[⟨0, 19, 22, 25⟩], ⟨0, 19, 26, 13⟩, [], gEx 1, hT.trans rfl, fun z hz => ?_, rfl, by decide, cl_L_13, by decide, fun q9 => ?_⟩
        · simp only [List.mem_cons, List.not_mem_nil, or_false] at hz
          subst hz
          exact Or.inr ⟨by decide, gEx 0, cl_L_25, hN 1 0 (by decide) (by decide) (by decide)⟩
        · refine v_astore hC (lv1 := [(5, .ref q9), (0, .ref (zad Z 0)), (1, .int a1), (2, .int a2), (3, .int a3), (4, .ref (zad Z 10))]) dL_maySee_26 (by decide) rfl ?_
          refine v_iconst hC (v := 2) dL_maySee_28 (by decide) ?_
          exact v_iret hC hlk hrt (by decide) dL_maySee_29
      · rw [if_neg h1] at hF ⊢
        exact absurd rfl hF
  · have e0 : f_L_maySee M a1 a2 a3 = (if v = 0 then rRet 0 (gset M1 10 0 0) else rRet 0 (gset M1 10 0 1)) := by
      unfold f_L_maySee
      rw [hr]
      rfl
    rw [e0] at hF ⊢
    refine v_if_eq (tgt := 17) hC dL_maySee_10 (by decide) (fun h => ?_) (fun h => ?_)
    · rw [if_pos h] at hF ⊢
      refine v_lconst hC (v := 0) dL_maySee_17 (by decide) ?_
      refine v_last hC 0 (by decide) dL_maySee_18 ?_
      refine v_goto (tgt := 30) hC dL_maySee_19 (by decide) ?_
      refine v_iconst hC (v := 0) dL_maySee_30 (by decide) ?_
      exact v_iret hC hlk hrt (by decide) dL_maySee_31
    · rw [if_neg h] at hF ⊢
      refine v_lconst hC (v := 1) dL_maySee_13 (by decide) ?_
      refine v_goto (tgt := 18) hC dL_maySee_14 (by decide) ?_
      refine v_last hC 1 (by decide) dL_maySee_18 ?_
      refine v_goto (tgt := 30) hC dL_maySee_19 (by decide) ?_
      refine v_iconst hC (v := 0) dL_maySee_30 (by decide) ?_
      exact v_iret hC hlk hrt (by decide) dL_maySee_31
def f_L_certify (M : gM) (a1 : Int32) : gR := rc (f_X8_certify M a1) (fun _ M1 => rRet 0 M1) (fun ex M1 => if ex = 0 then rRet 1 M1 else if ex = 2 then rRet 2 M1 else rStuck)
abbrev rm_L_certify : Room := { frames := 8, cells := 2, slots := 12, locals := 132 }
theorem mw_X8_certify : Cond.instanceMethod yX8_certify ∈ gWS ∧ Cond.selects RX8 yX8_certify yX8_certify ∈ gWS ∧ Cond.initialized RX8 ∈ gWS ∧ Cond.code yX8_certify cX8_certify 2 none ∈ gWS := ⟨gIx 1123 (by decide +kernel) rfl, gIx 1124 (by decide +kernel) rfl, gIx 75 (by decide +kernel) rfl, gIx 1125 (by decide +kernel) rfl⟩
set_option maxRecDepth 20000 in
set_option maxHeartbeats 4000000 in
theorem c_L_certify {l : Launch} (hfl : l.stackTraces = false) (Z : gZ) (M : gM) (a1 : Int32) : gMetL l yL_certify cL_certify 3 [(0, 5, 8, 25), (0, 5, 11, 15)] rm_L_certify 2 Z M [.ref (zad Z 0), .int a1] (f_L_certify M a1) := by
  refine v_enter (by decide) (Nat.le_of_ble_eq_true rfl) (fun hF p e s m args below meth c hC hN hlk hrt hT => ?_)
  refine v_lv0 (lv1 := [(0, .ref (zad Z 0)), (1, .int a1)]) rfl ?_
  refine v_aload_n hC 0 dL_certify_0 rfl rfl ?_
  refine v_iload_n hC 1 dL_certify_1 rfl rfl ?_
  refine v_callHv (n := 1) hC [.int a1] 0 8 (by decide) rfl rfl (fun hne => c_X8_certify hfl Z M a1 hne) (rc_ne hF) (gIx 1122 (by decide +kernel) rfl) mw_X8_certify.1 mw_X8_certify.2.1 mw_X8_certify.2.2.1 mw_X8_certify.2.2.2 ⟨rfl, by decide, by decide, by decide +kernel⟩ rfl rfl ⟨by decide, by decide⟩ rfl rfl (Nat.le_of_ble_eq_true rfl) (by decide) (by decide) dL_certify_2 (fun ex M1 hr => ?_) (fun M1 hr => ?_)
  · have e0 : f_L_certify M a1 = (if ex = 0 then rRet 1 M1 else if ex = 2 then rRet 2 M1 else rStuck) := by
      unfold f_L_certify
      rw [hr]
      exact rc_thr _ _ _ _
    rw [e0] at hF ⊢
    by_cases h0 : ex = 0
    · subst h0
      rw [if_pos rfl] at hF ⊢
      refine ⟨[], ⟨0, 5, 8, 25⟩, [⟨0, 5, 11, 15⟩], gEx 0, hT.trans rfl, fun z hz => ?_, rfl, by decide, cl_L_25, by decide, fun q9 => ?_⟩
      · cases hz
      · refine v_astore_n hC (lv1 := [(2, .ref q9), (0, .ref (zad Z 0)), (1, .int a1)]) dL_certify_8 rfl (by decide) rfl ?_
        refine v_iconst hC (v := 1) dL_certify_9 (by decide) ?_
        exact v_iret hC hlk hrt (by decide) dL_certify_10
    · rw [if_neg h0] at hF ⊢
      by_cases h1 : ex = 2
      · subst h1
        rw [if_pos rfl] at hF ⊢
        refine ⟨[⟨0, 5, 8, 25⟩], ⟨0, 5, 11, 15⟩, [], gEx 2, hT.trans rfl, fun z hz => ?_, rfl, by decide, cl_L_15, by decide, fun q9 => ?_⟩
        · simp only [List.mem_cons, List.not_mem_nil, or_false] at hz
          subst hz
          exact Or.inr ⟨by decide, gEx 0, cl_L_25, hN 2 0 (by decide) (by decide) (by decide)⟩
        · refine v_astore_n hC (lv1 := [(2, .ref q9), (0, .ref (zad Z 0)), (1, .int a1)]) dL_certify_11 rfl (by decide) rfl ?_
          refine v_iconst hC (v := 2) dL_certify_12 (by decide) ?_
          exact v_iret hC hlk hrt (by decide) dL_certify_13
      · rw [if_neg h1] at hF ⊢
        exact absurd rfl hF
  · have e0 : f_L_certify M a1 = rRet 0 M1 := by
      unfold f_L_certify
      rw [hr]
      rfl
    rw [e0] at hF ⊢
    refine v_goto (tgt := 14) hC dL_certify_5 (by decide) ?_
    refine v_iconst hC (v := 0) dL_certify_14 (by decide) ?_
    exact v_iret hC hlk hrt (by decide) dL_certify_15
def f_L_member (M : gM) (a1 : Int32) (a2 : Int32) (a3 : Int32) : gR := rc (f_X8_member M a1 a2 a3) (fun v M1 => rRet 0 (gset M1 10 0 v)) (fun ex M1 => if ex = 0 then rRet 1 M1 else if ex = 2 then rRet 2 M1 else rStuck)
abbrev rm_L_member : Room := { frames := 8, cells := 3, slots := 18, locals := 135 }
theorem mw_X8_member : Cond.instanceMethod yX8_member ∈ gWS ∧ Cond.selects RX8 yX8_member yX8_member ∈ gWS ∧ Cond.initialized RX8 ∈ gWS ∧ Cond.code yX8_member cX8_member 5 (some .int) ∈ gWS := ⟨gIx 1131 (by decide +kernel) rfl, gIx 1132 (by decide +kernel) rfl, gIx 75 (by decide +kernel) rfl, gIx 1133 (by decide +kernel) rfl⟩
set_option maxRecDepth 20000 in
set_option maxHeartbeats 4000000 in
theorem c_L_member {l : Launch} (hfl : l.stackTraces = false) (Z : gZ) (M : gM) (a1 : Int32) (a2 : Int32) (a3 : Int32) : gMetL l yL_member cL_member 6 [(0, 12, 15, 25), (0, 12, 19, 15)] rm_L_member 3 Z M [.ref (zad Z 0), .int a1, .int a2, .int a3, .ref (zad Z 10)] (f_L_member M a1 a2 a3) := by
  refine v_enter (by decide) (Nat.le_of_ble_eq_true rfl) (fun hF p e s m args below meth c hC hN hlk hrt hT => ?_)
  refine v_lv0 (lv1 := [(0, .ref (zad Z 0)), (1, .int a1), (2, .int a2), (3, .int a3), (4, .ref (zad Z 10))]) rfl ?_
  refine v_aload hC 4 dL_member_0 rfl ?_
  refine v_iconst hC (v := 0) dL_member_2 (by decide) ?_
  refine v_aload_n hC 0 dL_member_3 rfl rfl ?_
  refine v_iload_n hC 1 dL_member_4 rfl rfl ?_
  refine v_iload_n hC 2 dL_member_5 rfl rfl ?_
  refine v_iload_n hC 3 dL_member_6 rfl rfl ?_
  refine v_callHi (n := 3) hC [.int a1, .int a2, .int a3] 0 8 (by decide) rfl rfl (fun hne => c_X8_member hfl Z M a1 a2 a3 hne) (rc_ne hF) (gIx 1130 (by decide +kernel) rfl) mw_X8_member.1 mw_X8_member.2.1 mw_X8_member.2.2.1 mw_X8_member.2.2.2 ⟨rfl, by decide, by decide, by decide +kernel⟩ rfl rfl ⟨by decide, by decide⟩ rfl rfl (Nat.le_of_ble_eq_true rfl) (by decide) (by decide) dL_member_7 (fun ex M1 hr => ?_) (fun v M1 hr => ?_)
  · have e0 : f_L_member M a1 a2 a3 = (if ex = 0 then rRet 1 M1 else if ex = 2 then rRet 2 M1 else rStuck) := by
      unfold f_L_member
      rw [hr]
      exact rc_thr _ _ _ _
    rw [e0] at hF ⊢
    by_cases h0 : ex = 0
    · subst h0
      rw [if_pos rfl] at hF ⊢
      refine ⟨[], ⟨0, 12, 15, 25⟩, [⟨0, 12, 19, 15⟩], gEx 0, hT.trans rfl, fun z hz => ?_, rfl, by decide, cl_L_25, by decide, fun q9 => ?_⟩
      · cases hz
      · refine v_astore hC (lv1 := [(5, .ref q9), (0, .ref (zad Z 0)), (1, .int a1), (2, .int a2), (3, .int a3), (4, .ref (zad Z 10))]) dL_member_15 (by decide) rfl ?_
        refine v_iconst hC (v := 1) dL_member_17 (by decide) ?_
        exact v_iret hC hlk hrt (by decide) dL_member_18
    · rw [if_neg h0] at hF ⊢
      by_cases h1 : ex = 2
      · subst h1
        rw [if_pos rfl] at hF ⊢
        refine ⟨[⟨0, 12, 15, 25⟩], ⟨0, 12, 19, 15⟩, [], gEx 2, hT.trans rfl, fun z hz => ?_, rfl, by decide, cl_L_15, by decide, fun q9 => ?_⟩
        · simp only [List.mem_cons, List.not_mem_nil, or_false] at hz
          subst hz
          exact Or.inr ⟨by decide, gEx 0, cl_L_25, hN 2 0 (by decide) (by decide) (by decide)⟩
        · refine v_astore hC (lv1 := [(5, .ref q9), (0, .ref (zad Z 0)), (1, .int a1), (2, .int a2), (3, .int a3), (4, .ref (zad Z 10))]) dL_member_19 (by decide) rfl ?_
          refine v_iconst hC (v := 2) dL_member_21 (by decide) ?_
          exact v_iret hC hlk hrt (by decide) dL_member_22
      · rw [if_neg h1] at hF ⊢
        exact absurd rfl hF
  · have e0 : f_L_member M a1 a2 a3 = rRet 0 (gset M1 10 0 v) := by
      unfold f_L_member
      rw [hr]
      rfl
    rw [e0] at hF ⊢
    refine v_i2l hC dL_member_10 ?_
    refine v_last hC v rfl dL_member_11 ?_
    refine v_goto (tgt := 23) hC dL_member_12 (by decide) ?_
    refine v_iconst hC (v := 0) dL_member_23 (by decide) ?_
    exact v_iret hC hlk hrt (by decide) dL_member_24
def f_L_share (M : gM) (a1 : Int32) (a2 : Int32) : gR := rc (f_X8_share M a1 a2) (fun v M1 => rRet 0 (gset M1 10 0 v)) (fun ex M1 => if ex = 0 then rRet 1 M1 else rStuck)
abbrev rm_L_share : Room := { frames := 8, cells := 2, slots := 12, locals := 134 }
theorem mw_X8_share : Cond.instanceMethod yX8_share ∈ gWS ∧ Cond.selects RX8 yX8_share yX8_share ∈ gWS ∧ Cond.initialized RX8 ∈ gWS ∧ Cond.code yX8_share cX8_share 4 (some .int) ∈ gWS := ⟨gIx 1153 (by decide +kernel) rfl, gIx 1154 (by decide +kernel) rfl, gIx 75 (by decide +kernel) rfl, gIx 1155 (by decide +kernel) rfl⟩
set_option maxRecDepth 20000 in
set_option maxHeartbeats 4000000 in
theorem c_L_share {l : Launch} (hfl : l.stackTraces = false) (Z : gZ) (M : gM) (a1 : Int32) (a2 : Int32) : gMetL l yL_share cL_share 5 [(0, 10, 13, 25)] rm_L_share 2 Z M [.ref (zad Z 0), .int a1, .int a2, .ref (zad Z 10)] (f_L_share M a1 a2) := by
  refine v_enter (by decide) (Nat.le_of_ble_eq_true rfl) (fun hF p e s m args below meth c hC hN hlk hrt hT => ?_)
  refine v_lv0 (lv1 := [(0, .ref (zad Z 0)), (1, .int a1), (2, .int a2), (3, .ref (zad Z 10))]) rfl ?_
  refine v_aload_n hC 3 dL_share_0 rfl rfl ?_
  refine v_iconst hC (v := 0) dL_share_1 (by decide) ?_
  refine v_aload_n hC 0 dL_share_2 rfl rfl ?_
  refine v_iload_n hC 1 dL_share_3 rfl rfl ?_
  refine v_iload_n hC 2 dL_share_4 rfl rfl ?_
  refine v_callHi (n := 2) hC [.int a1, .int a2] 0 8 (by decide) rfl rfl (fun hne => c_X8_share hfl Z M a1 a2 hne) (rc_ne hF) (gIx 1152 (by decide +kernel) rfl) mw_X8_share.1 mw_X8_share.2.1 mw_X8_share.2.2.1 mw_X8_share.2.2.2 ⟨rfl, by decide, by decide, by decide +kernel⟩ rfl rfl ⟨by decide, by decide⟩ rfl rfl (Nat.le_of_ble_eq_true rfl) (by decide) (by decide) dL_share_5 (fun ex M1 hr => ?_) (fun v M1 hr => ?_)
  · have e0 : f_L_share M a1 a2 = (if ex = 0 then rRet 1 M1 else rStuck) := by
      unfold f_L_share
      rw [hr]
      exact rc_thr _ _ _ _
    rw [e0] at hF ⊢
    by_cases h0 : ex = 0
    · subst h0
      rw [if_pos rfl] at hF ⊢
      refine ⟨[], ⟨0, 10, 13, 25⟩, [], gEx 0, hT.trans rfl, fun z hz => ?_, rfl, by decide, cl_L_25, by decide, fun q9 => ?_⟩
      · cases hz
      · refine v_astore hC (lv1 := [(4, .ref q9), (0, .ref (zad Z 0)), (1, .int a1), (2, .int a2), (3, .ref (zad Z 10))]) dL_share_13 (by decide) rfl ?_
        refine v_iconst hC (v := 1) dL_share_15 (by decide) ?_
        exact v_iret hC hlk hrt (by decide) dL_share_16
    · rw [if_neg h0] at hF ⊢
      exact absurd rfl hF
  · have e0 : f_L_share M a1 a2 = rRet 0 (gset M1 10 0 v) := by
      unfold f_L_share
      rw [hr]
      rfl
    rw [e0] at hF ⊢
    refine v_i2l hC dL_share_8 ?_
    refine v_last hC v rfl dL_share_9 ?_
    refine v_goto (tgt := 17) hC dL_share_10 (by decide) ?_
    refine v_iconst hC (v := 0) dL_share_17 (by decide) ?_
    exact v_iret hC hlk hrt (by decide) dL_share_18
def f_L_entryAt (M : gM) (a1 : Int32) (a2 : Int32) : gR := rc (f_X8_entryAt M a1 a2) (fun v M1 => rRet 0 (gset M1 10 0 v)) (fun ex M1 => if ex = 0 then rRet 1 M1 else rStuck)
abbrev rm_L_entryAt : Room := { frames := 8, cells := 2, slots := 12, locals := 133 }
theorem mw_X8_entryAt : Cond.instanceMethod yX8_entryAt ∈ gWS ∧ Cond.selects RX8 yX8_entryAt yX8_entryAt ∈ gWS ∧ Cond.initialized RX8 ∈ gWS ∧ Cond.code yX8_entryAt cX8_entryAt 3 (some .int) ∈ gWS := ⟨gIx 1164 (by decide +kernel) rfl, gIx 1165 (by decide +kernel) rfl, gIx 75 (by decide +kernel) rfl, gIx 1166 (by decide +kernel) rfl⟩
set_option maxRecDepth 20000 in
set_option maxHeartbeats 4000000 in
theorem c_L_entryAt {l : Launch} (hfl : l.stackTraces = false) (Z : gZ) (M : gM) (a1 : Int32) (a2 : Int32) : gMetL l yL_entryAt cL_entryAt 5 [(0, 10, 13, 25)] rm_L_entryAt 2 Z M [.ref (zad Z 0), .int a1, .int a2, .ref (zad Z 10)] (f_L_entryAt M a1 a2) := by
  refine v_enter (by decide) (Nat.le_of_ble_eq_true rfl) (fun hF p e s m args below meth c hC hN hlk hrt hT => ?_)
  refine v_lv0 (lv1 := [(0, .ref (zad Z 0)), (1, .int a1), (2, .int a2), (3, .ref (zad Z 10))]) rfl ?_
  refine v_aload_n hC 3 dL_entryAt_0 rfl rfl ?_
  refine v_iconst hC (v := 0) dL_entryAt_1 (by decide) ?_
  refine v_aload_n hC 0 dL_entryAt_2 rfl rfl ?_
  refine v_iload_n hC 1 dL_entryAt_3 rfl rfl ?_
  refine v_iload_n hC 2 dL_entryAt_4 rfl rfl ?_
  refine v_callHi (n := 2) hC [.int a1, .int a2] 0 8 (by decide) rfl rfl (fun hne => c_X8_entryAt hfl Z M a1 a2 hne) (rc_ne hF) (gIx 1163 (by decide +kernel) rfl) mw_X8_entryAt.1 mw_X8_entryAt.2.1 mw_X8_entryAt.2.2.1 mw_X8_entryAt.2.2.2 ⟨rfl, by decide, by decide, by decide +kernel⟩ rfl rfl ⟨by decide, by decide⟩ rfl rfl (Nat.le_of_ble_eq_true rfl) (by decide) (by decide) dL_entryAt_5 (fun ex M1 hr => ?_) (fun v M1 hr => ?_)
  · have e0 : f_L_entryAt M a1 a2 = (if ex = 0 then rRet 1 M1 else rStuck) := by
      unfold f_L_entryAt
      rw [hr]
      exact rc_thr _ _ _ _
    rw [e0] at hF ⊢
    by_cases h0 : ex = 0
    · subst h0
      rw [if_pos rfl] at hF ⊢
      refine ⟨[], ⟨0, 10, 13, 25⟩, [], gEx 0, hT.trans rfl, fun z hz => ?_, rfl, by decide, cl_L_25, by decide, fun q9 => ?_⟩
      · cases hz
      · refine v_astore hC (lv1 := [(4, .ref q9), (0, .ref (zad Z 0)), (1, .int a1), (2, .int a2), (3, .ref (zad Z 10))]) dL_entryAt_13 (by decide) rfl ?_
        refine v_iconst hC (v := 1) dL_entryAt_15 (by decide) ?_
        exact v_iret hC hlk hrt (by decide) dL_entryAt_16
    · rw [if_neg h0] at hF ⊢
      exact absurd rfl hF
  · have e0 : f_L_entryAt M a1 a2 = rRet 0 (gset M1 10 0 v) := by
      unfold f_L_entryAt
      rw [hr]
      rfl
    rw [e0] at hF ⊢
    refine v_i2l hC dL_entryAt_8 ?_
    refine v_last hC v rfl dL_entryAt_9 ?_
    refine v_goto (tgt := 17) hC dL_entryAt_10 (by decide) ?_
    refine v_iconst hC (v := 0) dL_entryAt_17 (by decide) ?_
    exact v_iret hC hlk hrt (by decide) dL_entryAt_18
def f_L_counts (M : gM) (a1 : Int32) : gR := rc (f_X8_counts M a1) (fun v M1 => if v = 0 then rRet 0 (gset M1 10 0 0) else rRet 0 (gset M1 10 0 1)) (fun ex M1 => if ex = 0 then rRet 1 M1 else rStuck)
abbrev rm_L_counts : Room := { frames := 8, cells := 1, slots := 6, locals := 132 }
theorem mw_X8_counts : Cond.instanceMethod yX8_counts ∈ gWS ∧ Cond.selects RX8 yX8_counts yX8_counts ∈ gWS ∧ Cond.initialized RX8 ∈ gWS ∧ Cond.code yX8_counts cX8_counts 2 (some .boolean) ∈ gWS := ⟨gIx 1172 (by decide +kernel) rfl, gIx 1173 (by decide +kernel) rfl, gIx 75 (by decide +kernel) rfl, gIx 1174 (by decide +kernel) rfl⟩
set_option maxRecDepth 20000 in
set_option maxHeartbeats 4000000 in
theorem c_L_counts {l : Launch} (hfl : l.stackTraces = false) (Z : gZ) (M : gM) (a1 : Int32) : gMetL l yL_counts cL_counts 4 [(0, 16, 19, 25)] rm_L_counts 1 Z M [.ref (zad Z 0), .int a1, .ref (zad Z 10)] (f_L_counts M a1) := by
  refine v_enter (by decide) (Nat.le_of_ble_eq_true rfl) (fun hF p e s m args below meth c hC hN hlk hrt hT => ?_)
  refine v_lv0 (lv1 := [(0, .ref (zad Z 0)), (1, .int a1), (2, .ref (zad Z 10))]) rfl ?_
  refine v_aload_n hC 2 dL_counts_0 rfl rfl ?_
  refine v_iconst hC (v := 0) dL_counts_1 (by decide) ?_
  refine v_aload_n hC 0 dL_counts_2 rfl rfl ?_
  refine v_iload_n hC 1 dL_counts_3 rfl rfl ?_
  refine v_callHi (n := 1) hC [.int a1] 0 8 (by decide) rfl rfl (fun hne => c_X8_counts hfl Z M a1 hne) (rc_ne hF) (gIx 1171 (by decide +kernel) rfl) mw_X8_counts.1 mw_X8_counts.2.1 mw_X8_counts.2.2.1 mw_X8_counts.2.2.2 ⟨rfl, by decide, by decide, by decide +kernel⟩ rfl rfl ⟨by decide, by decide⟩ rfl rfl (Nat.le_of_ble_eq_true rfl) (by decide) (by decide) dL_counts_4 (fun ex M1 hr => ?_) (fun v M1 hr => ?_)
  · have e0 : f_L_counts M a1 = (if ex = 0 then rRet 1 M1 else rStuck) := by
      unfold f_L_counts
      rw [hr]
      exact rc_thr _ _ _ _
    rw [e0] at hF ⊢
    by_cases h0 : ex = 0
    · subst h0
      rw [if_pos rfl] at hF ⊢
      refine ⟨[], ⟨0, 16, 19, 25⟩, [], gEx 0, hT.trans rfl, fun z hz => ?_, rfl, by decide, cl_L_25, by decide, fun q9 => ?_⟩
      · cases hz
      · refine v_astore_n hC (lv1 := [(3, .ref q9), (0, .ref (zad Z 0)), (1, .int a1), (2, .ref (zad Z 10))]) dL_counts_19 rfl (by decide) rfl ?_
        refine v_iconst hC (v := 1) dL_counts_20 (by decide) ?_
        exact v_iret hC hlk hrt (by decide) dL_counts_21
    · rw [if_neg h0] at hF ⊢
      exact absurd rfl hF
  · have e0 : f_L_counts M a1 = (if v = 0 then rRet 0 (gset M1 10 0 0) else rRet 0 (gset M1 10 0 1)) := by
      unfold f_L_counts
      rw [hr]
      rfl
    rw [e0] at hF ⊢
    refine v_if_eq (tgt := 14) hC dL_counts_7 (by decide) (fun h => ?_) (fun h => ?_)
    · rw [if_pos h] at hF ⊢
      refine v_lconst hC (v := 0) dL_counts_14 (by decide) ?_
      refine v_last hC 0 (by decide) dL_counts_15 ?_
      refine v_goto (tgt := 22) hC dL_counts_16 (by decide) ?_
      refine v_iconst hC (v := 0) dL_counts_22 (by decide) ?_
      exact v_iret hC hlk hrt (by decide) dL_counts_23
    · rw [if_neg h] at hF ⊢
      refine v_lconst hC (v := 1) dL_counts_10 (by decide) ?_
      refine v_goto (tgt := 15) hC dL_counts_11 (by decide) ?_
      refine v_last hC 1 (by decide) dL_counts_15 ?_
      refine v_goto (tgt := 22) hC dL_counts_16 (by decide) ?_
      refine v_iconst hC (v := 0) dL_counts_22 (by decide) ?_
      exact v_iret hC hlk hrt (by decide) dL_counts_23
def f_L_stateOf (M : gM) (a1 : Int32) : gR := rc (f_X8_stateOf M a1) (fun v M1 => rRet 0 (gset M1 10 0 v)) (fun ex M1 => if ex = 0 then rRet 1 M1 else rStuck)
abbrev rm_L_stateOf : Room := { frames := 8, cells := 1, slots := 6, locals := 132 }
theorem mw_X8_stateOf : Cond.instanceMethod yX8_stateOf ∈ gWS ∧ Cond.selects RX8 yX8_stateOf yX8_stateOf ∈ gWS ∧ Cond.initialized RX8 ∈ gWS ∧ Cond.code yX8_stateOf cX8_stateOf 2 (some .int) ∈ gWS := ⟨gIx 1179 (by decide +kernel) rfl, gIx 1180 (by decide +kernel) rfl, gIx 75 (by decide +kernel) rfl, gIx 1181 (by decide +kernel) rfl⟩
set_option maxRecDepth 20000 in
set_option maxHeartbeats 4000000 in
theorem c_L_stateOf {l : Launch} (hfl : l.stackTraces = false) (Z : gZ) (M : gM) (a1 : Int32) : gMetL l yL_stateOf cL_stateOf 4 [(0, 9, 12, 25)] rm_L_stateOf 1 Z M [.ref (zad Z 0), .int a1, .ref (zad Z 10)] (f_L_stateOf M a1) := by
  refine v_enter (by decide) (Nat.le_of_ble_eq_true rfl) (fun hF p e s m args below meth c hC hN hlk hrt hT => ?_)
  refine v_lv0 (lv1 := [(0, .ref (zad Z 0)), (1, .int a1), (2, .ref (zad Z 10))]) rfl ?_
  refine v_aload_n hC 2 dL_stateOf_0 rfl rfl ?_
  refine v_iconst hC (v := 0) dL_stateOf_1 (by decide) ?_
  refine v_aload_n hC 0 dL_stateOf_2 rfl rfl ?_
  refine v_iload_n hC 1 dL_stateOf_3 rfl rfl ?_
  refine v_callHi (n := 1) hC [.int a1] 0 8 (by decide) rfl rfl (fun hne => c_X8_stateOf hfl Z M a1 hne) (rc_ne hF) (gIx 1178 (by decide +kernel) rfl) mw_X8_stateOf.1 mw_X8_stateOf.2.1 mw_X8_stateOf.2.2.1 mw_X8_stateOf.2.2.2 ⟨rfl, by decide, by decide, by decide +kernel⟩ rfl rfl ⟨by decide, by decide⟩ rfl rfl (Nat.le_of_ble_eq_true rfl) (by decide) (by decide) dL_stateOf_4 (fun ex M1 hr => ?_) (fun v M1 hr => ?_)
  · have e0 : f_L_stateOf M a1 = (if ex = 0 then rRet 1 M1 else rStuck) := by
      unfold f_L_stateOf
      rw [hr]
      exact rc_thr _ _ _ _
    rw [e0] at hF ⊢
    by_cases h0 : ex = 0
    · subst h0
      rw [if_pos rfl] at hF ⊢
      refine ⟨[], ⟨0, 9, 12, 25⟩, [], gEx 0, hT.trans rfl, fun z hz => ?_, rfl, by decide, cl_L_25, by decide, fun q9 => ?_⟩
      · cases hz
      · refine v_astore_n hC (lv1 := [(3, .ref q9), (0, .ref (zad Z 0)), (1, .int a1), (2, .ref (zad Z 10))]) dL_stateOf_12 rfl (by decide) rfl ?_
        refine v_iconst hC (v := 1) dL_stateOf_13 (by decide) ?_
        exact v_iret hC hlk hrt (by decide) dL_stateOf_14
    · rw [if_neg h0] at hF ⊢
      exact absurd rfl hF
  · have e0 : f_L_stateOf M a1 = rRet 0 (gset M1 10 0 v) := by
      unfold f_L_stateOf
      rw [hr]
      rfl
    rw [e0] at hF ⊢
    refine v_i2l hC dL_stateOf_7 ?_
    refine v_last hC v rfl dL_stateOf_8 ?_
    refine v_goto (tgt := 15) hC dL_stateOf_9 (by decide) ?_
    refine v_iconst hC (v := 0) dL_stateOf_15 (by decide) ?_
    exact v_iret hC hlk hrt (by decide) dL_stateOf_16
def f_L_stateByDocket (M : gM) (a1 : Int32) : gR := rc (f_X8_stateByDocket M a1) (fun v M1 => rRet 0 (gset M1 10 0 v)) (fun ex M1 => if ex = 0 then rRet 1 M1 else rStuck)
abbrev rm_L_stateByDocket : Room := { frames := 8, cells := 1, slots := 6, locals := 138 }
theorem mw_X8_stateByDocket : Cond.instanceMethod yX8_stateByDocket ∈ gWS ∧ Cond.selects RX8 yX8_stateByDocket yX8_stateByDocket ∈ gWS ∧ Cond.initialized RX8 ∈ gWS ∧ Cond.code yX8_stateByDocket cX8_stateByDocket 8 (some .int) ∈ gWS := ⟨gIx 1186 (by decide +kernel) rfl, gIx 1187 (by decide +kernel) rfl, gIx 75 (by decide +kernel) rfl, gIx 1188 (by decide +kernel) rfl⟩
set_option maxRecDepth 20000 in
set_option maxHeartbeats 4000000 in
theorem c_L_stateByDocket {l : Launch} (hfl : l.stackTraces = false) (Z : gZ) (M : gM) (a1 : Int32) : gMetL l yL_stateByDocket cL_stateByDocket 4 [(0, 9, 12, 25)] rm_L_stateByDocket 1 Z M [.ref (zad Z 0), .int a1, .ref (zad Z 10)] (f_L_stateByDocket M a1) := by
  refine v_enter (by decide) (Nat.le_of_ble_eq_true rfl) (fun hF p e s m args below meth c hC hN hlk hrt hT => ?_)
  refine v_lv0 (lv1 := [(0, .ref (zad Z 0)), (1, .int a1), (2, .ref (zad Z 10))]) rfl ?_
  refine v_aload_n hC 2 dL_stateByDocket_0 rfl rfl ?_
  refine v_iconst hC (v := 0) dL_stateByDocket_1 (by decide) ?_
  refine v_aload_n hC 0 dL_stateByDocket_2 rfl rfl ?_
  refine v_iload_n hC 1 dL_stateByDocket_3 rfl rfl ?_
  refine v_callHi (n := 1) hC [.int a1] 0 8 (by decide) rfl rfl (fun hne => c_X8_stateByDocket hfl Z M a1 hne) (rc_ne hF) (gIx 1185 (by decide +kernel) rfl) mw_X8_stateByDocket.1 mw_X8_stateByDocket.2.1 mw_X8_stateByDocket.2.2.1 mw_X8_stateByDocket.2.2.2 ⟨rfl, by decide, by decide, by decide +kernel⟩ rfl rfl ⟨by decide, by decide⟩ rfl rfl (Nat.le_of_ble_eq_true rfl) (by decide) (by decide) dL_stateByDocket_4 (fun ex M1 hr => ?_) (fun v M1 hr => ?_)
  · have e0 : f_L_stateByDocket M a1 = (if ex = 0 then rRet 1 M1 else rStuck) := by
      unfold f_L_stateByDocket
      rw [hr]
      exact rc_thr _ _ _ _
    rw [e0] at hF ⊢
    by_cases h0 : ex = 0
    · subst h0
      rw [if_pos rfl] at hF ⊢
      refine ⟨[], ⟨0, 9, 12, 25⟩, [], gEx 0, hT.trans rfl, fun z hz => ?_, rfl, by decide, cl_L_25, by decide, fun q9 => ?_⟩
      · cases hz
      · refine v_astore_n hC (lv1 := [(3, .ref q9), (0, .ref (zad Z 0)), (1, .int a1), (2, .ref (zad Z 10))]) dL_stateByDocket_12 rfl (by decide) rfl ?_
        refine v_iconst hC (v := 1) dL_stateByDocket_13 (by decide) ?_
        exact v_iret hC hlk hrt (by decide) dL_stateByDocket_14
    · rw [if_neg h0] at hF ⊢
      exact absurd rfl hF
  · have e0 : f_L_stateByDocket M a1 = rRet 0 (gset M1 10 0 v) := by
      unfold f_L_stateByDocket
      rw [hr]
      rfl
    rw [e0] at hF ⊢
    refine v_i2l hC dL_stateByDocket_7 ?_
    refine v_last hC v rfl dL_stateByDocket_8 ?_
    refine v_goto (tgt := 15) hC dL_stateByDocket_9 (by decide) ?_
    refine v_iconst hC (v := 0) dL_stateByDocket_15 (by decide) ?_
    exact v_iret hC hlk hrt (by decide) dL_stateByDocket_16
def f_L_amountOf (M : gM) (a1 : Int32) : gR := rc (f_X8_amountOf M a1) (fun v M1 => rRet 0 (gset M1 10 0 v)) (fun ex M1 => if ex = 0 then rRet 1 M1 else rStuck)
abbrev rm_L_amountOf : Room := { frames := 8, cells := 1, slots := 6, locals := 132 }
theorem mw_X8_amountOf : Cond.instanceMethod yX8_amountOf ∈ gWS ∧ Cond.selects RX8 yX8_amountOf yX8_amountOf ∈ gWS ∧ Cond.initialized RX8 ∈ gWS ∧ Cond.code yX8_amountOf cX8_amountOf 2 (some .int) ∈ gWS := ⟨gIx 1194 (by decide +kernel) rfl, gIx 1195 (by decide +kernel) rfl, gIx 75 (by decide +kernel) rfl, gIx 1196 (by decide +kernel) rfl⟩
set_option maxRecDepth 20000 in
set_option maxHeartbeats 4000000 in
theorem c_L_amountOf {l : Launch} (hfl : l.stackTraces = false) (Z : gZ) (M : gM) (a1 : Int32) : gMetL l yL_amountOf cL_amountOf 4 [(0, 9, 12, 25)] rm_L_amountOf 1 Z M [.ref (zad Z 0), .int a1, .ref (zad Z 10)] (f_L_amountOf M a1) := by
  refine v_enter (by decide) (Nat.le_of_ble_eq_true rfl) (fun hF p e s m args below meth c hC hN hlk hrt hT => ?_)
  refine v_lv0 (lv1 := [(0, .ref (zad Z 0)), (1, .int a1), (2, .ref (zad Z 10))]) rfl ?_
  refine v_aload_n hC 2 dL_amountOf_0 rfl rfl ?_
  refine v_iconst hC (v := 0) dL_amountOf_1 (by decide) ?_
  refine v_aload_n hC 0 dL_amountOf_2 rfl rfl ?_
  refine v_iload_n hC 1 dL_amountOf_3 rfl rfl ?_
  refine v_callHi (n := 1) hC [.int a1] 0 8 (by decide) rfl rfl (fun hne => c_X8_amountOf hfl Z M a1 hne) (rc_ne hF) (gIx 1193 (by decide +kernel) rfl) mw_X8_amountOf.1 mw_X8_amountOf.2.1 mw_X8_amountOf.2.2.1 mw_X8_amountOf.2.2.2 ⟨rfl, by decide, by decide, by decide +kernel⟩ rfl rfl ⟨by decide, by decide⟩ rfl rfl (Nat.le_of_ble_eq_true rfl) (by decide) (by decide) dL_amountOf_4 (fun ex M1 hr => ?_) (fun v M1 hr => ?_)
  · have e0 : f_L_amountOf M a1 = (if ex = 0 then rRet 1 M1 else rStuck) := by
      unfold f_L_amountOf
      rw [hr]
      exact rc_thr _ _ _ _
    rw [e0] at hF ⊢
    by_cases h0 : ex = 0
    · subst h0
      rw [if_pos rfl] at hF ⊢
      refine ⟨[], ⟨0, 9, 12, 25⟩, [], gEx 0, hT.trans rfl, fun z hz => ?_, rfl, by decide, cl_L_25, by decide, fun q9 => ?_⟩
      · cases hz
      · refine v_astore_n hC (lv1 := [(3, .ref q9), (0, .ref (zad Z 0)), (1, .int a1), (2, .ref (zad Z 10))]) dL_amountOf_12 rfl (by decide) rfl ?_
        refine v_iconst hC (v := 1) dL_amountOf_13 (by decide) ?_
        exact v_iret hC hlk hrt (by decide) dL_amountOf_14
    · rw [if_neg h0] at hF ⊢
      exact absurd rfl hF
  · have e0 : f_L_amountOf M a1 = rRet 0 (gset M1 10 0 v) := by
      unfold f_L_amountOf
      rw [hr]
      rfl
    rw [e0] at hF ⊢
    refine v_i2l hC dL_amountOf_7 ?_
    refine v_last hC v rfl dL_amountOf_8 ?_
    refine v_goto (tgt := 15) hC dL_amountOf_9 (by decide) ?_
    refine v_iconst hC (v := 0) dL_amountOf_15 (by decide) ?_
    exact v_iret hC hlk hrt (by decide) dL_amountOf_16
def f_L_balance (M : gM) (a1 : Int32) : gR := rc (f_X8_balance M a1) (fun v M1 => rRet 0 (gset M1 10 0 v)) (fun ex M1 => if ex = 0 then rRet 1 M1 else rStuck)
abbrev rm_L_balance : Room := { frames := 8, cells := 1, slots := 6, locals := 132 }
theorem mw_X8_balance : Cond.instanceMethod yX8_balance ∈ gWS ∧ Cond.selects RX8 yX8_balance yX8_balance ∈ gWS ∧ Cond.initialized RX8 ∈ gWS ∧ Cond.code yX8_balance cX8_balance 2 (some .int) ∈ gWS := ⟨gIx 1201 (by decide +kernel) rfl, gIx 1202 (by decide +kernel) rfl, gIx 75 (by decide +kernel) rfl, gIx 1203 (by decide +kernel) rfl⟩
set_option maxRecDepth 20000 in
set_option maxHeartbeats 4000000 in
theorem c_L_balance {l : Launch} (hfl : l.stackTraces = false) (Z : gZ) (M : gM) (a1 : Int32) : gMetL l yL_balance cL_balance 4 [(0, 9, 12, 25)] rm_L_balance 1 Z M [.ref (zad Z 0), .int a1, .ref (zad Z 10)] (f_L_balance M a1) := by
  refine v_enter (by decide) (Nat.le_of_ble_eq_true rfl) (fun hF p e s m args below meth c hC hN hlk hrt hT => ?_)
  refine v_lv0 (lv1 := [(0, .ref (zad Z 0)), (1, .int a1), (2, .ref (zad Z 10))]) rfl ?_
  refine v_aload_n hC 2 dL_balance_0 rfl rfl ?_
  refine v_iconst hC (v := 0) dL_balance_1 (by decide) ?_
  refine v_aload_n hC 0 dL_balance_2 rfl rfl ?_
  refine v_iload_n hC 1 dL_balance_3 rfl rfl ?_
  refine v_callHi (n := 1) hC [.int a1] 0 8 (by decide) rfl rfl (fun hne => c_X8_balance hfl Z M a1 hne) (rc_ne hF) (gIx 1200 (by decide +kernel) rfl) mw_X8_balance.1 mw_X8_balance.2.1 mw_X8_balance.2.2.1 mw_X8_balance.2.2.2 ⟨rfl, by decide, by decide, by decide +kernel⟩ rfl rfl ⟨by decide, by decide⟩ rfl rfl (Nat.le_of_ble_eq_true rfl) (by decide) (by decide) dL_balance_4 (fun ex M1 hr => ?_) (fun v M1 hr => ?_)
  · have e0 : f_L_balance M a1 = (if ex = 0 then rRet 1 M1 else rStuck) := by
      unfold f_L_balance
      rw [hr]
      exact rc_thr _ _ _ _
    rw [e0] at hF ⊢
    by_cases h0 : ex = 0
    · subst h0
      rw [if_pos rfl] at hF ⊢
      refine ⟨[], ⟨0, 9, 12, 25⟩, [], gEx 0, hT.trans rfl, fun z hz => ?_, rfl, by decide, cl_L_25, by decide, fun q9 => ?_⟩
      · cases hz
      · refine v_astore_n hC (lv1 := [(3, .ref q9), (0, .ref (zad Z 0)), (1, .int a1), (2, .ref (zad Z 10))]) dL_balance_12 rfl (by decide) rfl ?_
        refine v_iconst hC (v := 1) dL_balance_13 (by decide) ?_
        exact v_iret hC hlk hrt (by decide) dL_balance_14
    · rw [if_neg h0] at hF ⊢
      exact absurd rfl hF
  · have e0 : f_L_balance M a1 = rRet 0 (gset M1 10 0 v) := by
      unfold f_L_balance
      rw [hr]
      rfl
    rw [e0] at hF ⊢
    refine v_i2l hC dL_balance_7 ?_
    refine v_last hC v rfl dL_balance_8 ?_
    refine v_goto (tgt := 15) hC dL_balance_9 (by decide) ?_
    refine v_iconst hC (v := 0) dL_balance_15 (by decide) ?_
    exact v_iret hC hlk hrt (by decide) dL_balance_16
def f_L_caseOf (M : gM) (a1 : Int32) : gR := rc (f_X8_caseOf M a1) (fun v M1 => rRet 0 (gset M1 10 0 v)) (fun ex M1 => if ex = 0 then rRet 1 M1 else rStuck)
abbrev rm_L_caseOf : Room := { frames := 8, cells := 1, slots := 6, locals := 132 }
theorem mw_X8_caseOf : Cond.instanceMethod yX8_caseOf ∈ gWS ∧ Cond.selects RX8 yX8_caseOf yX8_caseOf ∈ gWS ∧ Cond.initialized RX8 ∈ gWS ∧ Cond.code yX8_caseOf cX8_caseOf 2 (some .int) ∈ gWS := ⟨gIx 1208 (by decide +kernel) rfl, gIx 1209 (by decide +kernel) rfl, gIx 75 (by decide +kernel) rfl, gIx 1210 (by decide +kernel) rfl⟩
set_option maxRecDepth 20000 in
set_option maxHeartbeats 4000000 in
theorem c_L_caseOf {l : Launch} (hfl : l.stackTraces = false) (Z : gZ) (M : gM) (a1 : Int32) : gMetL l yL_caseOf cL_caseOf 4 [(0, 9, 12, 25)] rm_L_caseOf 1 Z M [.ref (zad Z 0), .int a1, .ref (zad Z 10)] (f_L_caseOf M a1) := by
  refine v_enter (by decide) (Nat.le_of_ble_eq_true rfl) (fun hF p e s m args below meth c hC hN hlk hrt hT => ?_)
  refine v_lv0 (lv1 := [(0, .ref (zad Z 0)), (1, .int a1), (2, .ref (zad Z 10))]) rfl ?_
  refine v_aload_n hC 2 dL_caseOf_0 rfl rfl ?_
  refine v_iconst hC (v := 0) dL_caseOf_1 (by decide) ?_
  refine v_aload_n hC 0 dL_caseOf_2 rfl rfl ?_
  refine v_iload_n hC 1 dL_caseOf_3 rfl rfl ?_
  refine v_callHi (n := 1) hC [.int a1] 0 8 (by decide) rfl rfl (fun hne => c_X8_caseOf hfl Z M a1 hne) (rc_ne hF) (gIx 1207 (by decide +kernel) rfl) mw_X8_caseOf.1 mw_X8_caseOf.2.1 mw_X8_caseOf.2.2.1 mw_X8_caseOf.2.2.2 ⟨rfl, by decide, by decide, by decide +kernel⟩ rfl rfl ⟨by decide, by decide⟩ rfl rfl (Nat.le_of_ble_eq_true rfl) (by decide) (by decide) dL_caseOf_4 (fun ex M1 hr => ?_) (fun v M1 hr => ?_)
  · have e0 : f_L_caseOf M a1 = (if ex = 0 then rRet 1 M1 else rStuck) := by
      unfold f_L_caseOf
      rw [hr]
      exact rc_thr _ _ _ _
    rw [e0] at hF ⊢
    by_cases h0 : ex = 0
    · subst h0
      rw [if_pos rfl] at hF ⊢
      refine ⟨[], ⟨0, 9, 12, 25⟩, [], gEx 0, hT.trans rfl, fun z hz => ?_, rfl, by decide, cl_L_25, by decide, fun q9 => ?_⟩
      · cases hz
      · refine v_astore_n hC (lv1 := [(3, .ref q9), (0, .ref (zad Z 0)), (1, .int a1), (2, .ref (zad Z 10))]) dL_caseOf_12 rfl (by decide) rfl ?_
        refine v_iconst hC (v := 1) dL_caseOf_13 (by decide) ?_
        exact v_iret hC hlk hrt (by decide) dL_caseOf_14
    · rw [if_neg h0] at hF ⊢
      exact absurd rfl hF
  · have e0 : f_L_caseOf M a1 = rRet 0 (gset M1 10 0 v) := by
      unfold f_L_caseOf
      rw [hr]
      rfl
    rw [e0] at hF ⊢
    refine v_i2l hC dL_caseOf_7 ?_
    refine v_last hC v rfl dL_caseOf_8 ?_
    refine v_goto (tgt := 15) hC dL_caseOf_9 (by decide) ?_
    refine v_iconst hC (v := 0) dL_caseOf_15 (by decide) ?_
    exact v_iret hC hlk hrt (by decide) dL_caseOf_16
def f_L_isAnswered (M : gM) (a1 : Int32) : gR := rc (f_X8_isAnswered M a1) (fun v M1 => if v = 0 then rRet 0 (gset M1 10 0 0) else rRet 0 (gset M1 10 0 1)) (fun ex M1 => if ex = 0 then rRet 1 M1 else rStuck)
abbrev rm_L_isAnswered : Room := { frames := 8, cells := 1, slots := 6, locals := 132 }
theorem mw_X8_isAnswered : Cond.instanceMethod yX8_isAnswered ∈ gWS ∧ Cond.selects RX8 yX8_isAnswered yX8_isAnswered ∈ gWS ∧ Cond.initialized RX8 ∈ gWS ∧ Cond.code yX8_isAnswered cX8_isAnswered 2 (some .boolean) ∈ gWS := ⟨gIx 1215 (by decide +kernel) rfl, gIx 1216 (by decide +kernel) rfl, gIx 75 (by decide +kernel) rfl, gIx 1217 (by decide +kernel) rfl⟩
set_option maxRecDepth 20000 in
set_option maxHeartbeats 4000000 in
theorem c_L_isAnswered {l : Launch} (hfl : l.stackTraces = false) (Z : gZ) (M : gM) (a1 : Int32) : gMetL l yL_isAnswered cL_isAnswered 4 [(0, 16, 19, 25)] rm_L_isAnswered 1 Z M [.ref (zad Z 0), .int a1, .ref (zad Z 10)] (f_L_isAnswered M a1) := by
  refine v_enter (by decide) (Nat.le_of_ble_eq_true rfl) (fun hF p e s m args below meth c hC hN hlk hrt hT => ?_)
  refine v_lv0 (lv1 := [(0, .ref (zad Z 0)), (1, .int a1), (2, .ref (zad Z 10))]) rfl ?_
  refine v_aload_n hC 2 dL_isAnswered_0 rfl rfl ?_
  refine v_iconst hC (v := 0) dL_isAnswered_1 (by decide) ?_
  refine v_aload_n hC 0 dL_isAnswered_2 rfl rfl ?_
  refine v_iload_n hC 1 dL_isAnswered_3 rfl rfl ?_
  refine v_callHi (n := 1) hC [.int a1] 0 8 (by decide) rfl rfl (fun hne => c_X8_isAnswered hfl Z M a1 hne) (rc_ne hF) (gIx 1214 (by decide +kernel) rfl) mw_X8_isAnswered.1 mw_X8_isAnswered.2.1 mw_X8_isAnswered.2.2.1 mw_X8_isAnswered.2.2.2 ⟨rfl, by decide, by decide, by decide +kernel⟩ rfl rfl ⟨by decide, by decide⟩ rfl rfl (Nat.le_of_ble_eq_true rfl) (by decide) (by decide) dL_isAnswered_4 (fun ex M1 hr => ?_) (fun v M1 hr => ?_)
  · have e0 : f_L_isAnswered M a1 = (if ex = 0 then rRet 1 M1 else rStuck) := by
      unfold f_L_isAnswered
      rw [hr]
      exact rc_thr _ _ _ _
    rw [e0] at hF ⊢
    by_cases h0 : ex = 0
    · subst h0
      rw [if_pos rfl] at hF ⊢
      refine ⟨[], ⟨0, 16, 19, 25⟩, [], gEx 0, hT.trans rfl, fun z hz => ?_, rfl, by decide, cl_L_25, by decide, fun q9 => ?_⟩
      · cases hz
      · refine v_astore_n hC (lv1 := [(3, .ref q9), (0, .ref (zad Z 0)), (1, .int a1), (2, .ref (zad Z 10))]) dL_isAnswered_19 rfl (by decide) rfl ?_
        refine v_iconst hC (v := 1) dL_isAnswered_20 (by decide) ?_
        exact v_iret hC hlk hrt (by decide) dL_isAnswered_21
    · rw [if_neg h0] at hF ⊢
      exact absurd rfl hF
  · have e0 : f_L_isAnswered M a1 = (if v = 0 then rRet 0 (gset M1 10 0 0) else rRet 0 (gset M1 10 0 1)) := by
      unfold f_L_isAnswered
      rw [hr]
      rfl
    rw [e0] at hF ⊢
    refine v_if_eq (tgt := 14) hC dL_isAnswered_7 (by decide) (fun h => ?_) (fun h => ?_)
    · rw [if_pos h] at hF ⊢
      refine v_lconst hC (v := 0) dL_isAnswered_14 (by decide) ?_
      refine v_last hC 0 (by decide) dL_isAnswered_15 ?_
      refine v_goto (tgt := 22) hC dL_isAnswered_16 (by decide) ?_
      refine v_iconst hC (v := 0) dL_isAnswered_22 (by decide) ?_
      exact v_iret hC hlk hrt (by decide) dL_isAnswered_23
    · rw [if_neg h] at hF ⊢
      refine v_lconst hC (v := 1) dL_isAnswered_10 (by decide) ?_
      refine v_goto (tgt := 15) hC dL_isAnswered_11 (by decide) ?_
      refine v_last hC 1 (by decide) dL_isAnswered_15 ?_
      refine v_goto (tgt := 22) hC dL_isAnswered_16 (by decide) ?_
      refine v_iconst hC (v := 0) dL_isAnswered_22 (by decide) ?_
      exact v_iret hC hlk hrt (by decide) dL_isAnswered_23
def f_L_due (M : gM) (a1 : Int32) (a2 : Int32) : gR := rc (f_X8_due M a1 a2) (fun v M1 => rRet 0 (gset M1 10 0 v)) (fun ex M1 => if ex = 0 then rRet 1 M1 else rStuck)
abbrev rm_L_due : Room := { frames := 10, cells := 2, slots := 12, locals := 177 }
theorem mw_X8_due : Cond.instanceMethod yX8_due ∈ gWS ∧ Cond.selects RX8 yX8_due yX8_due ∈ gWS ∧ Cond.initialized RX8 ∈ gWS ∧ Cond.code yX8_due cX8_due 4 (some .int) ∈ gWS := ⟨gIx 1222 (by decide +kernel) rfl, gIx 1223 (by decide +kernel) rfl, gIx 75 (by decide +kernel) rfl, gIx 1224 (by decide +kernel) rfl⟩
set_option maxRecDepth 20000 in
set_option maxHeartbeats 4000000 in
theorem c_L_due {l : Launch} (hfl : l.stackTraces = false) (Z : gZ) (M : gM) (a1 : Int32) (a2 : Int32) : gMetL l yL_due cL_due 5 [(0, 10, 13, 25)] rm_L_due 2 Z M [.ref (zad Z 0), .int a1, .int a2, .ref (zad Z 10)] (f_L_due M a1 a2) := by
  refine v_enter (by decide) (Nat.le_of_ble_eq_true rfl) (fun hF p e s m args below meth c hC hN hlk hrt hT => ?_)
  refine v_lv0 (lv1 := [(0, .ref (zad Z 0)), (1, .int a1), (2, .int a2), (3, .ref (zad Z 10))]) rfl ?_
  refine v_aload_n hC 3 dL_due_0 rfl rfl ?_
  refine v_iconst hC (v := 0) dL_due_1 (by decide) ?_
  refine v_aload_n hC 0 dL_due_2 rfl rfl ?_
  refine v_iload_n hC 1 dL_due_3 rfl rfl ?_
  refine v_iload_n hC 2 dL_due_4 rfl rfl ?_
  refine v_callHi (n := 2) hC [.int a1, .int a2] 0 8 (by decide) rfl rfl (fun hne => c_X8_due hfl Z M a1 a2 hne) (rc_ne hF) (gIx 1221 (by decide +kernel) rfl) mw_X8_due.1 mw_X8_due.2.1 mw_X8_due.2.2.1 mw_X8_due.2.2.2 ⟨rfl, by decide, by decide, by decide +kernel⟩ rfl rfl ⟨by decide, by decide⟩ rfl rfl (Nat.le_of_ble_eq_true rfl) (by decide) (by decide) dL_due_5 (fun ex M1 hr => ?_) (fun v M1 hr => ?_)
  · have e0 : f_L_due M a1 a2 = (if ex = 0 then rRet 1 M1 else rStuck) := by
      unfold f_L_due
      rw [hr]
      exact rc_thr _ _ _ _
    rw [e0] at hF ⊢
    by_cases h0 : ex = 0
    · subst h0
      rw [if_pos rfl] at hF ⊢
      refine ⟨[], ⟨0, 10, 13, 25⟩, [], gEx 0, hT.trans rfl, fun z hz => ?_, rfl, by decide, cl_L_25, by decide, fun q9 => ?_⟩
      · cases hz
      · refine v_astore hC (lv1 := [(4, .ref q9), (0, .ref (zad Z 0)), (1, .int a1), (2, .int a2), (3, .ref (zad Z 10))]) dL_due_13 (by decide) rfl ?_
        refine v_iconst hC (v := 1) dL_due_15 (by decide) ?_
        exact v_iret hC hlk hrt (by decide) dL_due_16
    · rw [if_neg h0] at hF ⊢
      exact absurd rfl hF
  · have e0 : f_L_due M a1 a2 = rRet 0 (gset M1 10 0 v) := by
      unfold f_L_due
      rw [hr]
      rfl
    rw [e0] at hF ⊢
    refine v_i2l hC dL_due_8 ?_
    refine v_last hC v rfl dL_due_9 ?_
    refine v_goto (tgt := 17) hC dL_due_10 (by decide) ?_
    refine v_iconst hC (v := 0) dL_due_17 (by decide) ?_
    exact v_iret hC hlk hrt (by decide) dL_due_18
def f_L_dueByDays (M : gM) (a1 : Int32) (a2 : Int32) : gR := rc (f_X8_dueByDays M a1 a2) (fun v M1 => rRet 0 (gset M1 10 0 v)) (fun ex M1 => if ex = 0 then rRet 1 M1 else rStuck)
abbrev rm_L_dueByDays : Room := { frames := 10, cells := 2, slots := 12, locals := 179 }
theorem mw_X8_dueByDays : Cond.instanceMethod yX8_dueByDays ∈ gWS ∧ Cond.selects RX8 yX8_dueByDays yX8_dueByDays ∈ gWS ∧ Cond.initialized RX8 ∈ gWS ∧ Cond.code yX8_dueByDays cX8_dueByDays 6 (some .int) ∈ gWS := ⟨gIx 1229 (by decide +kernel) rfl, gIx 1230 (by decide +kernel) rfl, gIx 75 (by decide +kernel) rfl, gIx 1231 (by decide +kernel) rfl⟩
set_option maxRecDepth 20000 in
set_option maxHeartbeats 4000000 in
theorem c_L_dueByDays {l : Launch} (hfl : l.stackTraces = false) (Z : gZ) (M : gM) (a1 : Int32) (a2 : Int32) : gMetL l yL_dueByDays cL_dueByDays 5 [(0, 10, 13, 25)] rm_L_dueByDays 2 Z M [.ref (zad Z 0), .int a1, .int a2, .ref (zad Z 10)] (f_L_dueByDays M a1 a2) := by
  refine v_enter (by decide) (Nat.le_of_ble_eq_true rfl) (fun hF p e s m args below meth c hC hN hlk hrt hT => ?_)
  refine v_lv0 (lv1 := [(0, .ref (zad Z 0)), (1, .int a1), (2, .int a2), (3, .ref (zad Z 10))]) rfl ?_
  refine v_aload_n hC 3 dL_dueByDays_0 rfl rfl ?_
  refine v_iconst hC (v := 0) dL_dueByDays_1 (by decide) ?_
  refine v_aload_n hC 0 dL_dueByDays_2 rfl rfl ?_
  refine v_iload_n hC 1 dL_dueByDays_3 rfl rfl ?_
  refine v_iload_n hC 2 dL_dueByDays_4 rfl rfl ?_
  refine v_callHi (n := 2) hC [.int a1, .int a2] 0 8 (by decide) rfl rfl (fun hne => c_X8_dueByDays hfl Z M a1 a2 hne) (rc_ne hF) (gIx 1228 (by decide +kernel) rfl) mw_X8_dueByDays.1 mw_X8_dueByDays.2.1 mw_X8_dueByDays.2.2.1 mw_X8_dueByDays.2.2.2 ⟨rfl, by decide, by decide, by decide +kernel⟩ rfl rfl ⟨by decide, by decide⟩ rfl rfl (Nat.le_of_ble_eq_true rfl) (by decide) (by decide) dL_dueByDays_5 (fun ex M1 hr => ?_) (fun v M1 hr => ?_)
  · have e0 : f_L_dueByDays M a1 a2 = (if ex = 0 then rRet 1 M1 else rStuck) := by
      unfold f_L_dueByDays
      rw [hr]
      exact rc_thr _ _ _ _
    rw [e0] at hF ⊢
    by_cases h0 : ex = 0
    · subst h0
      rw [if_pos rfl] at hF ⊢
      refine ⟨[], ⟨0, 10, 13, 25⟩, [], gEx 0, hT.trans rfl, fun z hz => ?_, rfl, by decide, cl_L_25, by decide, fun q9 => ?_⟩
      · cases hz
      · refine v_astore hC (lv1 := [(4, .ref q9), (0, .ref (zad Z 0)), (1, .int a1), (2, .int a2), (3, .ref (zad Z 10))]) dL_dueByDays_13 (by decide) rfl ?_
        refine v_iconst hC (v := 1) dL_dueByDays_15 (by decide) ?_
        exact v_iret hC hlk hrt (by decide) dL_dueByDays_16
    · rw [if_neg h0] at hF ⊢
      exact absurd rfl hF
  · have e0 : f_L_dueByDays M a1 a2 = rRet 0 (gset M1 10 0 v) := by
      unfold f_L_dueByDays
      rw [hr]
      rfl
    rw [e0] at hF ⊢
    refine v_i2l hC dL_dueByDays_8 ?_
    refine v_last hC v rfl dL_dueByDays_9 ?_
    refine v_goto (tgt := 17) hC dL_dueByDays_10 (by decide) ?_
    refine v_iconst hC (v := 0) dL_dueByDays_17 (by decide) ?_
    exact v_iret hC hlk hrt (by decide) dL_dueByDays_18
def f_L_hearingAt (M : gM) (a1 : Int32) : gR := rc (f_X8_hearingAt M a1) (fun v M1 => rRet 0 (gset M1 10 0 v)) (fun ex M1 => if ex = 0 then rRet 1 M1 else rStuck)
abbrev rm_L_hearingAt : Room := { frames := 8, cells := 1, slots := 6, locals := 132 }
theorem mw_X8_hearingAt : Cond.instanceMethod yX8_hearingAt ∈ gWS ∧ Cond.selects RX8 yX8_hearingAt yX8_hearingAt ∈ gWS ∧ Cond.initialized RX8 ∈ gWS ∧ Cond.code yX8_hearingAt cX8_hearingAt 2 (some .int) ∈ gWS := ⟨gIx 1245 (by decide +kernel) rfl, gIx 1246 (by decide +kernel) rfl, gIx 75 (by decide +kernel) rfl, gIx 1247 (by decide +kernel) rfl⟩
set_option maxRecDepth 20000 in
set_option maxHeartbeats 4000000 in
theorem c_L_hearingAt {l : Launch} (hfl : l.stackTraces = false) (Z : gZ) (M : gM) (a1 : Int32) : gMetL l yL_hearingAt cL_hearingAt 4 [(0, 9, 12, 25)] rm_L_hearingAt 1 Z M [.ref (zad Z 0), .int a1, .ref (zad Z 10)] (f_L_hearingAt M a1) := by
  refine v_enter (by decide) (Nat.le_of_ble_eq_true rfl) (fun hF p e s m args below meth c hC hN hlk hrt hT => ?_)
  refine v_lv0 (lv1 := [(0, .ref (zad Z 0)), (1, .int a1), (2, .ref (zad Z 10))]) rfl ?_
  refine v_aload_n hC 2 dL_hearingAt_0 rfl rfl ?_
  refine v_iconst hC (v := 0) dL_hearingAt_1 (by decide) ?_
  refine v_aload_n hC 0 dL_hearingAt_2 rfl rfl ?_
  refine v_iload_n hC 1 dL_hearingAt_3 rfl rfl ?_
  refine v_callHi (n := 1) hC [.int a1] 0 8 (by decide) rfl rfl (fun hne => c_X8_hearingAt hfl Z M a1 hne) (rc_ne hF) (gIx 1244 (by decide +kernel) rfl) mw_X8_hearingAt.1 mw_X8_hearingAt.2.1 mw_X8_hearingAt.2.2.1 mw_X8_hearingAt.2.2.2 ⟨rfl, by decide, by decide, by decide +kernel⟩ rfl rfl ⟨by decide, by decide⟩ rfl rfl (Nat.le_of_ble_eq_true rfl) (by decide) (by decide) dL_hearingAt_4 (fun ex M1 hr => ?_) (fun v M1 hr => ?_)
  · have e0 : f_L_hearingAt M a1 = (if ex = 0 then rRet 1 M1 else rStuck) := by
      unfold f_L_hearingAt
      rw [hr]
      exact rc_thr _ _ _ _
    rw [e0] at hF ⊢
    by_cases h0 : ex = 0
    · subst h0
      rw [if_pos rfl] at hF ⊢
      refine ⟨[], ⟨0, 9, 12, 25⟩, [], gEx 0, hT.trans rfl, fun z hz => ?_, rfl, by decide, cl_L_25, by decide, fun q9 => ?_⟩
      · cases hz
      · refine v_astore_n hC (lv1 := [(3, .ref q9), (0, .ref (zad Z 0)), (1, .int a1), (2, .ref (zad Z 10))]) dL_hearingAt_12 rfl (by decide) rfl ?_
        refine v_iconst hC (v := 1) dL_hearingAt_13 (by decide) ?_
        exact v_iret hC hlk hrt (by decide) dL_hearingAt_14
    · rw [if_neg h0] at hF ⊢
      exact absurd rfl hF
  · have e0 : f_L_hearingAt M a1 = rRet 0 (gset M1 10 0 v) := by
      unfold f_L_hearingAt
      rw [hr]
      rfl
    rw [e0] at hF ⊢
    refine v_i2l hC dL_hearingAt_7 ?_
    refine v_last hC v rfl dL_hearingAt_8 ?_
    refine v_goto (tgt := 15) hC dL_hearingAt_9 (by decide) ?_
    refine v_iconst hC (v := 0) dL_hearingAt_15 (by decide) ?_
    exact v_iret hC hlk hrt (by decide) dL_hearingAt_16
