-- ===== X8_amountOf =====
def f_X8_amountOf (M : gM) (a1 : Int32) : gR := (rb (f_X8_checkClaim M a1) (fun _ M1 => (gI a1 24 (rRet (M1 50 a1.toNatClampNeg) M1))))
abbrev rm_X8_amountOf : Room := { frames := 7, cells := 1, slots := 6, locals := 111 }
set_option maxRecDepth 20000 in
set_option maxHeartbeats 4000000 in
theorem c_X8_amountOf {l : Launch} (hfl : l.stackTraces = false) (Z : gZ) (M : gM) (a1 : Int32) : gMet l yX8_amountOf cX8_amountOf 2 (some .int) rm_X8_amountOf 1 1 Z M [.ref (zad Z 0), .int a1] (f_X8_amountOf M a1) := by
  refine g_enter hfl (by decide) (Nat.le_of_ble_eq_true rfl) (fun p e s m args below meth c hC => ?_)
  refine g_eq (F := f_X8_amountOf M a1) rfl ?_
  refine g_lv0 (lv1 := [(0, .ref (zad Z 0)), (1, .int a1)]) rfl ?_
  unfold f_X8_amountOf
  refine g_aload_n hC 0 dX8_amountOf_0 rfl rfl ?_
  refine g_iload_n hC 1 dX8_amountOf_1 rfl rfl ?_
  refine g_callVv (n := 1) hC [.int a1] 0 8 (by decide) rfl rfl (fun hne => c_X8_checkClaim hC.2.2.2.2.2.2.2.1 Z M a1 hne) lk_X8_169 mw_X8_checkClaim.1 mw_X8_checkClaim.2.1 mw_X8_checkClaim.2.2.1 mw_X8_checkClaim.2.2.2 ⟨rfl, by decide, by decide, by decide +kernel⟩ rfl rfl ⟨by decide, by decide⟩ rfl rfl (Nat.le_of_ble_eq_true rfl) (by decide) (by decide) (by decide) dX8_amountOf_2 (fun M1 => ?_)
  refine g_aload_n hC 0 dX8_amountOf_5 rfl rfl ?_
  refine gf_X8_26 hC dX8_amountOf_6 ?_
  refine gf_X8_235 hC dX8_amountOf_9 ?_
  refine g_iload_n hC 1 dX8_amountOf_12 rfl rfl ?_
  refine g_iald hC 50 (by decide) rfl dX8_amountOf_13 ?_
  exact g_iret hC rfl (by decide) dX8_amountOf_14

-- ===== X8_balance =====
def f_X8_balance (M : gM) (a1 : Int32) : gR := (rb (f_X8_checkClaim M a1) (fun _ M1 => (rb (f_X8_balanceNow M1 a1) (fun x4 M3 => (rRet x4 M3)))))
abbrev rm_X8_balance : Room := { frames := 7, cells := 1, slots := 6, locals := 111 }
set_option maxRecDepth 20000 in
set_option maxHeartbeats 4000000 in
theorem c_X8_balance {l : Launch} (hfl : l.stackTraces = false) (Z : gZ) (M : gM) (a1 : Int32) : gMet l yX8_balance cX8_balance 2 (some .int) rm_X8_balance 1 1 Z M [.ref (zad Z 0), .int a1] (f_X8_balance M a1) := by
  refine g_enter hfl (by decide) (Nat.le_of_ble_eq_true rfl) (fun p e s m args below meth c hC => ?_)
  refine g_eq (F := f_X8_balance M a1) rfl ?_
  refine g_lv0 (lv1 := [(0, .ref (zad Z 0)), (1, .int a1)]) rfl ?_
  unfold f_X8_balance
  refine g_aload_n hC 0 dX8_balance_0 rfl rfl ?_
  refine g_iload_n hC 1 dX8_balance_1 rfl rfl ?_
  refine g_callVv (n := 1) hC [.int a1] 0 8 (by decide) rfl rfl (fun hne => c_X8_checkClaim hC.2.2.2.2.2.2.2.1 Z M a1 hne) lk_X8_169 mw_X8_checkClaim.1 mw_X8_checkClaim.2.1 mw_X8_checkClaim.2.2.1 mw_X8_checkClaim.2.2.2 ⟨rfl, by decide, by decide, by decide +kernel⟩ rfl rfl ⟨by decide, by decide⟩ rfl rfl (Nat.le_of_ble_eq_true rfl) (by decide) (by decide) (by decide) dX8_balance_2 (fun M1 => ?_)
  refine g_aload_n hC 0 dX8_balance_5 rfl rfl ?_
  refine g_iload_n hC 1 dX8_balance_6 rfl rfl ?_
  refine g_callVi (n := 1) hC [.int a1] 0 8 (by decide) rfl rfl (fun hne => c_X8_balanceNow hC.2.2.2.2.2.2.2.1 Z M1 a1 hne) lk_X8_288 mw_X8_balanceNow.1 mw_X8_balanceNow.2.1 mw_X8_balanceNow.2.2.1 mw_X8_balanceNow.2.2.2 ⟨rfl, by decide, by decide, by decide +kernel⟩ rfl rfl ⟨by decide, by decide⟩ rfl rfl (Nat.le_of_ble_eq_true rfl) (by decide) (by decide) (by decide) dX8_balance_7 (fun x4 M3 => ?_)
  exact g_iret hC rfl (by decide) dX8_balance_10

-- ===== X8_caseOf =====
def f_X8_caseOf (M : gM) (a1 : Int32) : gR := (rb (f_X8_checkClaim M a1) (fun _ M1 => (gI a1 24 (rRet (M1 47 a1.toNatClampNeg) M1))))
abbrev rm_X8_caseOf : Room := { frames := 7, cells := 1, slots := 6, locals := 111 }
set_option maxRecDepth 20000 in
set_option maxHeartbeats 4000000 in
theorem c_X8_caseOf {l : Launch} (hfl : l.stackTraces = false) (Z : gZ) (M : gM) (a1 : Int32) : gMet l yX8_caseOf cX8_caseOf 2 (some .int) rm_X8_caseOf 1 1 Z M [.ref (zad Z 0), .int a1] (f_X8_caseOf M a1) := by
  refine g_enter hfl (by decide) (Nat.le_of_ble_eq_true rfl) (fun p e s m args below meth c hC => ?_)
  refine g_eq (F := f_X8_caseOf M a1) rfl ?_
  refine g_lv0 (lv1 := [(0, .ref (zad Z 0)), (1, .int a1)]) rfl ?_
  unfold f_X8_caseOf
  refine g_aload_n hC 0 dX8_caseOf_0 rfl rfl ?_
  refine g_iload_n hC 1 dX8_caseOf_1 rfl rfl ?_
  refine g_callVv (n := 1) hC [.int a1] 0 8 (by decide) rfl rfl (fun hne => c_X8_checkClaim hC.2.2.2.2.2.2.2.1 Z M a1 hne) lk_X8_169 mw_X8_checkClaim.1 mw_X8_checkClaim.2.1 mw_X8_checkClaim.2.2.1 mw_X8_checkClaim.2.2.2 ⟨rfl, by decide, by decide, by decide +kernel⟩ rfl rfl ⟨by decide, by decide⟩ rfl rfl (Nat.le_of_ble_eq_true rfl) (by decide) (by decide) (by decide) dX8_caseOf_2 (fun M1 => ?_)
  refine g_aload_n hC 0 dX8_caseOf_5 rfl rfl ?_
  refine gf_X8_26 hC dX8_caseOf_6 ?_
  refine gf_X8_177 hC dX8_caseOf_9 ?_
  refine g_iload_n hC 1 dX8_caseOf_12 rfl rfl ?_
  refine g_iald hC 47 (by decide) rfl dX8_caseOf_13 ?_
  exact g_iret hC rfl (by decide) dX8_caseOf_14

-- ===== X8_isAnswered =====
def f_X8_isAnswered (M : gM) (a1 : Int32) : gR := (rb (f_X8_checkClaim M a1) (fun _ M1 => (rb (f_X8_hasAnswer M1 a1) (fun x4 M3 => (gZ01 x4 (rRet x4 M3))))))
abbrev rm_X8_isAnswered : Room := { frames := 7, cells := 1, slots := 6, locals := 111 }
set_option maxRecDepth 20000 in
set_option maxHeartbeats 4000000 in
theorem c_X8_isAnswered {l : Launch} (hfl : l.stackTraces = false) (Z : gZ) (M : gM) (a1 : Int32) : gMet l yX8_isAnswered cX8_isAnswered 2 (some .boolean) rm_X8_isAnswered 1 1 Z M [.ref (zad Z 0), .int a1] (f_X8_isAnswered M a1) := by
  refine g_enter hfl (by decide) (Nat.le_of_ble_eq_true rfl) (fun p e s m args below meth c hC => ?_)
  refine g_eq (F := f_X8_isAnswered M a1) rfl ?_
  refine g_lv0 (lv1 := [(0, .ref (zad Z 0)), (1, .int a1)]) rfl ?_
  unfold f_X8_isAnswered
  refine g_aload_n hC 0 dX8_isAnswered_0 rfl rfl ?_
  refine g_iload_n hC 1 dX8_isAnswered_1 rfl rfl ?_
  refine g_callVv (n := 1) hC [.int a1] 0 8 (by decide) rfl rfl (fun hne => c_X8_checkClaim hC.2.2.2.2.2.2.2.1 Z M a1 hne) lk_X8_169 mw_X8_checkClaim.1 mw_X8_checkClaim.2.1 mw_X8_checkClaim.2.2.1 mw_X8_checkClaim.2.2.2 ⟨rfl, by decide, by decide, by decide +kernel⟩ rfl rfl ⟨by decide, by decide⟩ rfl rfl (Nat.le_of_ble_eq_true rfl) (by decide) (by decide) (by decide) dX8_isAnswered_2 (fun M1 => ?_)
  refine g_aload_n hC 0 dX8_isAnswered_5 rfl rfl ?_
  refine g_iload_n hC 1 dX8_isAnswered_6 rfl rfl ?_
  refine g_callVi (n := 1) hC [.int a1] 0 8 (by decide) rfl rfl (fun hne => c_X8_hasAnswer hC.2.2.2.2.2.2.2.1 Z M1 a1 hne) lk_X8_246 mw_X8_hasAnswer.1 mw_X8_hasAnswer.2.1 mw_X8_hasAnswer.2.2.1 mw_X8_hasAnswer.2.2.2 ⟨rfl, by decide, by decide, by decide +kernel⟩ rfl rfl ⟨by decide, by decide⟩ rfl rfl (Nat.le_of_ble_eq_true rfl) (by decide) (by decide) (by decide) dX8_isAnswered_7 (fun x4 M3 => ?_)
  exact g_zret hC rfl (by decide) dX8_isAnswered_10

-- ===== X8_due =====
def f_X8_due (M : gM) (a1 : Int32) (a2 : Int32) : gR := (rb (f_X8_checkDeadline M a1 a2) (fun _ M1 => (rb (f_X8_startOf M1 a1 a2) (fun x4 M3 => (if x4 = (-1) then (rRet (-1) M3) else (if a1 = 3 then (rb (f_X8_cureDue M3 x4) (fun x6 M5 => (rRet x6 M5))) else (rb (f_X8_dueFrom M3 x4) (fun x8 M7 => (rRet x8 M7)))))))))
abbrev rm_X8_due : Room := { frames := 9, cells := 2, slots := 12, locals := 154 }
set_option maxRecDepth 20000 in
set_option maxHeartbeats 4000000 in
theorem c_X8_due {l : Launch} (hfl : l.stackTraces = false) (Z : gZ) (M : gM) (a1 : Int32) (a2 : Int32) : gMet l yX8_due cX8_due 4 (some .int) rm_X8_due 1 2 Z M [.ref (zad Z 0), .int a1, .int a2] (f_X8_due M a1 a2) := by
  refine g_enter hfl (by decide) (Nat.le_of_ble_eq_true rfl) (fun p e s m args below meth c hC => ?_)
  refine g_eq (F := f_X8_due M a1 a2) rfl ?_
  refine g_lv0 (lv1 := [(0, .ref (zad Z 0)), (1, .int a1), (2, .int a2)]) rfl ?_
  unfold f_X8_due
  refine g_aload_n hC 0 dX8_due_0 rfl rfl ?_
  refine g_iload_n hC 1 dX8_due_1 rfl rfl ?_
  refine g_iload_n hC 2 dX8_due_2 rfl rfl ?_
  refine g_callVv (n := 2) hC [.int a1, .int a2] 0 8 (by decide) rfl rfl (fun hne => c_X8_checkDeadline hC.2.2.2.2.2.2.2.1 Z M a1 a2 hne) lk_X8_331 mw_X8_checkDeadline.1 mw_X8_checkDeadline.2.1 mw_X8_checkDeadline.2.2.1 mw_X8_checkDeadline.2.2.2 ⟨rfl, by decide, by decide, by decide +kernel⟩ rfl rfl ⟨by decide, by decide⟩ rfl rfl (Nat.le_of_ble_eq_true rfl) (by decide) (by decide) (by decide) dX8_due_3 (fun M1 => ?_)
  refine g_aload_n hC 0 dX8_due_6 rfl rfl ?_
  refine g_iload_n hC 1 dX8_due_7 rfl rfl ?_
  refine g_iload_n hC 2 dX8_due_8 rfl rfl ?_
  refine g_callVi (n := 2) hC [.int a1, .int a2] 0 8 (by decide) rfl rfl (fun hne => c_X8_startOf hC.2.2.2.2.2.2.2.1 Z M1 a1 a2 hne) lk_X8_334 mw_X8_startOf.1 mw_X8_startOf.2.1 mw_X8_startOf.2.2.1 mw_X8_startOf.2.2.2 ⟨rfl, by decide, by decide, by decide +kernel⟩ rfl rfl ⟨by decide, by decide⟩ rfl rfl (Nat.le_of_ble_eq_true rfl) (by decide) (by decide) (by decide) dX8_due_9 (fun x4 M3 => ?_)
  refine g_istore_n hC (lv1 := [(3, .int x4), (0, .ref (zad Z 0)), (1, .int a1), (2, .int a2)]) dX8_due_12 rfl (by decide) rfl ?_
  refine g_iload_n hC 0 dX8_due_13 rfl rfl ?_
  refine g_iconst hC (v := (-1)) dX8_due_14 (by decide) ?_
  refine g_icmp_ne (tgt := 20) hC dX8_due_15 (by decide) (fun _ => ?_) (fun _ => ?_)
  · refine g_iconst hC (v := (-1)) dX8_due_18 (by decide) ?_
    exact g_iret hC rfl (by decide) dX8_due_19
  · refine g_iload_n hC 2 dX8_due_20 rfl rfl ?_
    refine g_iconst hC (v := 3) dX8_due_21 (by decide) ?_
    refine g_icmp_ne (tgt := 33) hC dX8_due_22 (by decide) (fun _ => ?_) (fun _ => ?_)
    · refine g_aload_n hC 1 dX8_due_25 rfl rfl ?_
      refine g_iload_n hC 0 dX8_due_26 rfl rfl ?_
      refine g_callVi (n := 1) hC [.int x4] 0 8 (by decide) rfl rfl (fun hne => c_X8_cureDue hC.2.2.2.2.2.2.2.1 Z M3 x4 hne) lk_X8_318 mw_X8_cureDue.1 mw_X8_cureDue.2.1 mw_X8_cureDue.2.2.1 mw_X8_cureDue.2.2.2 ⟨rfl, by decide, by decide, by decide +kernel⟩ rfl rfl ⟨by decide, by decide⟩ rfl rfl (Nat.le_of_ble_eq_true rfl) (by decide) (by decide) (by decide) dX8_due_27 (fun x6 M5 => ?_)
      refine g_goto (tgt := 38) hC dX8_due_30 (by decide) ?_
      exact g_iret hC rfl (by decide) dX8_due_38
    · refine g_aload_n hC 1 dX8_due_33 rfl rfl ?_
      refine g_iload_n hC 0 dX8_due_34 rfl rfl ?_
      refine g_callVi (n := 1) hC [.int x4] 0 8 (by decide) rfl rfl (fun hne => c_X8_dueFrom hC.2.2.2.2.2.2.2.1 Z M3 x4 hne) lk_X8_337 mw_X8_dueFrom.1 mw_X8_dueFrom.2.1 mw_X8_dueFrom.2.2.1 mw_X8_dueFrom.2.2.2 ⟨rfl, by decide, by decide, by decide +kernel⟩ rfl rfl ⟨by decide, by decide⟩ rfl rfl (Nat.le_of_ble_eq_true rfl) (by decide) (by decide) (by decide) dX8_due_35 (fun x8 M7 => ?_)
      exact g_iret hC rfl (by decide) dX8_due_38

-- ===== X8_dueByDays =====
def f_X8_dueByDays (M : gM) (a1 : Int32) (a2 : Int32) : gR := (rb (f_X8_checkDeadline M a1 a2) (fun _ M1 => (rb (f_X8_startOf M1 a1 a2) (fun x4 M3 => (if x4 = (-1) then (rRet (-1) M3) else (gI x4 160 (gI (M3 57 x4.toNatClampNeg) 24 (bV (M3 47 (M3 57 x4.toNatClampNeg).toNatClampNeg) (fun x5 => (gI x5 8 (bV (M3 26 x5.toNatClampNeg) (fun x6 => (if a1 = 3 then (gI x4 160 (gI x4 160 (gI x4 160 (rb (f_X0_endByDays M3 (M3 65 x4.toNatClampNeg) (M3 66 x4.toNatClampNeg) (M3 67 x4.toNatClampNeg) x5 x6) (fun x8 M7 => (rRet x8 M7)))))) else (gI x4 160 (gI x4 160 (gI x4 160 (rb (f_X0_endByDays M3 (M3 56 x4.toNatClampNeg) (M3 63 x4.toNatClampNeg) (M3 64 x4.toNatClampNeg) x5 x6) (fun x10 M9 => (rRet x10 M9)))))))))))))))))))
abbrev rm_X8_dueByDays : Room := { frames := 9, cells := 2, slots := 12, locals := 154 }
set_option maxRecDepth 20000 in
set_option maxHeartbeats 4000000 in
theorem c_X8_dueByDays {l : Launch} (hfl : l.stackTraces = false) (Z : gZ) (M : gM) (a1 : Int32) (a2 : Int32) : gMet l yX8_dueByDays cX8_dueByDays 6 (some .int) rm_X8_dueByDays 1 2 Z M [.ref (zad Z 0), .int a1, .int a2] (f_X8_dueByDays M a1 a2) := by
  refine g_enter hfl (by decide) (Nat.le_of_ble_eq_true rfl) (fun p e s m args below meth c hC => ?_)
  refine g_eq (F := f_X8_dueByDays M a1 a2) rfl ?_
  refine g_lv0 (lv1 := [(0, .ref (zad Z 0)), (1, .int a1), (2, .int a2)]) rfl ?_
  unfold f_X8_dueByDays
  refine g_aload_n hC 0 dX8_dueByDays_0 rfl rfl ?_
  refine g_iload_n hC 1 dX8_dueByDays_1 rfl rfl ?_
  refine g_iload_n hC 2 dX8_dueByDays_2 rfl rfl ?_
  refine g_callVv (n := 2) hC [.int a1, .int a2] 0 8 (by decide) rfl rfl (fun hne => c_X8_checkDeadline hC.2.2.2.2.2.2.2.1 Z M a1 a2 hne) lk_X8_331 mw_X8_checkDeadline.1 mw_X8_checkDeadline.2.1 mw_X8_checkDeadline.2.2.1 mw_X8_checkDeadline.2.2.2 ⟨rfl, by decide, by decide, by decide +kernel⟩ rfl rfl ⟨by decide, by decide⟩ rfl rfl (Nat.le_of_ble_eq_true rfl) (by decide) (by decide) (by decide) dX8_dueByDays_3 (fun M1 => ?_)
  refine g_aload_n hC 0 dX8_dueByDays_6 rfl rfl ?_
  refine g_iload_n hC 1 dX8_dueByDays_7 rfl rfl ?_
  refine g_iload_n hC 2 dX8_dueByDays_8 rfl rfl ?_
  refine g_callVi (n := 2) hC [.int a1, .int a2] 0 8 (by decide) rfl rfl (fun hne => c_X8_startOf hC.2.2.2.2.2.2.2.1 Z M1 a1 a2 hne) lk_X8_334 mw_X8_startOf.1 mw_X8_startOf.2.1 mw_X8_startOf.2.2.1 mw_X8_startOf.2.2.2 ⟨rfl, by decide, by decide, by decide +kernel⟩ rfl rfl ⟨by decide, by decide⟩ rfl rfl (Nat.le_of_ble_eq_true rfl) (by decide) (by decide) (by decide) dX8_dueByDays_9 (fun x4 M3 => ?_)
  refine g_istore_n hC (lv1 := [(3, .int x4), (0, .ref (zad Z 0)), (1, .int a1), (2, .int a2)]) dX8_dueByDays_12 rfl (by decide) rfl ?_
  refine g_iload_n hC 0 dX8_dueByDays_13 rfl rfl ?_
  refine g_iconst hC (v := (-1)) dX8_dueByDays_14 (by decide) ?_
  refine g_icmp_ne (tgt := 20) hC dX8_dueByDays_15 (by decide) (fun _ => ?_) (fun _ => ?_)
  · refine g_iconst hC (v := (-1)) dX8_dueByDays_18 (by decide) ?_
    exact g_iret hC rfl (by decide) dX8_dueByDays_19
  · refine g_aload_n hC 1 dX8_dueByDays_20 rfl rfl ?_
    refine gf_X8_26 hC dX8_dueByDays_21 ?_
    refine gf_X8_177 hC dX8_dueByDays_24 ?_
    refine g_aload_n hC 1 dX8_dueByDays_27 rfl rfl ?_
    refine gf_X8_33 hC dX8_dueByDays_28 ?_
    refine gf_X8_232 hC dX8_dueByDays_31 ?_
    refine g_iload_n hC 0 dX8_dueByDays_34 rfl rfl ?_
    refine g_iald hC 57 (by decide) rfl dX8_dueByDays_35 ?_
    refine g_iald hC 47 (by decide) rfl dX8_dueByDays_36 ?_
    refine g_bv (fun x5 => ?_)
    refine g_istore hC (lv1 := [(4, .int x5), (3, .int x4), (0, .ref (zad Z 0)), (1, .int a1), (2, .int a2)]) dX8_dueByDays_37 (by decide) rfl ?_
    refine g_aload_n hC 2 dX8_dueByDays_39 rfl rfl ?_
    refine gf_X8_19 hC dX8_dueByDays_40 ?_
    refine gf_X8_149 hC dX8_dueByDays_43 ?_
    refine g_iload hC 0 dX8_dueByDays_46 rfl ?_
    refine g_iald hC 26 (by decide) rfl dX8_dueByDays_48 ?_
    refine g_bv (fun x6 => ?_)
    refine g_istore hC (lv1 := [(5, .int x6), (4, .int x5), (3, .int x4), (0, .ref (zad Z 0)), (1, .int a1), (2, .int a2)]) dX8_dueByDays_49 (by decide) rfl ?_
    refine g_iload_n hC 4 dX8_dueByDays_51 rfl rfl ?_
    refine g_iconst hC (v := 3) dX8_dueByDays_52 (by decide) ?_
    refine g_icmp_ne (tgt := 95) hC dX8_dueByDays_53 (by decide) (fun _ => ?_) (fun _ => ?_)
    · refine g_aload_n hC 3 dX8_dueByDays_56 rfl rfl ?_
      refine gf_X8_12 hC dX8_dueByDays_57 ?_
      refine g_aload_n hC 3 dX8_dueByDays_60 rfl rfl ?_
      refine gf_X8_33 hC dX8_dueByDays_61 ?_
      refine gf_X8_309 hC dX8_dueByDays_64 ?_
      refine g_iload_n hC 2 dX8_dueByDays_67 rfl rfl ?_
      refine g_iald hC 65 (by decide) rfl dX8_dueByDays_68 ?_
      refine g_aload_n hC 3 dX8_dueByDays_69 rfl rfl ?_
      refine gf_X8_33 hC dX8_dueByDays_70 ?_
      refine gf_X8_312 hC dX8_dueByDays_73 ?_
      refine g_iload_n hC 2 dX8_dueByDays_76 rfl rfl ?_
      refine g_iald hC 66 (by decide) rfl dX8_dueByDays_77 ?_
      refine g_aload_n hC 3 dX8_dueByDays_78 rfl rfl ?_
      refine gf_X8_33 hC dX8_dueByDays_79 ?_
      refine gf_X8_315 hC dX8_dueByDays_82 ?_
      refine g_iload_n hC 2 dX8_dueByDays_85 rfl rfl ?_
      refine g_zald hC 67 (by decide) rfl dX8_dueByDays_86 ?_
      refine g_iload hC 1 dX8_dueByDays_87 rfl ?_
      refine g_iload hC 0 dX8_dueByDays_89 rfl ?_
      refine g_callVi (n := 5) hC [.int (M3 65 x4.toNatClampNeg), .int (M3 66 x4.toNatClampNeg), .int (M3 67 x4.toNatClampNeg), .int x5, .int x6] 1 0 (by decide) rfl rfl (fun hne => c_X0_endByDays hC.2.2.2.2.2.2.2.1 Z M3 (M3 65 x4.toNatClampNeg) (M3 66 x4.toNatClampNeg) (M3 67 x4.toNatClampNeg) x5 x6 hne) lk_X8_475 mw_X0_endByDays.1 mw_X0_endByDays.2.1 mw_X0_endByDays.2.2.1 mw_X0_endByDays.2.2.2 ⟨rfl, by decide, by decide, by decide +kernel⟩ rfl rfl ⟨by decide, by decide⟩ rfl rfl (Nat.le_of_ble_eq_true rfl) (by decide) (by decide) (by decide) dX8_dueByDays_91 (fun x8 M7 => ?_)
      exact g_iret hC rfl (by decide) dX8_dueByDays_94
    · refine g_aload_n hC 3 dX8_dueByDays_95 rfl rfl ?_
      refine gf_X8_12 hC dX8_dueByDays_96 ?_
      refine g_aload_n hC 3 dX8_dueByDays_99 rfl rfl ?_
      refine gf_X8_33 hC dX8_dueByDays_100 ?_
      refine gf_X8_440 hC dX8_dueByDays_103 ?_
      refine g_iload_n hC 2 dX8_dueByDays_106 rfl rfl ?_
      refine g_iald hC 56 (by decide) rfl dX8_dueByDays_107 ?_
      refine g_aload_n hC 3 dX8_dueByDays_108 rfl rfl ?_
      refine gf_X8_33 hC dX8_dueByDays_109 ?_
      refine gf_X8_208 hC dX8_dueByDays_112 ?_
      refine g_iload_n hC 2 dX8_dueByDays_115 rfl rfl ?_
      refine g_iald hC 63 (by decide) rfl dX8_dueByDays_116 ?_
      refine g_aload_n hC 3 dX8_dueByDays_117 rfl rfl ?_
      refine gf_X8_33 hC dX8_dueByDays_118 ?_
      refine gf_X8_479 hC dX8_dueByDays_121 ?_
      refine g_iload_n hC 2 dX8_dueByDays_124 rfl rfl ?_
      refine g_zald hC 64 (by decide) rfl dX8_dueByDays_125 ?_
      refine g_iload hC 1 dX8_dueByDays_126 rfl ?_
      refine g_iload hC 0 dX8_dueByDays_128 rfl ?_
      refine g_callVi (n := 5) hC [.int (M3 56 x4.toNatClampNeg), .int (M3 63 x4.toNatClampNeg), .int (M3 64 x4.toNatClampNeg), .int x5, .int x6] 1 0 (by decide) rfl rfl (fun hne => c_X0_endByDays hC.2.2.2.2.2.2.2.1 Z M3 (M3 56 x4.toNatClampNeg) (M3 63 x4.toNatClampNeg) (M3 64 x4.toNatClampNeg) x5 x6 hne) lk_X8_475 mw_X0_endByDays.1 mw_X0_endByDays.2.1 mw_X0_endByDays.2.2.1 mw_X0_endByDays.2.2.2 ⟨rfl, by decide, by decide, by decide +kernel⟩ rfl rfl ⟨by decide, by decide⟩ rfl rfl (Nat.le_of_ble_eq_true rfl) (by decide) (by decide) (by decide) dX8_dueByDays_130 (fun x10 M9 => ?_)
      exact g_iret hC rfl (by decide) dX8_dueByDays_133

-- ===== X8_hearingAt =====
def f_X8_hearingAt (M : gM) (a1 : Int32) : gR := (rb (f_X8_checkHearing M a1) (fun _ M1 => (gI a1 40 (gI a1 40 (rRet ((10 * (M1 70 a1.toNatClampNeg)) + (M1 71 a1.toNatClampNeg)) M1)))))
abbrev rm_X8_hearingAt : Room := { frames := 7, cells := 1, slots := 6, locals := 111 }
set_option maxRecDepth 20000 in
set_option maxHeartbeats 4000000 in
theorem c_X8_hearingAt {l : Launch} (hfl : l.stackTraces = false) (Z : gZ) (M : gM) (a1 : Int32) : gMet l yX8_hearingAt cX8_hearingAt 2 (some .int) rm_X8_hearingAt 1 1 Z M [.ref (zad Z 0), .int a1] (f_X8_hearingAt M a1) := by
  refine g_enter hfl (by decide) (Nat.le_of_ble_eq_true rfl) (fun p e s m args below meth c hC => ?_)
  refine g_eq (F := f_X8_hearingAt M a1) rfl ?_
  refine g_lv0 (lv1 := [(0, .ref (zad Z 0)), (1, .int a1)]) rfl ?_
  unfold f_X8_hearingAt
  refine g_aload_n hC 0 dX8_hearingAt_0 rfl rfl ?_
  refine g_iload_n hC 1 dX8_hearingAt_1 rfl rfl ?_
  refine g_callVv (n := 1) hC [.int a1] 0 8 (by decide) rfl rfl (fun hne => c_X8_checkHearing hC.2.2.2.2.2.2.2.1 Z M a1 hne) lk_X8_354 mw_X8_checkHearing.1 mw_X8_checkHearing.2.1 mw_X8_checkHearing.2.2.1 mw_X8_checkHearing.2.2.2 ⟨rfl, by decide, by decide, by decide +kernel⟩ rfl rfl ⟨by decide, by decide⟩ rfl rfl (Nat.le_of_ble_eq_true rfl) (by decide) (by decide) (by decide) dX8_hearingAt_2 (fun M1 => ?_)
  refine g_bipush hC (v := 10) dX8_hearingAt_5 (by decide) ?_
  refine g_aload_n hC 0 dX8_hearingAt_7 rfl rfl ?_
  refine gf_X8_40 hC dX8_hearingAt_8 ?_
  refine gf_X8_357 hC dX8_hearingAt_11 ?_
  refine g_iload_n hC 1 dX8_hearingAt_14 rfl rfl ?_
  refine g_iald hC 70 (by decide) rfl dX8_hearingAt_15 ?_
  refine g_imul hC dX8_hearingAt_16 ?_
  refine g_aload_n hC 0 dX8_hearingAt_17 rfl rfl ?_
  refine gf_X8_40 hC dX8_hearingAt_18 ?_
  refine gf_X8_365 hC dX8_hearingAt_21 ?_
  refine g_iload_n hC 1 dX8_hearingAt_24 rfl rfl ?_
  refine g_iald hC 71 (by decide) rfl dX8_hearingAt_25 ?_
  refine g_iadd hC dX8_hearingAt_26 ?_
  exact g_iret hC rfl (by decide) dX8_hearingAt_27
