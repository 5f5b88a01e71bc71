-- ===== X9_thrown =====
def f_X9_thrown (M : gM)  : gR := (rRet (M 9 0) M)
abbrev rm_X9_thrown : Room := { frames := 0, cells := 0, slots := 0, locals := 0 }
set_option maxRecDepth 20000 in
set_option maxHeartbeats 4000000 in
theorem c_X9_thrown {l : Launch} (hfl : l.stackTraces = false) (Z : gZ) (M : gM)  : gMet l yX9_thrown cX9_thrown 1 (some .int) rm_X9_thrown 1 0 Z M [.ref (zad Z 9)] (f_X9_thrown M ) := by
  refine g_enter hfl (by decide) (Nat.le_of_ble_eq_true rfl) (fun p e s m args below meth c hC => ?_)
  refine g_eq (F := f_X9_thrown M ) rfl ?_
  refine g_lv0 (lv1 := [(0, .ref (zad Z 9))]) rfl ?_
  unfold f_X9_thrown
  refine g_aload_n hC 0 dX9_thrown_0 rfl rfl ?_
  refine gf_X9_144 hC dX9_thrown_1 ?_
  exact g_iret hC rfl (by decide) dX9_thrown_4

-- ===== X9_refused =====
def f_X9_refused (M : gM) (a1 : Int32) : gR := (bM (gset M 9 0 a1) (fun M1 => (if a1 = 0 then (rRet 0 M1) else (rRet 1 M1))))
abbrev rm_X9_refused : Room := { frames := 0, cells := 0, slots := 0, locals := 0 }
set_option maxRecDepth 20000 in
set_option maxHeartbeats 4000000 in
theorem c_X9_refused {l : Launch} (hfl : l.stackTraces = false) (Z : gZ) (M : gM) (a1 : Int32) : gMet l yX9_refused cX9_refused 2 (some .boolean) rm_X9_refused 1 0 Z M [.ref (zad Z 9), .int a1] (f_X9_refused M a1) := by
  refine g_enter hfl (by decide) (Nat.le_of_ble_eq_true rfl) (fun p e s m args below meth c hC => ?_)
  refine g_eq (F := f_X9_refused M a1) rfl ?_
  refine g_lv0 (lv1 := [(0, .ref (zad Z 9)), (1, .int a1)]) rfl ?_
  unfold f_X9_refused
  refine g_aload_n hC 0 dX9_refused_0 rfl rfl ?_
  refine g_iload_n hC 1 dX9_refused_1 rfl rfl ?_
  refine gp_X9_144 hC dX9_refused_2 (fun M1 => ?_)
  refine g_iload_n hC 1 dX9_refused_5 rfl rfl ?_
  refine g_if_eq (tgt := 13) hC dX9_refused_6 (by decide) (fun _ => ?_) (fun _ => ?_)
  · refine g_iconst hC (v := 0) dX9_refused_13 (by decide) ?_
    exact g_zret0 hC rfl (by decide) dX9_refused_14
  · refine g_iconst hC (v := 1) dX9_refused_9 (by decide) ?_
    refine g_goto (tgt := 14) hC dX9_refused_10 (by decide) ?_
    exact g_zret1 hC rfl (by decide) dX9_refused_14

-- ===== X9_within =====
def f_X9_within (M : gM) (a0 : Int32) (a1 : Int32) (a2 : Int32) : gR := (if a0 < a1 then (rRet 0 M) else (if a2 < a0 then (rRet 0 M) else (rRet 1 M)))
abbrev rm_X9_within : Room := { frames := 0, cells := 0, slots := 0, locals := 0 }
set_option maxRecDepth 20000 in
set_option maxHeartbeats 4000000 in
theorem c_X9_within {l : Launch} (hfl : l.stackTraces = false) (Z : gZ) (M : gM) (a0 : Int32) (a1 : Int32) (a2 : Int32) : gMet l yX9_within cX9_within 3 (some .boolean) rm_X9_within 1 0 Z M [.int a0, .int a1, .int a2] (f_X9_within M a0 a1 a2) := by
  refine g_enter hfl (by decide) (Nat.le_of_ble_eq_true rfl) (fun p e s m args below meth c hC => ?_)
  refine g_eq (F := f_X9_within M a0 a1 a2) rfl ?_
  refine g_lv0 (lv1 := [(0, .int a0), (1, .int a1), (2, .int a2)]) rfl ?_
  unfold f_X9_within
  refine g_iload_n hC 0 dX9_within_0 rfl rfl ?_
  refine g_iload_n hC 1 dX9_within_1 rfl rfl ?_
  refine g_icmp_lt (tgt := 14) hC dX9_within_2 (by decide) (fun _ => ?_) (fun _ => ?_)
  · refine g_iconst hC (v := 0) dX9_within_14 (by decide) ?_
    exact g_zret0 hC rfl (by decide) dX9_within_15
  · refine g_iload_n hC 0 dX9_within_5 rfl rfl ?_
    refine g_iload_n hC 2 dX9_within_6 rfl rfl ?_
    refine g_icmp_gt (tgt := 14) hC dX9_within_7 (by decide) (fun _ => ?_) (fun _ => ?_)
    · refine g_iconst hC (v := 0) dX9_within_14 (by decide) ?_
      exact g_zret0 hC rfl (by decide) dX9_within_15
    · refine g_iconst hC (v := 1) dX9_within_10 (by decide) ?_
      refine g_goto (tgt := 15) hC dX9_within_11 (by decide) ?_
      exact g_zret1 hC rfl (by decide) dX9_within_15

-- ===== X9_isFree =====
def f_X9_isFree (M : gM) (a1 : Int32) : gR := (gNz 7 (if 5 ≤ (a1 - a1 / 7 * 7) then (rRet 1 M) else (if 1000 < a1 then (rRet 0 M) else (gI a1 1001 (if (M 102 a1.toNatClampNeg) = 0 then (rRet 0 M) else (rRet 1 M))))))
abbrev rm_X9_isFree : Room := { frames := 0, cells := 0, slots := 0, locals := 0 }
set_option maxRecDepth 20000 in
set_option maxHeartbeats 4000000 in
theorem c_X9_isFree {l : Launch} (hfl : l.stackTraces = false) (Z : gZ) (M : gM) (a1 : Int32) : gMet l yX9_isFree cX9_isFree 2 (some .boolean) rm_X9_isFree 1 0 Z M [.ref (zad Z 9), .int a1] (f_X9_isFree M a1) := by
  refine g_enter hfl (by decide) (Nat.le_of_ble_eq_true rfl) (fun p e s m args below meth c hC => ?_)
  refine g_eq (F := f_X9_isFree M a1) rfl ?_
  refine g_lv0 (lv1 := [(0, .ref (zad Z 9)), (1, .int a1)]) rfl ?_
  unfold f_X9_isFree
  refine g_iload_n hC 1 dX9_isFree_0 rfl rfl ?_
  refine g_bipush hC (v := 7) dX9_isFree_1 (by decide) ?_
  refine g_irem hC dX9_isFree_3 ?_
  refine g_iconst hC (v := 5) dX9_isFree_4 (by decide) ?_
  refine g_icmp_ge (tgt := 24) hC dX9_isFree_5 (by decide) (fun _ => ?_) (fun _ => ?_)
  · refine g_iconst hC (v := 1) dX9_isFree_24 (by decide) ?_
    refine g_goto (tgt := 29) hC dX9_isFree_25 (by decide) ?_
    exact g_zret1 hC rfl (by decide) dX9_isFree_29
  · refine g_iload_n hC 1 dX9_isFree_8 rfl rfl ?_
    refine g_sipush hC (v := 1000) dX9_isFree_9 (by decide) ?_
    refine g_icmp_gt (tgt := 28) hC dX9_isFree_12 (by decide) (fun _ => ?_) (fun _ => ?_)
    · refine g_iconst hC (v := 0) dX9_isFree_28 (by decide) ?_
      exact g_zret0 hC rfl (by decide) dX9_isFree_29
    · refine g_aload_n hC 0 dX9_isFree_15 rfl rfl ?_
      refine gf_X9_7 hC dX9_isFree_16 ?_
      refine g_iload_n hC 1 dX9_isFree_19 rfl rfl ?_
      refine g_zald hC 102 (by decide) rfl dX9_isFree_20 ?_
      refine g_if_eq (tgt := 28) hC dX9_isFree_21 (by decide) (fun _ => ?_) (fun _ => ?_)
      · refine g_iconst hC (v := 0) dX9_isFree_28 (by decide) ?_
        exact g_zret0 hC rfl (by decide) dX9_isFree_29
      · refine g_iconst hC (v := 1) dX9_isFree_24 (by decide) ?_
        refine g_goto (tgt := 29) hC dX9_isFree_25 (by decide) ?_
        exact g_zret1 hC rfl (by decide) dX9_isFree_29

-- ===== X9_pass =====
def f_X9_pass_b32  (M : gM) (a1 : Int32) (t1 : Int32) : gR := (rb (f_X9_refused M t1) (fun x2 M1 => (if x2 = 0 then (bM (gset M1 9 1 ((M1 9 1) + a1)) (fun M3 => (rRet (M3 9 1) M3))) else (rRet 0 M1))))
def f_X9_pass (M : gM) (a1 : Int32) : gR := (rb (f_X9_within M a1 1 60) (fun x5 M4 => (if x5 = 0 then (f_X9_pass_b32  M4 a1 1) else (if ((M4 9 1) + a1) ≤ 900 then (f_X9_pass_b32  M4 a1 0) else (f_X9_pass_b32  M4 a1 2)))))
abbrev rm_X9_pass : Room := { frames := 1, cells := 0, slots := 0, locals := 22 }
set_option maxRecDepth 20000 in
set_option maxHeartbeats 4000000 in
theorem g_X9_pass_b32 {p : Program} {l : Launch} {e : Env} {s : State} {m : MethodId} {args : Array Value} {below : List Frame} {meth : Method} {c : Code} {Z : gZ} (hC : gC p l s m args meth c cX9_pass 2 RX9 (some .int) Z)   (M : gM) (a1 : Int32) (t1 : Int32) : gW p l e rm_X9_pass s m args below meth c 2 Z 1 0 0 M 32 [(0, .ref (zad Z 9)), (1, .int a1)] [.int t1, .ref (zad Z 9)] (f_X9_pass_b32  M a1 t1) := by
  unfold f_X9_pass_b32
  refine g_callVi (n := 1) hC [.int t1] 9 9 (by decide) rfl rfl (fun hne => c_X9_refused hC.2.2.2.2.2.2.2.1 Z M t1 hne) lk_X9_155 mw_X9_refused.1 mw_X9_refused.2.1 mw_X9_refused.2.2.1 mw_X9_refused.2.2.2 ⟨rfl, by decide, by decide, by decide +kernel⟩ rfl rfl ⟨by decide, by decide⟩ rfl rfl (Nat.le_of_ble_eq_true rfl) (by decide) (by decide) (by decide) dX9_pass_32 (fun x2 M1 => ?_)
  refine g_if_eq (tgt := 40) hC dX9_pass_35 (by decide) (fun _ => ?_) (fun _ => ?_)
  · refine g_aload_n hC 0 dX9_pass_40 rfl rfl ?_
    refine g_dup hC dX9_pass_41 rfl ?_
    refine gf_X9_152 hC dX9_pass_42 ?_
    refine g_iload_n hC 1 dX9_pass_45 rfl rfl ?_
    refine g_iadd hC dX9_pass_46 ?_
    refine gp_X9_152 hC dX9_pass_47 (fun M3 => ?_)
    refine g_aload_n hC 0 dX9_pass_50 rfl rfl ?_
    refine gf_X9_152 hC dX9_pass_51 ?_
    exact g_iret hC rfl (by decide) dX9_pass_54
  · refine g_iconst hC (v := 0) dX9_pass_38 (by decide) ?_
    exact g_iret hC rfl (by decide) dX9_pass_39
set_option maxRecDepth 20000 in
set_option maxHeartbeats 4000000 in
theorem c_X9_pass {l : Launch} (hfl : l.stackTraces = false) (Z : gZ) (M : gM) (a1 : Int32) : gMet l yX9_pass cX9_pass 2 (some .int) rm_X9_pass 1 0 Z M [.ref (zad Z 9), .int a1] (f_X9_pass M a1) := by
  refine g_enter hfl (by decide) (Nat.le_of_ble_eq_true rfl) (fun p e s m args below meth c hC => ?_)
  refine g_eq (F := f_X9_pass M a1) rfl ?_
  refine g_lv0 (lv1 := [(0, .ref (zad Z 9)), (1, .int a1)]) rfl ?_
  unfold f_X9_pass
  refine g_aload_n hC 0 dX9_pass_0 rfl rfl ?_
  refine g_iload_n hC 1 dX9_pass_1 rfl rfl ?_
  refine g_iconst hC (v := 1) dX9_pass_2 (by decide) ?_
  refine g_bipush hC (v := 60) dX9_pass_3 (by decide) ?_
  refine g_callSi (n := 3) hC [.int a1, .int 1, .int 60] (fun hne => c_X9_within hC.2.2.2.2.2.2.2.1 Z M a1 1 60 hne) lk_X9_148 mw_X9_within.1 mw_X9_within.2.1 mw_X9_within.2.2 ⟨by decide, by decide, by decide +kernel⟩ rfl rfl ⟨by decide, by decide⟩ rfl rfl (Nat.le_of_ble_eq_true rfl) (by decide) (by decide) (by decide) dX9_pass_5 (fun x5 M4 => ?_)
  refine g_if_ne (tgt := 15) hC dX9_pass_8 (by decide) (fun _ => ?_) (fun _ => ?_)
  · refine g_iconst hC (v := 1) dX9_pass_11 (by decide) ?_
    refine g_goto (tgt := 32) hC dX9_pass_12 (by decide) ?_
    exact g_X9_pass_b32 hC  M4 a1 1
  · refine g_aload_n hC 0 dX9_pass_15 rfl rfl ?_
    refine gf_X9_152 hC dX9_pass_16 ?_
    refine g_iload_n hC 1 dX9_pass_19 rfl rfl ?_
    refine g_iadd hC dX9_pass_20 ?_
    refine g_sipush hC (v := 900) dX9_pass_21 (by decide) ?_
    refine g_icmp_le (tgt := 31) hC dX9_pass_24 (by decide) (fun _ => ?_) (fun _ => ?_)
    · refine g_iconst hC (v := 0) dX9_pass_31 (by decide) ?_
      exact g_X9_pass_b32 hC  M4 a1 0
    · refine g_iconst hC (v := 2) dX9_pass_27 (by decide) ?_
      refine g_goto (tgt := 32) hC dX9_pass_28 (by decide) ?_
      exact g_X9_pass_b32 hC  M4 a1 2

-- ===== X9_holiday =====
def f_X9_holiday_b49  (M : gM) (a1 : Int32) (t1 : Int32) : gR := (rb (f_X9_refused M t1) (fun x2 M1 => (if x2 = 0 then (rb (f_X9_isFree M1 a1) (fun x4 M3 => (gZ01 1 (gI a1 1001 (bM (gset M3 102 a1.toNatClampNeg 1) (fun M5 => (bM (gset M5 9 2 ((M5 9 2) + 1)) (fun M6 => (if x4 = 0 then (rRet 1 M6) else (rRet 0 M6)))))))))) else (rRet 0 M1))))
def f_X9_holiday_b44  (M : gM) (a1 : Int32)  : gR := (f_X9_holiday_b49  M a1 2)
def f_X9_holiday (M : gM) (a1 : Int32) : gR := (rb (f_X9_within M a1 0 1000) (fun x8 M7 => (if x8 = 0 then (f_X9_holiday_b49  M7 a1 1) else (if a1 ≤ (M7 9 1) then (f_X9_holiday_b44  M7 a1 ) else (gI a1 1001 (if (M7 102 a1.toNatClampNeg) = 0 then (if (M7 9 2) = 30 then (f_X9_holiday_b44  M7 a1 ) else (f_X9_holiday_b49  M7 a1 0)) else (f_X9_holiday_b44  M7 a1 )))))))
abbrev rm_X9_holiday : Room := { frames := 1, cells := 0, slots := 0, locals := 22 }
set_option maxRecDepth 20000 in
set_option maxHeartbeats 4000000 in
theorem g_X9_holiday_b49 {p : Program} {l : Launch} {e : Env} {s : State} {m : MethodId} {args : Array Value} {below : List Frame} {meth : Method} {c : Code} {Z : gZ} (hC : gC p l s m args meth c cX9_holiday 4 RX9 (some .boolean) Z)   (M : gM) (a1 : Int32) (t1 : Int32) : gW p l e rm_X9_holiday s m args below meth c 4 Z 1 0 0 M 49 [(0, .ref (zad Z 9)), (1, .int a1)] [.int t1, .ref (zad Z 9)] (f_X9_holiday_b49  M a1 t1) := by
  unfold f_X9_holiday_b49
  refine g_callVi (n := 1) hC [.int t1] 9 9 (by decide) rfl rfl (fun hne => c_X9_refused hC.2.2.2.2.2.2.2.1 Z M t1 hne) lk_X9_155 mw_X9_refused.1 mw_X9_refused.2.1 mw_X9_refused.2.2.1 mw_X9_refused.2.2.2 ⟨rfl, by decide, by decide, by decide +kernel⟩ rfl rfl ⟨by decide, by decide⟩ rfl rfl (Nat.le_of_ble_eq_true rfl) (by decide) (by decide) (by decide) dX9_holiday_49 (fun x2 M1 => ?_)
  refine g_if_eq (tgt := 57) hC dX9_holiday_52 (by decide) (fun _ => ?_) (fun _ => ?_)
  · refine g_aload_n hC 0 dX9_holiday_57 rfl rfl ?_
    refine g_iload_n hC 1 dX9_holiday_58 rfl rfl ?_
    refine g_callVi (n := 1) hC [.int a1] 9 9 (by decide) rfl rfl (fun hne => c_X9_isFree hC.2.2.2.2.2.2.2.1 Z M1 a1 hne) lk_X9_162 mw_X9_isFree.1 mw_X9_isFree.2.1 mw_X9_isFree.2.2.1 mw_X9_isFree.2.2.2 ⟨rfl, by decide, by decide, by decide +kernel⟩ rfl rfl ⟨by decide, by decide⟩ rfl rfl (Nat.le_of_ble_eq_true rfl) (by decide) (by decide) (by decide) dX9_holiday_59 (fun x4 M3 => ?_)
    refine g_istore_n hC (lv1 := [(3, .int x4), (0, .ref (zad Z 9)), (1, .int a1)]) dX9_holiday_62 rfl (by decide) rfl ?_
    refine g_aload_n hC 1 dX9_holiday_63 rfl rfl ?_
    refine gf_X9_7 hC dX9_holiday_64 ?_
    refine g_iload_n hC 2 dX9_holiday_67 rfl rfl ?_
    refine g_iconst hC (v := 1) dX9_holiday_68 (by decide) ?_
    refine g_zast hC 102 (by decide) rfl dX9_holiday_69 (fun M5 => ?_)
    refine g_aload_n hC 1 dX9_holiday_70 rfl rfl ?_
    refine g_dup hC dX9_holiday_71 rfl ?_
    refine gf_X9_159 hC dX9_holiday_72 ?_
    refine g_iconst hC (v := 1) dX9_holiday_75 (by decide) ?_
    refine g_iadd hC dX9_holiday_76 ?_
    refine gp_X9_159 hC dX9_holiday_77 (fun M6 => ?_)
    refine g_iload_n hC 0 dX9_holiday_80 rfl rfl ?_
    refine g_if_ne (tgt := 88) hC dX9_holiday_81 (by decide) (fun _ => ?_) (fun _ => ?_)
    · refine g_iconst hC (v := 1) dX9_holiday_84 (by decide) ?_
      refine g_goto (tgt := 89) hC dX9_holiday_85 (by decide) ?_
      exact g_zret1 hC rfl (by decide) dX9_holiday_89
    · refine g_iconst hC (v := 0) dX9_holiday_88 (by decide) ?_
      exact g_zret0 hC rfl (by decide) dX9_holiday_89
  · refine g_iconst hC (v := 0) dX9_holiday_55 (by decide) ?_
    exact g_zret0 hC rfl (by decide) dX9_holiday_56
set_option maxRecDepth 20000 in
set_option maxHeartbeats 4000000 in
theorem g_X9_holiday_b44 {p : Program} {l : Launch} {e : Env} {s : State} {m : MethodId} {args : Array Value} {below : List Frame} {meth : Method} {c : Code} {Z : gZ} (hC : gC p l s m args meth c cX9_holiday 4 RX9 (some .boolean) Z)   (M : gM) (a1 : Int32)  : gW p l e rm_X9_holiday s m args below meth c 4 Z 1 0 0 M 44 [(0, .ref (zad Z 9)), (1, .int a1)] [.ref (zad Z 9)] (f_X9_holiday_b44  M a1 ) := by
  unfold f_X9_holiday_b44
  refine g_iconst hC (v := 2) dX9_holiday_44 (by decide) ?_
  refine g_goto (tgt := 49) hC dX9_holiday_45 (by decide) ?_
  exact g_X9_holiday_b49 hC  M a1 2
set_option maxRecDepth 20000 in
set_option maxHeartbeats 4000000 in
theorem c_X9_holiday {l : Launch} (hfl : l.stackTraces = false) (Z : gZ) (M : gM) (a1 : Int32) : gMet l yX9_holiday cX9_holiday 4 (some .boolean) rm_X9_holiday 1 0 Z M [.ref (zad Z 9), .int a1] (f_X9_holiday M a1) := by
  refine g_enter hfl (by decide) (Nat.le_of_ble_eq_true rfl) (fun p e s m args below meth c hC => ?_)
  refine g_eq (F := f_X9_holiday M a1) rfl ?_
  refine g_lv0 (lv1 := [(0, .ref (zad Z 9)), (1, .int a1)]) rfl ?_
  unfold f_X9_holiday
  refine g_iload_n hC 1 dX9_holiday_0 rfl rfl ?_
  refine g_iconst hC (v := 0) dX9_holiday_1 (by decide) ?_
  refine g_sipush hC (v := 1000) dX9_holiday_2 (by decide) ?_
  refine g_callSi (n := 3) hC [.int a1, .int 0, .int 1000] (fun hne => c_X9_within hC.2.2.2.2.2.2.2.1 Z M a1 0 1000 hne) lk_X9_148 mw_X9_within.1 mw_X9_within.2.1 mw_X9_within.2.2 ⟨by decide, by decide, by decide +kernel⟩ rfl rfl ⟨by decide, by decide⟩ rfl rfl (Nat.le_of_ble_eq_true rfl) (by decide) (by decide) (by decide) dX9_holiday_5 (fun x8 M7 => ?_)
  refine g_istore_n hC (lv1 := [(2, .int x8), (0, .ref (zad Z 9)), (1, .int a1)]) dX9_holiday_8 rfl (by decide) rfl ?_
  refine g_aload_n hC 1 dX9_holiday_9 rfl rfl ?_
  refine g_iload_n hC 0 dX9_holiday_10 rfl rfl ?_
  refine g_if_ne (tgt := 18) hC dX9_holiday_11 (by decide) (fun _ => ?_) (fun _ => ?_)
  · refine g_iconst hC (v := 1) dX9_holiday_14 (by decide) ?_
    refine g_goto (tgt := 49) hC dX9_holiday_15 (by decide) ?_
    refine g_sub (lv1 := [(0, .ref (zad Z 9)), (1, .int a1)]) [1, 2] rfl ?_
    exact g_X9_holiday_b49 hC  M7 a1 1
  · refine g_iload_n hC 2 dX9_holiday_18 rfl rfl ?_
    refine g_aload_n hC 1 dX9_holiday_19 rfl rfl ?_
    refine gf_X9_152 hC dX9_holiday_20 ?_
    refine g_icmp_le (tgt := 44) hC dX9_holiday_23 (by decide) (fun _ => ?_) (fun _ => ?_)
    · refine g_sub (lv1 := [(0, .ref (zad Z 9)), (1, .int a1)]) [1, 2] rfl ?_
      exact g_X9_holiday_b44 hC  M7 a1 
    · refine g_aload_n hC 1 dX9_holiday_26 rfl rfl ?_
      refine gf_X9_7 hC dX9_holiday_27 ?_
      refine g_iload_n hC 2 dX9_holiday_30 rfl rfl ?_
      refine g_zald hC 102 (by decide) rfl dX9_holiday_31 ?_
      refine g_if_ne (tgt := 44) hC dX9_holiday_32 (by decide) (fun _ => ?_) (fun _ => ?_)
      · refine g_aload_n hC 1 dX9_holiday_35 rfl rfl ?_
        refine gf_X9_159 hC dX9_holiday_36 ?_
        refine g_bipush hC (v := 30) dX9_holiday_39 (by decide) ?_
        refine g_icmp_ne (tgt := 48) hC dX9_holiday_41 (by decide) (fun _ => ?_) (fun _ => ?_)
        · refine g_sub (lv1 := [(0, .ref (zad Z 9)), (1, .int a1)]) [1, 2] rfl ?_
          exact g_X9_holiday_b44 hC  M7 a1 
        · refine g_iconst hC (v := 0) dX9_holiday_48 (by decide) ?_
          refine g_sub (lv1 := [(0, .ref (zad Z 9)), (1, .int a1)]) [1, 2] rfl ?_
          exact g_X9_holiday_b49 hC  M7 a1 0
      · refine g_sub (lv1 := [(0, .ref (zad Z 9)), (1, .int a1)]) [1, 2] rfl ?_
        exact g_X9_holiday_b44 hC  M7 a1 

-- ===== X9_setRule =====
def f_X9_setRule_b29  (M : gM) (a1 : Int32) (a2 : Int32) (a3 : Int32) (t1 : Int32) : gR := (rb (f_X9_refused M t1) (fun x2 M1 => (if x2 = 0 then (gI a1 5 (bV (M1 103 a1.toNatClampNeg) (fun x3 => (gI a1 5 (bM (gset M1 103 a1.toNatClampNeg a2) (fun M4 => (gZ01 a3 (gI a1 5 (bM (gset M4 104 a1.toNatClampNeg a3) (fun M5 => (rRet x3 M5))))))))))) else (rRet 0 M1))))
def f_X9_setRule (M : gM) (a1 : Int32) (a2 : Int32) (a3 : Int32) : gR := (rb (f_X9_within M a1 0 4) (fun x7 M6 => (if x7 = 0 then (f_X9_setRule_b29  M6 a1 a2 a3 1) else (rb (f_X9_within M6 a2 1 60) (fun x9 M8 => (if x9 = 0 then (f_X9_setRule_b29  M8 a1 a2 a3 2) else (f_X9_setRule_b29  M8 a1 a2 a3 0)))))))
abbrev rm_X9_setRule : Room := { frames := 1, cells := 0, slots := 0, locals := 22 }
set_option maxRecDepth 20000 in
set_option maxHeartbeats 4000000 in
theorem g_X9_setRule_b29 {p : Program} {l : Launch} {e : Env} {s : State} {m : MethodId} {args : Array Value} {below : List Frame} {meth : Method} {c : Code} {Z : gZ} (hC : gC p l s m args meth c cX9_setRule 5 RX9 (some .int) Z)   (M : gM) (a1 : Int32) (a2 : Int32) (a3 : Int32) (t1 : Int32) : gW p l e rm_X9_setRule s m args below meth c 5 Z 1 0 0 M 29 [(0, .ref (zad Z 9)), (1, .int a1), (2, .int a2), (3, .int a3)] [.int t1, .ref (zad Z 9)] (f_X9_setRule_b29  M a1 a2 a3 t1) := by
  unfold f_X9_setRule_b29
  refine g_callVi (n := 1) hC [.int t1] 9 9 (by decide) rfl rfl (fun hne => c_X9_refused hC.2.2.2.2.2.2.2.1 Z M t1 hne) lk_X9_155 mw_X9_refused.1 mw_X9_refused.2.1 mw_X9_refused.2.2.1 mw_X9_refused.2.2.2 ⟨rfl, by decide, by decide, by decide +kernel⟩ rfl rfl ⟨by decide, by decide⟩ rfl rfl (Nat.le_of_ble_eq_true rfl) (by decide) (by decide) (by decide) dX9_setRule_29 (fun x2 M1 => ?_)
  refine g_if_eq (tgt := 37) hC dX9_setRule_32 (by decide) (fun _ => ?_) (fun _ => ?_)
  · refine g_aload_n hC 0 dX9_setRule_37 rfl rfl ?_
    refine gf_X9_13 hC dX9_setRule_38 ?_
    refine g_iload_n hC 1 dX9_setRule_41 rfl rfl ?_
    refine g_iald hC 103 (by decide) rfl dX9_setRule_42 ?_
    refine g_bv (fun x3 => ?_)
    refine g_istore hC (lv1 := [(4, .int x3), (0, .ref (zad Z 9)), (1, .int a1), (2, .int a2), (3, .int a3)]) dX9_setRule_43 (by decide) rfl ?_
    refine g_aload_n hC 1 dX9_setRule_45 rfl rfl ?_
    refine gf_X9_13 hC dX9_setRule_46 ?_
    refine g_iload_n hC 2 dX9_setRule_49 rfl rfl ?_
    refine g_iload_n hC 3 dX9_setRule_50 rfl rfl ?_
    refine g_iast hC 103 (by decide) rfl dX9_setRule_51 (fun M4 => ?_)
    refine g_aload_n hC 1 dX9_setRule_52 rfl rfl ?_
    refine gf_X9_17 hC dX9_setRule_53 ?_
    refine g_iload_n hC 2 dX9_setRule_56 rfl rfl ?_
    refine g_iload_n hC 4 dX9_setRule_57 rfl rfl ?_
    refine g_zast hC 104 (by decide) rfl dX9_setRule_58 (fun M5 => ?_)
    refine g_iload hC 0 dX9_setRule_59 rfl ?_
    exact g_iret hC rfl (by decide) dX9_setRule_61
  · refine g_iconst hC (v := 0) dX9_setRule_35 (by decide) ?_
    exact g_iret hC rfl (by decide) dX9_setRule_36
set_option maxRecDepth 20000 in
set_option maxHeartbeats 4000000 in
theorem c_X9_setRule {l : Launch} (hfl : l.stackTraces = false) (Z : gZ) (M : gM) (a1 : Int32) (a2 : Int32) (a3 : Int32) : gMet l yX9_setRule cX9_setRule 5 (some .int) rm_X9_setRule 1 0 Z M [.ref (zad Z 9), .int a1, .int a2, .int a3] (f_X9_setRule M a1 a2 a3) := by
  refine g_enter hfl (by decide) (Nat.le_of_ble_eq_true rfl) (fun p e s m args below meth c hC => ?_)
  refine g_eq (F := f_X9_setRule M a1 a2 a3) rfl ?_
  refine g_lv0 (lv1 := [(0, .ref (zad Z 9)), (1, .int a1), (2, .int a2), (3, .int a3)]) rfl ?_
  unfold f_X9_setRule
  refine g_aload_n hC 0 dX9_setRule_0 rfl rfl ?_
  refine g_iload_n hC 1 dX9_setRule_1 rfl rfl ?_
  refine g_iconst hC (v := 0) dX9_setRule_2 (by decide) ?_
  refine g_iconst hC (v := 4) dX9_setRule_3 (by decide) ?_
  refine g_callSi (n := 3) hC [.int a1, .int 0, .int 4] (fun hne => c_X9_within hC.2.2.2.2.2.2.2.1 Z M a1 0 4 hne) lk_X9_148 mw_X9_within.1 mw_X9_within.2.1 mw_X9_within.2.2 ⟨by decide, by decide, by decide +kernel⟩ rfl rfl ⟨by decide, by decide⟩ rfl rfl (Nat.le_of_ble_eq_true rfl) (by decide) (by decide) (by decide) dX9_setRule_4 (fun x7 M6 => ?_)
  refine g_if_ne (tgt := 14) hC dX9_setRule_7 (by decide) (fun _ => ?_) (fun _ => ?_)
  · refine g_iconst hC (v := 1) dX9_setRule_10 (by decide) ?_
    refine g_goto (tgt := 29) hC dX9_setRule_11 (by decide) ?_
    exact g_X9_setRule_b29 hC  M6 a1 a2 a3 1
  · refine g_iload_n hC 2 dX9_setRule_14 rfl rfl ?_
    refine g_iconst hC (v := 1) dX9_setRule_15 (by decide) ?_
    refine g_bipush hC (v := 60) dX9_setRule_16 (by decide) ?_
    refine g_callSi (n := 3) hC [.int a2, .int 1, .int 60] (fun hne => c_X9_within hC.2.2.2.2.2.2.2.1 Z M6 a2 1 60 hne) lk_X9_148 mw_X9_within.1 mw_X9_within.2.1 mw_X9_within.2.2 ⟨by decide, by decide, by decide +kernel⟩ rfl rfl ⟨by decide, by decide⟩ rfl rfl (Nat.le_of_ble_eq_true rfl) (by decide) (by decide) (by decide) dX9_setRule_18 (fun x9 M8 => ?_)
    refine g_if_ne (tgt := 28) hC dX9_setRule_21 (by decide) (fun _ => ?_) (fun _ => ?_)
    · refine g_iconst hC (v := 2) dX9_setRule_24 (by decide) ?_
      refine g_goto (tgt := 29) hC dX9_setRule_25 (by decide) ?_
      exact g_X9_setRule_b29 hC  M8 a1 a2 a3 2
    · refine g_iconst hC (v := 0) dX9_setRule_28 (by decide) ?_
      exact g_X9_setRule_b29 hC  M8 a1 a2 a3 0

-- ===== X9_isCase =====
def f_X9_isCase (M : gM) (a1 : Int32) : gR := (rb (f_X9_within M a1 0 ((M 9 6) - 1)) (fun x2 M1 => (gZ01 x2 (rRet x2 M1))))
abbrev rm_X9_isCase : Room := { frames := 1, cells := 0, slots := 0, locals := 22 }
set_option maxRecDepth 20000 in
set_option maxHeartbeats 4000000 in
theorem c_X9_isCase {l : Launch} (hfl : l.stackTraces = false) (Z : gZ) (M : gM) (a1 : Int32) : gMet l yX9_isCase cX9_isCase 2 (some .boolean) rm_X9_isCase 1 0 Z M [.ref (zad Z 9), .int a1] (f_X9_isCase M a1) := by
  refine g_enter hfl (by decide) (Nat.le_of_ble_eq_true rfl) (fun p e s m args below meth c hC => ?_)
  refine g_eq (F := f_X9_isCase M a1) rfl ?_
  refine g_lv0 (lv1 := [(0, .ref (zad Z 9)), (1, .int a1)]) rfl ?_
  unfold f_X9_isCase
  refine g_iload_n hC 1 dX9_isCase_0 rfl rfl ?_
  refine g_iconst hC (v := 0) dX9_isCase_1 (by decide) ?_
  refine g_aload_n hC 0 dX9_isCase_2 rfl rfl ?_
  refine gf_X9_165 hC dX9_isCase_3 ?_
  refine g_iconst hC (v := 1) dX9_isCase_6 (by decide) ?_
  refine g_isub hC dX9_isCase_7 ?_
  refine g_callSi (n := 3) hC [.int a1, .int 0, .int ((M 9 6) - 1)] (fun hne => c_X9_within hC.2.2.2.2.2.2.2.1 Z M a1 0 ((M 9 6) - 1) hne) lk_X9_148 mw_X9_within.1 mw_X9_within.2.1 mw_X9_within.2.2 ⟨by decide, by decide, by decide +kernel⟩ rfl rfl ⟨by decide, by decide⟩ rfl rfl (Nat.le_of_ble_eq_true rfl) (by decide) (by decide) (by decide) dX9_isCase_8 (fun x2 M1 => ?_)
  exact g_zret hC rfl (by decide) dX9_isCase_11

-- ===== X9_isPerson =====
def f_X9_isPerson (M : gM) (a0 : Int32) : gR := (rb (f_X9_within M a0 0 15) (fun x2 M1 => (gZ01 x2 (rRet x2 M1))))
abbrev rm_X9_isPerson : Room := { frames := 1, cells := 0, slots := 0, locals := 22 }
set_option maxRecDepth 20000 in
set_option maxHeartbeats 4000000 in
theorem c_X9_isPerson {l : Launch} (hfl : l.stackTraces = false) (Z : gZ) (M : gM) (a0 : Int32) : gMet l yX9_isPerson cX9_isPerson 1 (some .boolean) rm_X9_isPerson 1 0 Z M [.int a0] (f_X9_isPerson M a0) := by
  refine g_enter hfl (by decide) (Nat.le_of_ble_eq_true rfl) (fun p e s m args below meth c hC => ?_)
  refine g_eq (F := f_X9_isPerson M a0) rfl ?_
  refine g_lv0 (lv1 := [(0, .int a0)]) rfl ?_
  unfold f_X9_isPerson
  refine g_iload_n hC 0 dX9_isPerson_0 rfl rfl ?_
  refine g_iconst hC (v := 0) dX9_isPerson_1 (by decide) ?_
  refine g_bipush hC (v := 15) dX9_isPerson_2 (by decide) ?_
  refine g_callSi (n := 3) hC [.int a0, .int 0, .int 15] (fun hne => c_X9_within hC.2.2.2.2.2.2.2.1 Z M a0 0 15 hne) lk_X9_148 mw_X9_within.1 mw_X9_within.2.1 mw_X9_within.2.2 ⟨by decide, by decide, by decide +kernel⟩ rfl rfl ⟨by decide, by decide⟩ rfl rfl (Nat.le_of_ble_eq_true rfl) (by decide) (by decide) (by decide) dX9_isPerson_4 (fun x2 M1 => ?_)
  exact g_zret hC rfl (by decide) dX9_isPerson_7

-- ===== X9_isClaim =====
def f_X9_isClaim (M : gM) (a1 : Int32) : gR := (rb (f_X9_within M a1 0 ((M 9 11) - 1)) (fun x2 M1 => (gZ01 x2 (rRet x2 M1))))
abbrev rm_X9_isClaim : Room := { frames := 1, cells := 0, slots := 0, locals := 22 }
set_option maxRecDepth 20000 in
set_option maxHeartbeats 4000000 in
theorem c_X9_isClaim {l : Launch} (hfl : l.stackTraces = false) (Z : gZ) (M : gM) (a1 : Int32) : gMet l yX9_isClaim cX9_isClaim 2 (some .boolean) rm_X9_isClaim 1 0 Z M [.ref (zad Z 9), .int a1] (f_X9_isClaim M a1) := by
  refine g_enter hfl (by decide) (Nat.le_of_ble_eq_true rfl) (fun p e s m args below meth c hC => ?_)
  refine g_eq (F := f_X9_isClaim M a1) rfl ?_
  refine g_lv0 (lv1 := [(0, .ref (zad Z 9)), (1, .int a1)]) rfl ?_
  unfold f_X9_isClaim
  refine g_iload_n hC 1 dX9_isClaim_0 rfl rfl ?_
  refine g_iconst hC (v := 0) dX9_isClaim_1 (by decide) ?_
  refine g_aload_n hC 0 dX9_isClaim_2 rfl rfl ?_
  refine gf_X9_168 hC dX9_isClaim_3 ?_
  refine g_iconst hC (v := 1) dX9_isClaim_6 (by decide) ?_
  refine g_isub hC dX9_isClaim_7 ?_
  refine g_callSi (n := 3) hC [.int a1, .int 0, .int ((M 9 11) - 1)] (fun hne => c_X9_within hC.2.2.2.2.2.2.2.1 Z M a1 0 ((M 9 11) - 1) hne) lk_X9_148 mw_X9_within.1 mw_X9_within.2.1 mw_X9_within.2.2 ⟨by decide, by decide, by decide +kernel⟩ rfl rfl ⟨by decide, by decide⟩ rfl rfl (Nat.le_of_ble_eq_true rfl) (by decide) (by decide) (by decide) dX9_isClaim_8 (fun x2 M1 => ?_)
  exact g_zret hC rfl (by decide) dX9_isClaim_11

-- ===== X9_isEntry =====
def f_X9_isEntry (M : gM) (a1 : Int32) : gR := (rb (f_X9_within M a1 0 ((M 9 23) - 1)) (fun x2 M1 => (gZ01 x2 (rRet x2 M1))))
abbrev rm_X9_isEntry : Room := { frames := 1, cells := 0, slots := 0, locals := 22 }
set_option maxRecDepth 20000 in
set_option maxHeartbeats 4000000 in
theorem c_X9_isEntry {l : Launch} (hfl : l.stackTraces = false) (Z : gZ) (M : gM) (a1 : Int32) : gMet l yX9_isEntry cX9_isEntry 2 (some .boolean) rm_X9_isEntry 1 0 Z M [.ref (zad Z 9), .int a1] (f_X9_isEntry M a1) := by
  refine g_enter hfl (by decide) (Nat.le_of_ble_eq_true rfl) (fun p e s m args below meth c hC => ?_)
  refine g_eq (F := f_X9_isEntry M a1) rfl ?_
  refine g_lv0 (lv1 := [(0, .ref (zad Z 9)), (1, .int a1)]) rfl ?_
  unfold f_X9_isEntry
  refine g_iload_n hC 1 dX9_isEntry_0 rfl rfl ?_
  refine g_iconst hC (v := 0) dX9_isEntry_1 (by decide) ?_
  refine g_aload_n hC 0 dX9_isEntry_2 rfl rfl ?_
  refine gf_X9_171 hC dX9_isEntry_3 ?_
  refine g_iconst hC (v := 1) dX9_isEntry_6 (by decide) ?_
  refine g_isub hC dX9_isEntry_7 ?_
  refine g_callSi (n := 3) hC [.int a1, .int 0, .int ((M 9 23) - 1)] (fun hne => c_X9_within hC.2.2.2.2.2.2.2.1 Z M a1 0 ((M 9 23) - 1) hne) lk_X9_148 mw_X9_within.1 mw_X9_within.2.1 mw_X9_within.2.2 ⟨by decide, by decide, by decide +kernel⟩ rfl rfl ⟨by decide, by decide⟩ rfl rfl (Nat.le_of_ble_eq_true rfl) (by decide) (by decide) (by decide) dX9_isEntry_8 (fun x2 M1 => ?_)
  exact g_zret hC rfl (by decide) dX9_isEntry_11

-- ===== X9_isMotion =====
def f_X9_isMotion (M : gM) (a1 : Int32) : gR := (rb (f_X9_isEntry M a1) (fun x2 M1 => (if x2 = 0 then (rRet 0 M1) else (gI a1 160 (if (M1 120 a1.toNatClampNeg) = 2 then (rRet 1 M1) else (rRet 0 M1))))))
abbrev rm_X9_isMotion : Room := { frames := 2, cells := 0, slots := 0, locals := 43 }
set_option maxRecDepth 20000 in
set_option maxHeartbeats 4000000 in
theorem c_X9_isMotion {l : Launch} (hfl : l.stackTraces = false) (Z : gZ) (M : gM) (a1 : Int32) : gMet l yX9_isMotion cX9_isMotion 2 (some .boolean) rm_X9_isMotion 1 0 Z M [.ref (zad Z 9), .int a1] (f_X9_isMotion M a1) := by
  refine g_enter hfl (by decide) (Nat.le_of_ble_eq_true rfl) (fun p e s m args below meth c hC => ?_)
  refine g_eq (F := f_X9_isMotion M a1) rfl ?_
  refine g_lv0 (lv1 := [(0, .ref (zad Z 9)), (1, .int a1)]) rfl ?_
  unfold f_X9_isMotion
  refine g_aload_n hC 0 dX9_isMotion_0 rfl rfl ?_
  refine g_iload_n hC 1 dX9_isMotion_1 rfl rfl ?_
  refine g_callVi (n := 1) hC [.int a1] 9 9 (by decide) rfl rfl (fun hne => c_X9_isEntry hC.2.2.2.2.2.2.2.1 Z M a1 hne) lk_X9_174 mw_X9_isEntry.1 mw_X9_isEntry.2.1 mw_X9_isEntry.2.2.1 mw_X9_isEntry.2.2.2 ⟨rfl, by decide, by decide, by decide +kernel⟩ rfl rfl ⟨by decide, by decide⟩ rfl rfl (Nat.le_of_ble_eq_true rfl) (by decide) (by decide) (by decide) dX9_isMotion_2 (fun x2 M1 => ?_)
  refine g_if_eq (tgt := 22) hC dX9_isMotion_5 (by decide) (fun _ => ?_) (fun _ => ?_)
  · refine g_iconst hC (v := 0) dX9_isMotion_22 (by decide) ?_
    exact g_zret0 hC rfl (by decide) dX9_isMotion_23
  · refine g_aload_n hC 0 dX9_isMotion_8 rfl rfl ?_
    refine gf_X9_65 hC dX9_isMotion_9 ?_
    refine g_iload_n hC 1 dX9_isMotion_12 rfl rfl ?_
    refine g_iald hC 120 (by decide) rfl dX9_isMotion_13 ?_
    refine g_iconst hC (v := 2) dX9_isMotion_14 (by decide) ?_
    refine g_icmp_ne (tgt := 22) hC dX9_isMotion_15 (by decide) (fun _ => ?_) (fun _ => ?_)
    · refine g_iconst hC (v := 1) dX9_isMotion_18 (by decide) ?_
      refine g_goto (tgt := 23) hC dX9_isMotion_19 (by decide) ?_
      exact g_zret1 hC rfl (by decide) dX9_isMotion_23
    · refine g_iconst hC (v := 0) dX9_isMotion_22 (by decide) ?_
      exact g_zret0 hC rfl (by decide) dX9_isMotion_23

-- ===== X9_newCase =====
def f_X9_newCase (M : gM) (a1 : Int32) : gR := (gI (M 9 6) 8 (bM (gset M 105 (M 9 6).toNatClampNeg a1) (fun M1 => (gI (M1 9 6) 8 (bM (gset M1 106 (M1 9 6).toNatClampNeg (-1)) (fun M2 => (bM (gset M2 9 6 ((M2 9 6) + 1)) (fun M3 => (rRet ((M3 9 6) - 1) M3)))))))))
abbrev rm_X9_newCase : Room := { frames := 0, cells := 0, slots := 0, locals := 0 }
set_option maxRecDepth 20000 in
set_option maxHeartbeats 4000000 in
theorem c_X9_newCase {l : Launch} (hfl : l.stackTraces = false) (Z : gZ) (M : gM) (a1 : Int32) : gMet l yX9_newCase cX9_newCase 2 (some .int) rm_X9_newCase 1 0 Z M [.ref (zad Z 9), .int a1] (f_X9_newCase M a1) := by
  refine g_enter hfl (by decide) (Nat.le_of_ble_eq_true rfl) (fun p e s m args below meth c hC => ?_)
  refine g_eq (F := f_X9_newCase M a1) rfl ?_
  refine g_lv0 (lv1 := [(0, .ref (zad Z 9)), (1, .int a1)]) rfl ?_
  unfold f_X9_newCase
  refine g_aload_n hC 0 dX9_newCase_0 rfl rfl ?_
  refine gf_X9_20 hC dX9_newCase_1 ?_
  refine g_aload_n hC 0 dX9_newCase_4 rfl rfl ?_
  refine gf_X9_165 hC dX9_newCase_5 ?_
  refine g_iload_n hC 1 dX9_newCase_8 rfl rfl ?_
  refine g_iast hC 105 (by decide) rfl dX9_newCase_9 (fun M1 => ?_)
  refine g_aload_n hC 0 dX9_newCase_10 rfl rfl ?_
  refine gf_X9_23 hC dX9_newCase_11 ?_
  refine g_aload_n hC 0 dX9_newCase_14 rfl rfl ?_
  refine gf_X9_165 hC dX9_newCase_15 ?_
  refine g_iconst hC (v := (-1)) dX9_newCase_18 (by decide) ?_
  refine g_iast hC 106 (by decide) rfl dX9_newCase_19 (fun M2 => ?_)
  refine g_aload_n hC 0 dX9_newCase_20 rfl rfl ?_
  refine g_dup hC dX9_newCase_21 rfl ?_
  refine gf_X9_165 hC dX9_newCase_22 ?_
  refine g_iconst hC (v := 1) dX9_newCase_25 (by decide) ?_
  refine g_iadd hC dX9_newCase_26 ?_
  refine gp_X9_165 hC dX9_newCase_27 (fun M3 => ?_)
  refine g_aload_n hC 0 dX9_newCase_30 rfl rfl ?_
  refine gf_X9_165 hC dX9_newCase_31 ?_
  refine g_iconst hC (v := 1) dX9_newCase_34 (by decide) ?_
  refine g_isub hC dX9_newCase_35 ?_
  exact g_iret hC rfl (by decide) dX9_newCase_36

-- ===== X9_open =====
def f_X9_open_b28  (M : gM) (a1 : Int32) (t1 : Int32) : gR := (rb (f_X9_refused M t1) (fun x2 M1 => (if x2 = 0 then (rb (f_X9_newCase M1 a1) (fun x4 M3 => (rRet x4 M3))) else (rRet 0 M1))))
def f_X9_open (M : gM) (a1 : Int32) : gR := (rb (f_X9_within M a1 0 2) (fun x6 M5 => (if x6 = 0 then (f_X9_open_b28  M5 a1 1) else (if (M5 9 6) = 8 then (f_X9_open_b28  M5 a1 2) else (f_X9_open_b28  M5 a1 0)))))
abbrev rm_X9_open : Room := { frames := 1, cells := 0, slots := 0, locals := 22 }
set_option maxRecDepth 20000 in
set_option maxHeartbeats 4000000 in
theorem g_X9_open_b28 {p : Program} {l : Launch} {e : Env} {s : State} {m : MethodId} {args : Array Value} {below : List Frame} {meth : Method} {c : Code} {Z : gZ} (hC : gC p l s m args meth c cX9_open 2 RX9 (some .int) Z)   (M : gM) (a1 : Int32) (t1 : Int32) : gW p l e rm_X9_open s m args below meth c 2 Z 1 0 0 M 28 [(0, .ref (zad Z 9)), (1, .int a1)] [.int t1, .ref (zad Z 9)] (f_X9_open_b28  M a1 t1) := by
  unfold f_X9_open_b28
  refine g_callVi (n := 1) hC [.int t1] 9 9 (by decide) rfl rfl (fun hne => c_X9_refused hC.2.2.2.2.2.2.2.1 Z M t1 hne) lk_X9_155 mw_X9_refused.1 mw_X9_refused.2.1 mw_X9_refused.2.2.1 mw_X9_refused.2.2.2 ⟨rfl, by decide, by decide, by decide +kernel⟩ rfl rfl ⟨by decide, by decide⟩ rfl rfl (Nat.le_of_ble_eq_true rfl) (by decide) (by decide) (by decide) dX9_open_28 (fun x2 M1 => ?_)
  refine g_if_eq (tgt := 38) hC dX9_open_31 (by decide) (fun _ => ?_) (fun _ => ?_)
  · refine g_aload_n hC 0 dX9_open_38 rfl rfl ?_
    refine g_iload_n hC 1 dX9_open_39 rfl rfl ?_
    refine g_callVi (n := 1) hC [.int a1] 9 9 (by decide) rfl rfl (fun hne => c_X9_newCase hC.2.2.2.2.2.2.2.1 Z M1 a1 hne) lk_X9_177 mw_X9_newCase.1 mw_X9_newCase.2.1 mw_X9_newCase.2.2.1 mw_X9_newCase.2.2.2 ⟨rfl, by decide, by decide, by decide +kernel⟩ rfl rfl ⟨by decide, by decide⟩ rfl rfl (Nat.le_of_ble_eq_true rfl) (by decide) (by decide) (by decide) dX9_open_40 (fun x4 M3 => ?_)
    exact g_iret hC rfl (by decide) dX9_open_43
  · refine g_iconst hC (v := 0) dX9_open_34 (by decide) ?_
    refine g_goto (tgt := 43) hC dX9_open_35 (by decide) ?_
    exact g_iret hC rfl (by decide) dX9_open_43
set_option maxRecDepth 20000 in
set_option maxHeartbeats 4000000 in
theorem c_X9_open {l : Launch} (hfl : l.stackTraces = false) (Z : gZ) (M : gM) (a1 : Int32) : gMet l yX9_open cX9_open 2 (some .int) rm_X9_open 1 0 Z M [.ref (zad Z 9), .int a1] (f_X9_open M a1) := by
  refine g_enter hfl (by decide) (Nat.le_of_ble_eq_true rfl) (fun p e s m args below meth c hC => ?_)
  refine g_eq (F := f_X9_open M a1) rfl ?_
  refine g_lv0 (lv1 := [(0, .ref (zad Z 9)), (1, .int a1)]) rfl ?_
  unfold f_X9_open
  refine g_aload_n hC 0 dX9_open_0 rfl rfl ?_
  refine g_iload_n hC 1 dX9_open_1 rfl rfl ?_
  refine g_iconst hC (v := 0) dX9_open_2 (by decide) ?_
  refine g_iconst hC (v := 2) dX9_open_3 (by decide) ?_
  refine g_callSi (n := 3) hC [.int a1, .int 0, .int 2] (fun hne => c_X9_within hC.2.2.2.2.2.2.2.1 Z M a1 0 2 hne) lk_X9_148 mw_X9_within.1 mw_X9_within.2.1 mw_X9_within.2.2 ⟨by decide, by decide, by decide +kernel⟩ rfl rfl ⟨by decide, by decide⟩ rfl rfl (Nat.le_of_ble_eq_true rfl) (by decide) (by decide) (by decide) dX9_open_4 (fun x6 M5 => ?_)
  refine g_if_ne (tgt := 14) hC dX9_open_7 (by decide) (fun _ => ?_) (fun _ => ?_)
  · refine g_iconst hC (v := 1) dX9_open_10 (by decide) ?_
    refine g_goto (tgt := 28) hC dX9_open_11 (by decide) ?_
    exact g_X9_open_b28 hC  M5 a1 1
  · refine g_aload_n hC 0 dX9_open_14 rfl rfl ?_
    refine gf_X9_165 hC dX9_open_15 ?_
    refine g_bipush hC (v := 8) dX9_open_18 (by decide) ?_
    refine g_icmp_ne (tgt := 27) hC dX9_open_20 (by decide) (fun _ => ?_) (fun _ => ?_)
    · refine g_iconst hC (v := 2) dX9_open_23 (by decide) ?_
      refine g_goto (tgt := 28) hC dX9_open_24 (by decide) ?_
      exact g_X9_open_b28 hC  M5 a1 2
    · refine g_iconst hC (v := 0) dX9_open_27 (by decide) ?_
      exact g_X9_open_b28 hC  M5 a1 0

-- ===== X9_isParty =====
def f_X9_isParty (M : gM) (a1 : Int32) (a2 : Int32) : gR := (gI ((16 * a1) + a2) 128 (if (M 107 ((16 * a1) + a2).toNatClampNeg) = (-1) then (rRet 0 M) else (rRet 1 M)))
abbrev rm_X9_isParty : Room := { frames := 0, cells := 0, slots := 0, locals := 0 }
set_option maxRecDepth 20000 in
set_option maxHeartbeats 4000000 in
theorem c_X9_isParty {l : Launch} (hfl : l.stackTraces = false) (Z : gZ) (M : gM) (a1 : Int32) (a2 : Int32) : gMet l yX9_isParty cX9_isParty 3 (some .boolean) rm_X9_isParty 1 0 Z M [.ref (zad Z 9), .int a1, .int a2] (f_X9_isParty M a1 a2) := by
  refine g_enter hfl (by decide) (Nat.le_of_ble_eq_true rfl) (fun p e s m args below meth c hC => ?_)
  refine g_eq (F := f_X9_isParty M a1 a2) rfl ?_
  refine g_lv0 (lv1 := [(0, .ref (zad Z 9)), (1, .int a1), (2, .int a2)]) rfl ?_
  unfold f_X9_isParty
  refine g_aload_n hC 0 dX9_isParty_0 rfl rfl ?_
  refine gf_X9_26 hC dX9_isParty_1 ?_
  refine g_bipush hC (v := 16) dX9_isParty_4 (by decide) ?_
  refine g_iload_n hC 1 dX9_isParty_6 rfl rfl ?_
  refine g_imul hC dX9_isParty_7 ?_
  refine g_iload_n hC 2 dX9_isParty_8 rfl rfl ?_
  refine g_iadd hC dX9_isParty_9 ?_
  refine g_iald hC 107 (by decide) rfl dX9_isParty_10 ?_
  refine g_iconst hC (v := (-1)) dX9_isParty_11 (by decide) ?_
  refine g_icmp_eq (tgt := 19) hC dX9_isParty_12 (by decide) (fun _ => ?_) (fun _ => ?_)
  · refine g_iconst hC (v := 0) dX9_isParty_19 (by decide) ?_
    exact g_zret0 hC rfl (by decide) dX9_isParty_20
  · refine g_iconst hC (v := 1) dX9_isParty_15 (by decide) ?_
    refine g_goto (tgt := 20) hC dX9_isParty_16 (by decide) ?_
    exact g_zret1 hC rfl (by decide) dX9_isParty_20

-- ===== X9_join =====
def f_X9_join_lb96  (self96 : gM → Int32 → Int32 → Int32 → gR) (M : gM) (a1 : Int32) (a5 : Int32) (a6 : Int32) : gR := (if 16 ≤ a6 then (rRet a5 M) else (rb (f_X9_isParty M a1 a6) (fun x2 M1 => (if x2 = 0 then (bV (a5 + 0) (fun x3 => (bV (a6 + 1) (fun x4 => (self96 M1 a1 x3 x4))))) else (bV (a5 + 1) (fun x5 => (bV (a6 + 1) (fun x6 => (self96 M1 a1 x5 x6)))))))))
def f_X9_join_l96  : Nat → gM → Int32 → Int32 → Int32 → gR
  | 0, _, _, _, _ => rStuck
  | n + 1, M, a1, a5, a6 => f_X9_join_lb96  (f_X9_join_l96  n) M a1 a5 a6
def f_X9_join_b55  (M : gM) (a1 : Int32) (a2 : Int32) (a3 : Int32) (t1 : Int32) : gR := (rb (f_X9_refused M t1) (fun x8 M7 => (if x8 = 0 then (gI ((16 * a1) + a2) 128 (bM (gset M7 107 ((16 * a1) + a2).toNatClampNeg a3) (fun M9 => (gI ((16 * a1) + a2) 128 (bM (gset M9 108 ((16 * a1) + a2).toNatClampNeg (M9 9 1)) (fun M10 => (f_X9_join_l96  5000 M10 a1 0 0))))))) else (rRet 0 M7))))
def f_X9_join_b29  (M : gM) (a1 : Int32) (a2 : Int32) (a3 : Int32) (t0 : Int32) : gR := (if t0 = 0 then (f_X9_join_b55  M a1 a2 a3 1) else (rb (f_X9_isParty M a1 a2) (fun x12 M11 => (if x12 = 0 then (f_X9_join_b55  M11 a1 a2 a3 0) else (f_X9_join_b55  M11 a1 a2 a3 2)))))
def f_X9_join_b28  (M : gM) (a1 : Int32) (a2 : Int32) (a3 : Int32)  : gR := (f_X9_join_b29  M a1 a2 a3 0)
def f_X9_join (M : gM) (a1 : Int32) (a2 : Int32) (a3 : Int32) : gR := (rb (f_X9_isCase M a1) (fun x14 M13 => (if x14 = 0 then (f_X9_join_b28  M13 a1 a2 a3 ) else (rb (f_X9_isPerson M13 a2) (fun x16 M15 => (if x16 = 0 then (f_X9_join_b28  M15 a1 a2 a3 ) else (rb (f_X9_within M15 a3 0 1) (fun x18 M17 => (if x18 = 0 then (f_X9_join_b28  M17 a1 a2 a3 ) else (f_X9_join_b29  M17 a1 a2 a3 1))))))))))
abbrev rm_X9_join : Room := { frames := 2, cells := 0, slots := 0, locals := 43 }
set_option maxRecDepth 20000 in
set_option maxHeartbeats 4000000 in
theorem g_X9_join_lb96 {p : Program} {l : Launch} {e : Env} {s : State} {m : MethodId} {args : Array Value} {below : List Frame} {meth : Method} {c : Code} {Z : gZ} (hC : gC p l s m args meth c cX9_join 7 RX9 (some .int) Z)  {self96 : gM → Int32 → Int32 → Int32 → gR}  (hs96 : ∀ (M : gM) (a1 : Int32) (a5 : Int32) (a6 : Int32) , gW p l e rm_X9_join s m args below meth c 7 Z 1 0 0 M 96 [(0, .ref (zad Z 9)), (1, .int a1), (5, .int a5), (6, .int a6)] [] (self96 M a1 a5 a6)) (M : gM) (a1 : Int32) (a5 : Int32) (a6 : Int32) : gW p l e rm_X9_join s m args below meth c 7 Z 1 0 0 M 96 [(0, .ref (zad Z 9)), (1, .int a1), (5, .int a5), (6, .int a6)] [] (f_X9_join_lb96  self96 M a1 a5 a6) := by
  unfold f_X9_join_lb96
  refine g_iload hC 3 dX9_join_96 rfl ?_
  refine g_bipush hC (v := 16) dX9_join_98 (by decide) ?_
  refine g_icmp_ge (tgt := 129) hC dX9_join_100 (by decide) (fun _ => ?_) (fun _ => ?_)
  · refine g_iload hC 2 dX9_join_129 rfl ?_
    exact g_iret hC rfl (by decide) dX9_join_131
  · refine g_iload hC 2 dX9_join_103 rfl ?_
    refine g_aload_n hC 0 dX9_join_105 rfl rfl ?_
    refine g_iload_n hC 1 dX9_join_106 rfl rfl ?_
    refine g_iload hC 3 dX9_join_107 rfl ?_
    refine g_callVi (n := 2) hC [.int a1, .int a6] 9 9 (by decide) rfl rfl (fun hne => c_X9_isParty hC.2.2.2.2.2.2.2.1 Z M a1 a6 hne) lk_X9_187 mw_X9_isParty.1 mw_X9_isParty.2.1 mw_X9_isParty.2.2.1 mw_X9_isParty.2.2.2 ⟨rfl, by decide, by decide, by decide +kernel⟩ rfl rfl ⟨by decide, by decide⟩ rfl rfl (Nat.le_of_ble_eq_true rfl) (by decide) (by decide) (by decide) dX9_join_109 (fun x2 M1 => ?_)
    refine g_if_eq (tgt := 119) hC dX9_join_112 (by decide) (fun _ => ?_) (fun _ => ?_)
    · refine g_iconst hC (v := 0) dX9_join_119 (by decide) ?_
      refine g_iadd hC dX9_join_120 ?_
      refine g_bv (fun x3 => ?_)
      refine g_istore hC (lv1 := [(5, .int x3), (0, .ref (zad Z 9)), (1, .int a1), (6, .int a6)]) dX9_join_121 (by decide) rfl ?_
      refine g_iinc hC 3 (v := 1) (fun x4 => [(6, .int x4), (5, .int x3), (0, .ref (zad Z 9)), (1, .int a1)]) dX9_join_123 rfl (by decide) (by decide) (fun _ => rfl) (fun x4 => ?_)
      refine g_goto (tgt := 96) hC dX9_join_126 (by decide) ?_
      refine g_sub (lv1 := [(0, .ref (zad Z 9)), (1, .int a1), (5, .int x3), (6, .int x4)]) [2, 3, 1, 0] rfl ?_
      exact hs96 M1 a1 x3 x4
    · refine g_iconst hC (v := 1) dX9_join_115 (by decide) ?_
      refine g_goto (tgt := 120) hC dX9_join_116 (by decide) ?_
      refine g_iadd hC dX9_join_120 ?_
      refine g_bv (fun x5 => ?_)
      refine g_istore hC (lv1 := [(5, .int x5), (0, .ref (zad Z 9)), (1, .int a1), (6, .int a6)]) dX9_join_121 (by decide) rfl ?_
      refine g_iinc hC 3 (v := 1) (fun x6 => [(6, .int x6), (5, .int x5), (0, .ref (zad Z 9)), (1, .int a1)]) dX9_join_123 rfl (by decide) (by decide) (fun _ => rfl) (fun x6 => ?_)
      refine g_goto (tgt := 96) hC dX9_join_126 (by decide) ?_
      refine g_sub (lv1 := [(0, .ref (zad Z 9)), (1, .int a1), (5, .int x5), (6, .int x6)]) [2, 3, 1, 0] rfl ?_
      exact hs96 M1 a1 x5 x6
set_option maxRecDepth 20000 in
set_option maxHeartbeats 4000000 in
theorem g_X9_join_l96 {p : Program} {l : Launch} {e : Env} {s : State} {m : MethodId} {args : Array Value} {below : List Frame} {meth : Method} {c : Code} {Z : gZ} (hC : gC p l s m args meth c cX9_join 7 RX9 (some .int) Z)   : ∀ (n : Nat) (M : gM) (a1 : Int32) (a5 : Int32) (a6 : Int32), gW p l e rm_X9_join s m args below meth c 7 Z 1 0 0 M 96 [(0, .ref (zad Z 9)), (1, .int a1), (5, .int a5), (6, .int a6)] [] (f_X9_join_l96  n M a1 a5 a6)
  | 0, _, _, _, _ => g_stuck
  | n + 1, M, a1, a5, a6 => g_X9_join_lb96 hC  (g_X9_join_l96 hC  n) M a1 a5 a6
set_option maxRecDepth 20000 in
set_option maxHeartbeats 4000000 in
theorem g_X9_join_b55 {p : Program} {l : Launch} {e : Env} {s : State} {m : MethodId} {args : Array Value} {below : List Frame} {meth : Method} {c : Code} {Z : gZ} (hC : gC p l s m args meth c cX9_join 7 RX9 (some .int) Z)   (M : gM) (a1 : Int32) (a2 : Int32) (a3 : Int32) (t1 : Int32) : gW p l e rm_X9_join s m args below meth c 7 Z 1 0 0 M 55 [(0, .ref (zad Z 9)), (1, .int a1), (2, .int a2), (3, .int a3)] [.int t1, .ref (zad Z 9)] (f_X9_join_b55  M a1 a2 a3 t1) := by
  unfold f_X9_join_b55
  refine g_callVi (n := 1) hC [.int t1] 9 9 (by decide) rfl rfl (fun hne => c_X9_refused hC.2.2.2.2.2.2.2.1 Z M t1 hne) lk_X9_155 mw_X9_refused.1 mw_X9_refused.2.1 mw_X9_refused.2.2.1 mw_X9_refused.2.2.2 ⟨rfl, by decide, by decide, by decide +kernel⟩ rfl rfl ⟨by decide, by decide⟩ rfl rfl (Nat.le_of_ble_eq_true rfl) (by decide) (by decide) (by decide) dX9_join_55 (fun x8 M7 => ?_)
  refine g_if_eq (tgt := 63) hC dX9_join_58 (by decide) (fun _ => ?_) (fun _ => ?_)
  · refine g_aload_n hC 0 dX9_join_63 rfl rfl ?_
    refine gf_X9_26 hC dX9_join_64 ?_
    refine g_bipush hC (v := 16) dX9_join_67 (by decide) ?_
    refine g_iload_n hC 1 dX9_join_69 rfl rfl ?_
    refine g_imul hC dX9_join_70 ?_
    refine g_iload_n hC 2 dX9_join_71 rfl rfl ?_
    refine g_iadd hC dX9_join_72 ?_
    refine g_iload_n hC 3 dX9_join_73 rfl rfl ?_
    refine g_iast hC 107 (by decide) rfl dX9_join_74 (fun M9 => ?_)
    refine g_aload_n hC 0 dX9_join_75 rfl rfl ?_
    refine gf_X9_29 hC dX9_join_76 ?_
    refine g_bipush hC (v := 16) dX9_join_79 (by decide) ?_
    refine g_iload_n hC 1 dX9_join_81 rfl rfl ?_
    refine g_imul hC dX9_join_82 ?_
    refine g_iload_n hC 2 dX9_join_83 rfl rfl ?_
    refine g_iadd hC dX9_join_84 ?_
    refine g_aload_n hC 0 dX9_join_85 rfl rfl ?_
    refine gf_X9_152 hC dX9_join_86 ?_
    refine g_iast hC 108 (by decide) rfl dX9_join_89 (fun M10 => ?_)
    refine g_iconst hC (v := 0) dX9_join_90 (by decide) ?_
    refine g_istore hC (lv1 := [(5, .int 0), (0, .ref (zad Z 9)), (1, .int a1), (2, .int a2), (3, .int a3)]) dX9_join_91 (by decide) rfl ?_
    refine g_iconst hC (v := 0) dX9_join_93 (by decide) ?_
    refine g_istore hC (lv1 := [(6, .int 0), (5, .int 0), (0, .ref (zad Z 9)), (1, .int a1), (2, .int a2), (3, .int a3)]) dX9_join_94 (by decide) rfl ?_
    refine g_sub (lv1 := [(0, .ref (zad Z 9)), (1, .int a1), (5, .int 0), (6, .int 0)]) [2, 3, 1, 0] rfl ?_
    exact g_X9_join_l96 hC  5000 M10 a1 0 0
  · refine g_iconst hC (v := 0) dX9_join_61 (by decide) ?_
    exact g_iret hC rfl (by decide) dX9_join_62
set_option maxRecDepth 20000 in
set_option maxHeartbeats 4000000 in
theorem g_X9_join_b29 {p : Program} {l : Launch} {e : Env} {s : State} {m : MethodId} {args : Array Value} {below : List Frame} {meth : Method} {c : Code} {Z : gZ} (hC : gC p l s m args meth c cX9_join 7 RX9 (some .int) Z)   (M : gM) (a1 : Int32) (a2 : Int32) (a3 : Int32) (t0 : Int32) : gW p l e rm_X9_join s m args below meth c 7 Z 1 0 0 M 29 [(0, .ref (zad Z 9)), (1, .int a1), (2, .int a2), (3, .int a3)] [.int t0] (f_X9_join_b29  M a1 a2 a3 t0) := by
  unfold f_X9_join_b29
  refine g_istore hC (lv1 := [(4, .int t0), (0, .ref (zad Z 9)), (1, .int a1), (2, .int a2), (3, .int a3)]) dX9_join_29 (by decide) rfl ?_
  refine g_aload_n hC 1 dX9_join_31 rfl rfl ?_
  refine g_iload hC 0 dX9_join_32 rfl ?_
  refine g_if_ne (tgt := 41) hC dX9_join_34 (by decide) (fun _ => ?_) (fun _ => ?_)
  · refine g_iconst hC (v := 1) dX9_join_37 (by decide) ?_
    refine g_goto (tgt := 55) hC dX9_join_38 (by decide) ?_
    refine g_sub (lv1 := [(0, .ref (zad Z 9)), (1, .int a1), (2, .int a2), (3, .int a3)]) [1, 2, 3, 4] rfl ?_
    exact g_X9_join_b55 hC  M a1 a2 a3 1
  · refine g_aload_n hC 1 dX9_join_41 rfl rfl ?_
    refine g_iload_n hC 2 dX9_join_42 rfl rfl ?_
    refine g_iload_n hC 3 dX9_join_43 rfl rfl ?_
    refine g_callVi (n := 2) hC [.int a1, .int a2] 9 9 (by decide) rfl rfl (fun hne => c_X9_isParty hC.2.2.2.2.2.2.2.1 Z M a1 a2 hne) lk_X9_187 mw_X9_isParty.1 mw_X9_isParty.2.1 mw_X9_isParty.2.2.1 mw_X9_isParty.2.2.2 ⟨rfl, by decide, by decide, by decide +kernel⟩ rfl rfl ⟨by decide, by decide⟩ rfl rfl (Nat.le_of_ble_eq_true rfl) (by decide) (by decide) (by decide) dX9_join_44 (fun x12 M11 => ?_)
    refine g_if_eq (tgt := 54) hC dX9_join_47 (by decide) (fun _ => ?_) (fun _ => ?_)
    · refine g_iconst hC (v := 0) dX9_join_54 (by decide) ?_
      refine g_sub (lv1 := [(0, .ref (zad Z 9)), (1, .int a1), (2, .int a2), (3, .int a3)]) [1, 2, 3, 4] rfl ?_
      exact g_X9_join_b55 hC  M11 a1 a2 a3 0
    · refine g_iconst hC (v := 2) dX9_join_50 (by decide) ?_
      refine g_goto (tgt := 55) hC dX9_join_51 (by decide) ?_
      refine g_sub (lv1 := [(0, .ref (zad Z 9)), (1, .int a1), (2, .int a2), (3, .int a3)]) [1, 2, 3, 4] rfl ?_
      exact g_X9_join_b55 hC  M11 a1 a2 a3 2
set_option maxRecDepth 20000 in
set_option maxHeartbeats 4000000 in
theorem g_X9_join_b28 {p : Program} {l : Launch} {e : Env} {s : State} {m : MethodId} {args : Array Value} {below : List Frame} {meth : Method} {c : Code} {Z : gZ} (hC : gC p l s m args meth c cX9_join 7 RX9 (some .int) Z)   (M : gM) (a1 : Int32) (a2 : Int32) (a3 : Int32)  : gW p l e rm_X9_join s m args below meth c 7 Z 1 0 0 M 28 [(0, .ref (zad Z 9)), (1, .int a1), (2, .int a2), (3, .int a3)] [] (f_X9_join_b28  M a1 a2 a3 ) := by
  unfold f_X9_join_b28
  refine g_iconst hC (v := 0) dX9_join_28 (by decide) ?_
  exact g_X9_join_b29 hC  M a1 a2 a3 0
set_option maxRecDepth 20000 in
set_option maxHeartbeats 4000000 in
theorem c_X9_join {l : Launch} (hfl : l.stackTraces = false) (Z : gZ) (M : gM) (a1 : Int32) (a2 : Int32) (a3 : Int32) : gMet l yX9_join cX9_join 7 (some .int) rm_X9_join 1 0 Z M [.ref (zad Z 9), .int a1, .int a2, .int a3] (f_X9_join M a1 a2 a3) := by
  refine g_enter hfl (by decide) (Nat.le_of_ble_eq_true rfl) (fun p e s m args below meth c hC => ?_)
  refine g_eq (F := f_X9_join M a1 a2 a3) rfl ?_
  refine g_lv0 (lv1 := [(0, .ref (zad Z 9)), (1, .int a1), (2, .int a2), (3, .int a3)]) rfl ?_
  unfold f_X9_join
  refine g_aload_n hC 0 dX9_join_0 rfl rfl ?_
  refine g_iload_n hC 1 dX9_join_1 rfl rfl ?_
  refine g_callVi (n := 1) hC [.int a1] 9 9 (by decide) rfl rfl (fun hne => c_X9_isCase hC.2.2.2.2.2.2.2.1 Z M a1 hne) lk_X9_181 mw_X9_isCase.1 mw_X9_isCase.2.1 mw_X9_isCase.2.2.1 mw_X9_isCase.2.2.2 ⟨rfl, by decide, by decide, by decide +kernel⟩ rfl rfl ⟨by decide, by decide⟩ rfl rfl (Nat.le_of_ble_eq_true rfl) (by decide) (by decide) (by decide) dX9_join_2 (fun x14 M13 => ?_)
  refine g_if_eq (tgt := 28) hC dX9_join_5 (by decide) (fun _ => ?_) (fun _ => ?_)
  · exact g_X9_join_b28 hC  M13 a1 a2 a3
  · refine g_iload_n hC 2 dX9_join_8 rfl rfl ?_
    refine g_callSi (n := 1) hC [.int a2] (fun hne => c_X9_isPerson hC.2.2.2.2.2.2.2.1 Z M13 a2 hne) lk_X9_184 mw_X9_isPerson.1 mw_X9_isPerson.2.1 mw_X9_isPerson.2.2 ⟨by decide, by decide, by decide +kernel⟩ rfl rfl ⟨by decide, by decide⟩ rfl rfl (Nat.le_of_ble_eq_true rfl) (by decide) (by decide) (by decide) dX9_join_9 (fun x16 M15 => ?_)
    refine g_if_eq (tgt := 28) hC dX9_join_12 (by decide) (fun _ => ?_) (fun _ => ?_)
    · exact g_X9_join_b28 hC  M15 a1 a2 a3
    · refine g_iload_n hC 3 dX9_join_15 rfl rfl ?_
      refine g_iconst hC (v := 0) dX9_join_16 (by decide) ?_
      refine g_iconst hC (v := 1) dX9_join_17 (by decide) ?_
      refine g_callSi (n := 3) hC [.int a3, .int 0, .int 1] (fun hne => c_X9_within hC.2.2.2.2.2.2.2.1 Z M15 a3 0 1 hne) lk_X9_148 mw_X9_within.1 mw_X9_within.2.1 mw_X9_within.2.2 ⟨by decide, by decide, by decide +kernel⟩ rfl rfl ⟨by decide, by decide⟩ rfl rfl (Nat.le_of_ble_eq_true rfl) (by decide) (by decide) (by decide) dX9_join_18 (fun x18 M17 => ?_)
      refine g_if_eq (tgt := 28) hC dX9_join_21 (by decide) (fun _ => ?_) (fun _ => ?_)
      · exact g_X9_join_b28 hC  M17 a1 a2 a3
      · refine g_iconst hC (v := 1) dX9_join_24 (by decide) ?_
        refine g_goto (tgt := 29) hC dX9_join_25 (by decide) ?_
        exact g_X9_join_b29 hC  M17 a1 a2 a3 1

-- ===== X9_leads =====
def f_X9_leads_b26 (self4 : gM → Int32 → Int32 → Int32 → gR) (M : gM) (a1 : Int32) (a3 : Int32)  : gR := (bV (a3 + 1) (fun x1 => (self4 M a1 1 x1)))
def f_X9_leads_lb4  (self4 : gM → Int32 → Int32 → Int32 → gR) (M : gM) (a1 : Int32) (a2 : Int32) (a3 : Int32) : gR := (if (M 9 6) ≤ a3 then (gZ01 a2 (rRet a2 M)) else (if a2 = 0 then (gI a3 8 (if (M 106 a3.toNatClampNeg) = a1 then (f_X9_leads_b26 self4 M a1 a3 ) else (bV (a3 + 1) (fun x2 => (self4 M a1 0 x2))))) else (f_X9_leads_b26 self4 M a1 a3 )))
def f_X9_leads_l4  : Nat → gM → Int32 → Int32 → Int32 → gR
  | 0, _, _, _, _ => rStuck
  | n + 1, M, a1, a2, a3 => f_X9_leads_lb4  (f_X9_leads_l4  n) M a1 a2 a3
def f_X9_leads (M : gM) (a1 : Int32) : gR := (f_X9_leads_l4  5000 M a1 0 0)
abbrev rm_X9_leads : Room := { frames := 0, cells := 0, slots := 0, locals := 0 }
set_option maxRecDepth 20000 in
set_option maxHeartbeats 4000000 in
theorem g_X9_leads_b26 {p : Program} {l : Launch} {e : Env} {s : State} {m : MethodId} {args : Array Value} {below : List Frame} {meth : Method} {c : Code} {Z : gZ} (hC : gC p l s m args meth c cX9_leads 4 RX9 (some .boolean) Z) {self4 : gM → Int32 → Int32 → Int32 → gR} (hs4 : ∀ (M : gM) (a1 : Int32) (a2 : Int32) (a3 : Int32) , gW p l e rm_X9_leads s m args below meth c 4 Z 1 0 0 M 4 [(0, .ref (zad Z 9)), (1, .int a1), (2, .int a2), (3, .int a3)] [] (self4 M a1 a2 a3)) (M : gM) (a1 : Int32) (a3 : Int32)  : gW p l e rm_X9_leads s m args below meth c 4 Z 1 0 0 M 26 [(0, .ref (zad Z 9)), (1, .int a1), (3, .int a3)] [] (f_X9_leads_b26 self4 M a1 a3 ) := by
  unfold f_X9_leads_b26
  refine g_iconst hC (v := 1) dX9_leads_26 (by decide) ?_
  refine g_goto (tgt := 31) hC dX9_leads_27 (by decide) ?_
  refine g_istore_n hC (lv1 := [(2, .int 1), (0, .ref (zad Z 9)), (1, .int a1), (3, .int a3)]) dX9_leads_31 rfl (by decide) rfl ?_
  refine g_iinc hC 3 (v := 1) (fun x1 => [(3, .int x1), (2, .int 1), (0, .ref (zad Z 9)), (1, .int a1)]) dX9_leads_32 rfl (by decide) (by decide) (fun _ => rfl) (fun x1 => ?_)
  refine g_goto (tgt := 4) hC dX9_leads_35 (by decide) ?_
  refine g_sub (lv1 := [(0, .ref (zad Z 9)), (1, .int a1), (2, .int 1), (3, .int x1)]) [2, 3, 1, 0] rfl ?_
  exact hs4 M a1 1 x1
set_option maxRecDepth 20000 in
set_option maxHeartbeats 4000000 in
theorem g_X9_leads_lb4 {p : Program} {l : Launch} {e : Env} {s : State} {m : MethodId} {args : Array Value} {below : List Frame} {meth : Method} {c : Code} {Z : gZ} (hC : gC p l s m args meth c cX9_leads 4 RX9 (some .boolean) Z)  {self4 : gM → Int32 → Int32 → Int32 → gR}  (hs4 : ∀ (M : gM) (a1 : Int32) (a2 : Int32) (a3 : Int32) , gW p l e rm_X9_leads s m args below meth c 4 Z 1 0 0 M 4 [(0, .ref (zad Z 9)), (1, .int a1), (2, .int a2), (3, .int a3)] [] (self4 M a1 a2 a3)) (M : gM) (a1 : Int32) (a2 : Int32) (a3 : Int32) : gW p l e rm_X9_leads s m args below meth c 4 Z 1 0 0 M 4 [(0, .ref (zad Z 9)), (1, .int a1), (2, .int a2), (3, .int a3)] [] (f_X9_leads_lb4  self4 M a1 a2 a3) := by
  unfold f_X9_leads_lb4
  refine g_iload_n hC 3 dX9_leads_4 rfl rfl ?_
  refine g_aload_n hC 0 dX9_leads_5 rfl rfl ?_
  refine gf_X9_165 hC dX9_leads_6 ?_
  refine g_icmp_ge (tgt := 38) hC dX9_leads_9 (by decide) (fun _ => ?_) (fun _ => ?_)
  · refine g_iload_n hC 2 dX9_leads_38 rfl rfl ?_
    exact g_zret hC rfl (by decide) dX9_leads_39
  · refine g_iload_n hC 2 dX9_leads_12 rfl rfl ?_
    refine g_if_ne (tgt := 26) hC dX9_leads_13 (by decide) (fun _ => ?_) (fun _ => ?_)
    · refine g_aload_n hC 0 dX9_leads_16 rfl rfl ?_
      refine gf_X9_23 hC dX9_leads_17 ?_
      refine g_iload_n hC 3 dX9_leads_20 rfl rfl ?_
      refine g_iald hC 106 (by decide) rfl dX9_leads_21 ?_
      refine g_iload_n hC 1 dX9_leads_22 rfl rfl ?_
      refine g_icmp_ne (tgt := 30) hC dX9_leads_23 (by decide) (fun _ => ?_) (fun _ => ?_)
      · refine g_sub (lv1 := [(0, .ref (zad Z 9)), (1, .int a1), (3, .int a3)]) [0, 1, 3] rfl ?_
        exact g_X9_leads_b26 hC hs4 M a1 a3 
      · refine g_iconst hC (v := 0) dX9_leads_30 (by decide) ?_
        refine g_istore_n hC (lv1 := [(2, .int 0), (0, .ref (zad Z 9)), (1, .int a1), (3, .int a3)]) dX9_leads_31 rfl (by decide) rfl ?_
        refine g_iinc hC 3 (v := 1) (fun x2 => [(3, .int x2), (2, .int 0), (0, .ref (zad Z 9)), (1, .int a1)]) dX9_leads_32 rfl (by decide) (by decide) (fun _ => rfl) (fun x2 => ?_)
        refine g_goto (tgt := 4) hC dX9_leads_35 (by decide) ?_
        refine g_sub (lv1 := [(0, .ref (zad Z 9)), (1, .int a1), (2, .int 0), (3, .int x2)]) [2, 3, 1, 0] rfl ?_
        exact hs4 M a1 0 x2
    · refine g_sub (lv1 := [(0, .ref (zad Z 9)), (1, .int a1), (3, .int a3)]) [0, 1, 3] rfl ?_
      exact g_X9_leads_b26 hC hs4 M a1 a3 
set_option maxRecDepth 20000 in
set_option maxHeartbeats 4000000 in
theorem g_X9_leads_l4 {p : Program} {l : Launch} {e : Env} {s : State} {m : MethodId} {args : Array Value} {below : List Frame} {meth : Method} {c : Code} {Z : gZ} (hC : gC p l s m args meth c cX9_leads 4 RX9 (some .boolean) Z)   : ∀ (n : Nat) (M : gM) (a1 : Int32) (a2 : Int32) (a3 : Int32), gW p l e rm_X9_leads s m args below meth c 4 Z 1 0 0 M 4 [(0, .ref (zad Z 9)), (1, .int a1), (2, .int a2), (3, .int a3)] [] (f_X9_leads_l4  n M a1 a2 a3)
  | 0, _, _, _, _ => g_stuck
  | n + 1, M, a1, a2, a3 => g_X9_leads_lb4 hC  (g_X9_leads_l4 hC  n) M a1 a2 a3
set_option maxRecDepth 20000 in
set_option maxHeartbeats 4000000 in
theorem c_X9_leads {l : Launch} (hfl : l.stackTraces = false) (Z : gZ) (M : gM) (a1 : Int32) : gMet l yX9_leads cX9_leads 4 (some .boolean) rm_X9_leads 1 0 Z M [.ref (zad Z 9), .int a1] (f_X9_leads M a1) := by
  refine g_enter hfl (by decide) (Nat.le_of_ble_eq_true rfl) (fun p e s m args below meth c hC => ?_)
  refine g_eq (F := f_X9_leads M a1) rfl ?_
  refine g_lv0 (lv1 := [(0, .ref (zad Z 9)), (1, .int a1)]) rfl ?_
  unfold f_X9_leads
  refine g_iconst hC (v := 0) dX9_leads_0 (by decide) ?_
  refine g_istore_n hC (lv1 := [(2, .int 0), (0, .ref (zad Z 9)), (1, .int a1)]) dX9_leads_1 rfl (by decide) rfl ?_
  refine g_iconst hC (v := 0) dX9_leads_2 (by decide) ?_
  refine g_istore_n hC (lv1 := [(3, .int 0), (2, .int 0), (0, .ref (zad Z 9)), (1, .int a1)]) dX9_leads_3 rfl (by decide) rfl ?_
  refine g_sub (lv1 := [(0, .ref (zad Z 9)), (1, .int a1), (2, .int 0), (3, .int 0)]) [2, 3, 1, 0] rfl ?_
  exact g_X9_leads_l4 hC  5000 M a1 0 0

-- ===== X9_lead =====
def f_X9_lead_b85  (M : gM) (a1 : Int32) (a2 : Int32) (t1 : Int32) : gR := (rb (f_X9_refused M t1) (fun x2 M1 => (if x2 = 0 then (gI a1 8 (bV (M1 106 a1.toNatClampNeg) (fun x3 => (gI a1 8 (bM (gset M1 106 a1.toNatClampNeg a2) (fun M4 => (rRet x3 M4))))))) else (rRet 0 M1))))
def f_X9_lead_b64  (M : gM) (a1 : Int32) (a2 : Int32) (a3 : Int32) (t0 : Int32) : gR := (if a3 = 0 then (f_X9_lead_b85  M a1 a2 1) else (if t0 = 0 then (f_X9_lead_b85  M a1 a2 2) else (f_X9_lead_b85  M a1 a2 0)))
def f_X9_lead_b59  (M : gM) (a1 : Int32) (a2 : Int32) (a3 : Int32)  : gR := (f_X9_lead_b64  M a1 a2 a3 1)
def f_X9_lead_b63  (M : gM) (a1 : Int32) (a2 : Int32) (a3 : Int32)  : gR := (f_X9_lead_b64  M a1 a2 a3 0)
def f_X9_lead_b26  (M : gM) (a1 : Int32) (a2 : Int32) (t0 : Int32) : gR := (if t0 = 0 then (f_X9_lead_b63  M a1 a2 t0 ) else (if a2 = (-1) then (f_X9_lead_b59  M a1 a2 t0 ) else (if a1 = a2 then (f_X9_lead_b63  M a1 a2 t0 ) else (rb (f_X9_leads M a1) (fun x6 M5 => (if x6 = 0 then (gI a2 8 (if (M5 106 a2.toNatClampNeg) = (-1) then (f_X9_lead_b59  M5 a1 a2 t0 ) else (f_X9_lead_b63  M5 a1 a2 t0 ))) else (f_X9_lead_b63  M5 a1 a2 t0 )))))))
def f_X9_lead_b21  (M : gM) (a1 : Int32) (a2 : Int32)  : gR := (f_X9_lead_b26  M a1 a2 1)
def f_X9_lead_b25  (M : gM) (a1 : Int32) (a2 : Int32)  : gR := (f_X9_lead_b26  M a1 a2 0)
def f_X9_lead (M : gM) (a1 : Int32) (a2 : Int32) : gR := (rb (f_X9_isCase M a1) (fun x8 M7 => (if x8 = 0 then (f_X9_lead_b25  M7 a1 a2 ) else (if a2 = (-1) then (f_X9_lead_b21  M7 a1 a2 ) else (rb (f_X9_isCase M7 a2) (fun x10 M9 => (if x10 = 0 then (f_X9_lead_b25  M9 a1 a2 ) else (f_X9_lead_b21  M9 a1 a2 ))))))))
abbrev rm_X9_lead : Room := { frames := 2, cells := 0, slots := 0, locals := 43 }
set_option maxRecDepth 20000 in
set_option maxHeartbeats 4000000 in
theorem g_X9_lead_b85 {p : Program} {l : Launch} {e : Env} {s : State} {m : MethodId} {args : Array Value} {below : List Frame} {meth : Method} {c : Code} {Z : gZ} (hC : gC p l s m args meth c cX9_lead 6 RX9 (some .int) Z)   (M : gM) (a1 : Int32) (a2 : Int32) (t1 : Int32) : gW p l e rm_X9_lead s m args below meth c 6 Z 1 0 0 M 85 [(0, .ref (zad Z 9)), (1, .int a1), (2, .int a2)] [.int t1, .ref (zad Z 9)] (f_X9_lead_b85  M a1 a2 t1) := by
  unfold f_X9_lead_b85
  refine g_callVi (n := 1) hC [.int t1] 9 9 (by decide) rfl rfl (fun hne => c_X9_refused hC.2.2.2.2.2.2.2.1 Z M t1 hne) lk_X9_155 mw_X9_refused.1 mw_X9_refused.2.1 mw_X9_refused.2.2.1 mw_X9_refused.2.2.2 ⟨rfl, by decide, by decide, by decide +kernel⟩ rfl rfl ⟨by decide, by decide⟩ rfl rfl (Nat.le_of_ble_eq_true rfl) (by decide) (by decide) (by decide) dX9_lead_85 (fun x2 M1 => ?_)
  refine g_if_eq (tgt := 93) hC dX9_lead_88 (by decide) (fun _ => ?_) (fun _ => ?_)
  · refine g_aload_n hC 0 dX9_lead_93 rfl rfl ?_
    refine gf_X9_23 hC dX9_lead_94 ?_
    refine g_iload_n hC 1 dX9_lead_97 rfl rfl ?_
    refine g_iald hC 106 (by decide) rfl dX9_lead_98 ?_
    refine g_bv (fun x3 => ?_)
    refine g_istore hC (lv1 := [(5, .int x3), (0, .ref (zad Z 9)), (1, .int a1), (2, .int a2)]) dX9_lead_99 (by decide) rfl ?_
    refine g_aload_n hC 1 dX9_lead_101 rfl rfl ?_
    refine gf_X9_23 hC dX9_lead_102 ?_
    refine g_iload_n hC 2 dX9_lead_105 rfl rfl ?_
    refine g_iload_n hC 3 dX9_lead_106 rfl rfl ?_
    refine g_iast hC 106 (by decide) rfl dX9_lead_107 (fun M4 => ?_)
    refine g_iload hC 0 dX9_lead_108 rfl ?_
    exact g_iret hC rfl (by decide) dX9_lead_110
  · refine g_iconst hC (v := 0) dX9_lead_91 (by decide) ?_
    exact g_iret hC rfl (by decide) dX9_lead_92
set_option maxRecDepth 20000 in
set_option maxHeartbeats 4000000 in
theorem g_X9_lead_b64 {p : Program} {l : Launch} {e : Env} {s : State} {m : MethodId} {args : Array Value} {below : List Frame} {meth : Method} {c : Code} {Z : gZ} (hC : gC p l s m args meth c cX9_lead 6 RX9 (some .int) Z)   (M : gM) (a1 : Int32) (a2 : Int32) (a3 : Int32) (t0 : Int32) : gW p l e rm_X9_lead s m args below meth c 6 Z 1 0 0 M 64 [(0, .ref (zad Z 9)), (1, .int a1), (2, .int a2), (3, .int a3)] [.int t0] (f_X9_lead_b64  M a1 a2 a3 t0) := by
  unfold f_X9_lead_b64
  refine g_istore hC (lv1 := [(4, .int t0), (0, .ref (zad Z 9)), (1, .int a1), (2, .int a2), (3, .int a3)]) dX9_lead_64 (by decide) rfl ?_
  refine g_aload_n hC 1 dX9_lead_66 rfl rfl ?_
  refine g_iload_n hC 4 dX9_lead_67 rfl rfl ?_
  refine g_if_ne (tgt := 75) hC dX9_lead_68 (by decide) (fun _ => ?_) (fun _ => ?_)
  · refine g_iconst hC (v := 1) dX9_lead_71 (by decide) ?_
    refine g_goto (tgt := 85) hC dX9_lead_72 (by decide) ?_
    refine g_sub (lv1 := [(0, .ref (zad Z 9)), (1, .int a1), (2, .int a2)]) [1, 2, 3] rfl ?_
    exact g_X9_lead_b85 hC  M a1 a2 1
  · refine g_iload hC 0 dX9_lead_75 rfl ?_
    refine g_if_ne (tgt := 84) hC dX9_lead_77 (by decide) (fun _ => ?_) (fun _ => ?_)
    · refine g_iconst hC (v := 2) dX9_lead_80 (by decide) ?_
      refine g_goto (tgt := 85) hC dX9_lead_81 (by decide) ?_
      refine g_sub (lv1 := [(0, .ref (zad Z 9)), (1, .int a1), (2, .int a2)]) [1, 2, 3] rfl ?_
      exact g_X9_lead_b85 hC  M a1 a2 2
    · refine g_iconst hC (v := 0) dX9_lead_84 (by decide) ?_
      refine g_sub (lv1 := [(0, .ref (zad Z 9)), (1, .int a1), (2, .int a2)]) [1, 2, 3] rfl ?_
      exact g_X9_lead_b85 hC  M a1 a2 0
set_option maxRecDepth 20000 in
set_option maxHeartbeats 4000000 in
theorem g_X9_lead_b59 {p : Program} {l : Launch} {e : Env} {s : State} {m : MethodId} {args : Array Value} {below : List Frame} {meth : Method} {c : Code} {Z : gZ} (hC : gC p l s m args meth c cX9_lead 6 RX9 (some .int) Z)   (M : gM) (a1 : Int32) (a2 : Int32) (a3 : Int32)  : gW p l e rm_X9_lead s m args below meth c 6 Z 1 0 0 M 59 [(0, .ref (zad Z 9)), (1, .int a1), (2, .int a2), (3, .int a3)] [] (f_X9_lead_b59  M a1 a2 a3 ) := by
  unfold f_X9_lead_b59
  refine g_iconst hC (v := 1) dX9_lead_59 (by decide) ?_
  refine g_goto (tgt := 64) hC dX9_lead_60 (by decide) ?_
  exact g_X9_lead_b64 hC  M a1 a2 a3 1
set_option maxRecDepth 20000 in
set_option maxHeartbeats 4000000 in
theorem g_X9_lead_b63 {p : Program} {l : Launch} {e : Env} {s : State} {m : MethodId} {args : Array Value} {below : List Frame} {meth : Method} {c : Code} {Z : gZ} (hC : gC p l s m args meth c cX9_lead 6 RX9 (some .int) Z)   (M : gM) (a1 : Int32) (a2 : Int32) (a3 : Int32)  : gW p l e rm_X9_lead s m args below meth c 6 Z 1 0 0 M 63 [(0, .ref (zad Z 9)), (1, .int a1), (2, .int a2), (3, .int a3)] [] (f_X9_lead_b63  M a1 a2 a3 ) := by
  unfold f_X9_lead_b63
  refine g_iconst hC (v := 0) dX9_lead_63 (by decide) ?_
  exact g_X9_lead_b64 hC  M a1 a2 a3 0
set_option maxRecDepth 20000 in
set_option maxHeartbeats 4000000 in
theorem g_X9_lead_b26 {p : Program} {l : Launch} {e : Env} {s : State} {m : MethodId} {args : Array Value} {below : List Frame} {meth : Method} {c : Code} {Z : gZ} (hC : gC p l s m args meth c cX9_lead 6 RX9 (some .int) Z)   (M : gM) (a1 : Int32) (a2 : Int32) (t0 : Int32) : gW p l e rm_X9_lead s m args below meth c 6 Z 1 0 0 M 26 [(0, .ref (zad Z 9)), (1, .int a1), (2, .int a2)] [.int t0] (f_X9_lead_b26  M a1 a2 t0) := by
  unfold f_X9_lead_b26
  refine g_istore_n hC (lv1 := [(3, .int t0), (0, .ref (zad Z 9)), (1, .int a1), (2, .int a2)]) dX9_lead_26 rfl (by decide) rfl ?_
  refine g_iload_n hC 0 dX9_lead_27 rfl rfl ?_
  refine g_if_eq (tgt := 63) hC dX9_lead_28 (by decide) (fun _ => ?_) (fun _ => ?_)
  · refine g_sub (lv1 := [(0, .ref (zad Z 9)), (1, .int a1), (2, .int a2), (3, .int t0)]) [1, 2, 3, 0] rfl ?_
    exact g_X9_lead_b63 hC  M a1 a2 t0 
  · refine g_iload_n hC 3 dX9_lead_31 rfl rfl ?_
    refine g_iconst hC (v := (-1)) dX9_lead_32 (by decide) ?_
    refine g_icmp_eq (tgt := 59) hC dX9_lead_33 (by decide) (fun _ => ?_) (fun _ => ?_)
    · refine g_sub (lv1 := [(0, .ref (zad Z 9)), (1, .int a1), (2, .int a2), (3, .int t0)]) [1, 2, 3, 0] rfl ?_
      exact g_X9_lead_b59 hC  M a1 a2 t0 
    · refine g_iload_n hC 2 dX9_lead_36 rfl rfl ?_
      refine g_iload_n hC 3 dX9_lead_37 rfl rfl ?_
      refine g_icmp_eq (tgt := 63) hC dX9_lead_38 (by decide) (fun _ => ?_) (fun _ => ?_)
      · refine g_sub (lv1 := [(0, .ref (zad Z 9)), (1, .int a1), (2, .int a2), (3, .int t0)]) [1, 2, 3, 0] rfl ?_
        exact g_X9_lead_b63 hC  M a1 a2 t0 
      · refine g_aload_n hC 1 dX9_lead_41 rfl rfl ?_
        refine g_iload_n hC 2 dX9_lead_42 rfl rfl ?_
        refine g_callVi (n := 1) hC [.int a1] 9 9 (by decide) rfl rfl (fun hne => c_X9_leads hC.2.2.2.2.2.2.2.1 Z M a1 hne) lk_X9_191 mw_X9_leads.1 mw_X9_leads.2.1 mw_X9_leads.2.2.1 mw_X9_leads.2.2.2 ⟨rfl, by decide, by decide, by decide +kernel⟩ rfl rfl ⟨by decide, by decide⟩ rfl rfl (Nat.le_of_ble_eq_true rfl) (by decide) (by decide) (by decide) dX9_lead_43 (fun x6 M5 => ?_)
        refine g_if_ne (tgt := 63) hC dX9_lead_46 (by decide) (fun _ => ?_) (fun _ => ?_)
        · refine g_aload_n hC 1 dX9_lead_49 rfl rfl ?_
          refine gf_X9_23 hC dX9_lead_50 ?_
          refine g_iload_n hC 3 dX9_lead_53 rfl rfl ?_
          refine g_iald hC 106 (by decide) rfl dX9_lead_54 ?_
          refine g_iconst hC (v := (-1)) dX9_lead_55 (by decide) ?_
          refine g_icmp_ne (tgt := 63) hC dX9_lead_56 (by decide) (fun _ => ?_) (fun _ => ?_)
          · refine g_sub (lv1 := [(0, .ref (zad Z 9)), (1, .int a1), (2, .int a2), (3, .int t0)]) [1, 2, 3, 0] rfl ?_
            exact g_X9_lead_b59 hC  M5 a1 a2 t0 
          · refine g_sub (lv1 := [(0, .ref (zad Z 9)), (1, .int a1), (2, .int a2), (3, .int t0)]) [1, 2, 3, 0] rfl ?_
            exact g_X9_lead_b63 hC  M5 a1 a2 t0 
        · refine g_sub (lv1 := [(0, .ref (zad Z 9)), (1, .int a1), (2, .int a2), (3, .int t0)]) [1, 2, 3, 0] rfl ?_
          exact g_X9_lead_b63 hC  M5 a1 a2 t0 
set_option maxRecDepth 20000 in
set_option maxHeartbeats 4000000 in
theorem g_X9_lead_b21 {p : Program} {l : Launch} {e : Env} {s : State} {m : MethodId} {args : Array Value} {below : List Frame} {meth : Method} {c : Code} {Z : gZ} (hC : gC p l s m args meth c cX9_lead 6 RX9 (some .int) Z)   (M : gM) (a1 : Int32) (a2 : Int32)  : gW p l e rm_X9_lead s m args below meth c 6 Z 1 0 0 M 21 [(0, .ref (zad Z 9)), (1, .int a1), (2, .int a2)] [] (f_X9_lead_b21  M a1 a2 ) := by
  unfold f_X9_lead_b21
  refine g_iconst hC (v := 1) dX9_lead_21 (by decide) ?_
  refine g_goto (tgt := 26) hC dX9_lead_22 (by decide) ?_
  exact g_X9_lead_b26 hC  M a1 a2 1
set_option maxRecDepth 20000 in
set_option maxHeartbeats 4000000 in
theorem g_X9_lead_b25 {p : Program} {l : Launch} {e : Env} {s : State} {m : MethodId} {args : Array Value} {below : List Frame} {meth : Method} {c : Code} {Z : gZ} (hC : gC p l s m args meth c cX9_lead 6 RX9 (some .int) Z)   (M : gM) (a1 : Int32) (a2 : Int32)  : gW p l e rm_X9_lead s m args below meth c 6 Z 1 0 0 M 25 [(0, .ref (zad Z 9)), (1, .int a1), (2, .int a2)] [] (f_X9_lead_b25  M a1 a2 ) := by
  unfold f_X9_lead_b25
  refine g_iconst hC (v := 0) dX9_lead_25 (by decide) ?_
  exact g_X9_lead_b26 hC  M a1 a2 0
set_option maxRecDepth 20000 in
set_option maxHeartbeats 4000000 in
theorem c_X9_lead {l : Launch} (hfl : l.stackTraces = false) (Z : gZ) (M : gM) (a1 : Int32) (a2 : Int32) : gMet l yX9_lead cX9_lead 6 (some .int) rm_X9_lead 1 0 Z M [.ref (zad Z 9), .int a1, .int a2] (f_X9_lead M a1 a2) := by
  refine g_enter hfl (by decide) (Nat.le_of_ble_eq_true rfl) (fun p e s m args below meth c hC => ?_)
  refine g_eq (F := f_X9_lead M a1 a2) rfl ?_
  refine g_lv0 (lv1 := [(0, .ref (zad Z 9)), (1, .int a1), (2, .int a2)]) rfl ?_
  unfold f_X9_lead
  refine g_aload_n hC 0 dX9_lead_0 rfl rfl ?_
  refine g_iload_n hC 1 dX9_lead_1 rfl rfl ?_
  refine g_callVi (n := 1) hC [.int a1] 9 9 (by decide) rfl rfl (fun hne => c_X9_isCase hC.2.2.2.2.2.2.2.1 Z M a1 hne) lk_X9_181 mw_X9_isCase.1 mw_X9_isCase.2.1 mw_X9_isCase.2.2.1 mw_X9_isCase.2.2.2 ⟨rfl, by decide, by decide, by decide +kernel⟩ rfl rfl ⟨by decide, by decide⟩ rfl rfl (Nat.le_of_ble_eq_true rfl) (by decide) (by decide) (by decide) dX9_lead_2 (fun x8 M7 => ?_)
  refine g_if_eq (tgt := 25) hC dX9_lead_5 (by decide) (fun _ => ?_) (fun _ => ?_)
  · exact g_X9_lead_b25 hC  M7 a1 a2
  · refine g_iload_n hC 2 dX9_lead_8 rfl rfl ?_
    refine g_iconst hC (v := (-1)) dX9_lead_9 (by decide) ?_
    refine g_icmp_eq (tgt := 21) hC dX9_lead_10 (by decide) (fun _ => ?_) (fun _ => ?_)
    · exact g_X9_lead_b21 hC  M7 a1 a2
    · refine g_aload_n hC 0 dX9_lead_13 rfl rfl ?_
      refine g_iload_n hC 2 dX9_lead_14 rfl rfl ?_
      refine g_callVi (n := 1) hC [.int a2] 9 9 (by decide) rfl rfl (fun hne => c_X9_isCase hC.2.2.2.2.2.2.2.1 Z M7 a2 hne) lk_X9_181 mw_X9_isCase.1 mw_X9_isCase.2.1 mw_X9_isCase.2.2.1 mw_X9_isCase.2.2.2 ⟨rfl, by decide, by decide, by decide +kernel⟩ rfl rfl ⟨by decide, by decide⟩ rfl rfl (Nat.le_of_ble_eq_true rfl) (by decide) (by decide) (by decide) dX9_lead_15 (fun x10 M9 => ?_)
      refine g_if_eq (tgt := 25) hC dX9_lead_18 (by decide) (fun _ => ?_) (fun _ => ?_)
      · exact g_X9_lead_b25 hC  M9 a1 a2
      · exact g_X9_lead_b21 hC  M9 a1 a2

-- ===== X9_claim =====
def f_X9_claim_b128  (M : gM) (a1 : Int32) (a2 : Int32) (a3 : Int32) (a4 : Int32) (t1 : Int32) : gR := (rb (f_X9_refused M t1) (fun x2 M1 => (if x2 = 0 then (gI (M1 9 11) 24 (bM (gset M1 109 (M1 9 11).toNatClampNeg a1) (fun M3 => (gI (M3 9 11) 24 (bM (gset M3 110 (M3 9 11).toNatClampNeg a2) (fun M4 => (gI (M4 9 11) 24 (bM (gset M4 111 (M4 9 11).toNatClampNeg a3) (fun M5 => (gI (M5 9 11) 24 (bM (gset M5 113 (M5 9 11).toNatClampNeg a4) (fun M6 => (gI (M6 9 11) 24 (bM (gset M6 114 (M6 9 11).toNatClampNeg (-1)) (fun M7 => (gI (M7 9 11) 24 (bM (gset M7 117 (M7 9 11).toNatClampNeg (-1)) (fun M8 => (gI (M8 9 11) 24 (bM (gset M8 119 (M8 9 11).toNatClampNeg (-1)) (fun M9 => (bM (gset M9 9 11 ((M9 9 11) + 1)) (fun M10 => (rRet ((M10 9 11) - 1) M10)))))))))))))))))))))))) else (rRet 0 M1))))
def f_X9_claim_b91  (M : gM) (a1 : Int32) (a2 : Int32) (a3 : Int32) (a4 : Int32) (a5 : Int32) (t0 : Int32) : gR := (if a5 = 0 then (f_X9_claim_b128  M a1 a2 a3 a4 1) else (rb (f_X9_within M a4 1 99999) (fun x12 M11 => (if x12 = 0 then (f_X9_claim_b128  M11 a1 a2 a3 a4 2) else (if t0 = 0 then (f_X9_claim_b128  M11 a1 a2 a3 a4 3) else (f_X9_claim_b128  M11 a1 a2 a3 a4 0))))))
def f_X9_claim_b90  (M : gM) (a1 : Int32) (a2 : Int32) (a3 : Int32) (a4 : Int32) (a5 : Int32)  : gR := (f_X9_claim_b91  M a1 a2 a3 a4 a5 0)
def f_X9_claim_b27  (M : gM) (a1 : Int32) (a2 : Int32) (a3 : Int32) (a4 : Int32) (t0 : Int32) : gR := (if t0 = 0 then (f_X9_claim_b90  M a1 a2 a3 a4 t0 ) else (if 24 ≤ (M 9 11) then (f_X9_claim_b90  M a1 a2 a3 a4 t0 ) else (rb (f_X9_isParty M a1 a2) (fun x14 M13 => (if x14 = 0 then (f_X9_claim_b90  M13 a1 a2 a3 a4 t0 ) else (rb (f_X9_isParty M13 a1 a3) (fun x16 M15 => (if x16 = 0 then (f_X9_claim_b90  M15 a1 a2 a3 a4 t0 ) else (gI ((16 * a1) + a2) 128 (gI ((16 * a1) + a3) 128 (if (M15 107 ((16 * a1) + a2).toNatClampNeg) = (M15 107 ((16 * a1) + a3).toNatClampNeg) then (f_X9_claim_b90  M15 a1 a2 a3 a4 t0 ) else (f_X9_claim_b91  M15 a1 a2 a3 a4 t0 1))))))))))))
def f_X9_claim_b26  (M : gM) (a1 : Int32) (a2 : Int32) (a3 : Int32) (a4 : Int32)  : gR := (f_X9_claim_b27  M a1 a2 a3 a4 0)
def f_X9_claim (M : gM) (a1 : Int32) (a2 : Int32) (a3 : Int32) (a4 : Int32) : gR := (rb (f_X9_isCase M a1) (fun x18 M17 => (if x18 = 0 then (f_X9_claim_b26  M17 a1 a2 a3 a4 ) else (rb (f_X9_isPerson M17 a2) (fun x20 M19 => (if x20 = 0 then (f_X9_claim_b26  M19 a1 a2 a3 a4 ) else (rb (f_X9_isPerson M19 a3) (fun x22 M21 => (if x22 = 0 then (f_X9_claim_b26  M21 a1 a2 a3 a4 ) else (f_X9_claim_b27  M21 a1 a2 a3 a4 1))))))))))
abbrev rm_X9_claim : Room := { frames := 2, cells := 0, slots := 0, locals := 43 }
set_option maxRecDepth 20000 in
set_option maxHeartbeats 4000000 in
theorem g_X9_claim_b128 {p : Program} {l : Launch} {e : Env} {s : State} {m : MethodId} {args : Array Value} {below : List Frame} {meth : Method} {c : Code} {Z : gZ} (hC : gC p l s m args meth c cX9_claim 7 RX9 (some .int) Z)   (M : gM) (a1 : Int32) (a2 : Int32) (a3 : Int32) (a4 : Int32) (t1 : Int32) : gW p l e rm_X9_claim s m args below meth c 7 Z 1 0 0 M 128 [(0, .ref (zad Z 9)), (1, .int a1), (2, .int a2), (3, .int a3), (4, .int a4)] [.int t1, .ref (zad Z 9)] (f_X9_claim_b128  M a1 a2 a3 a4 t1) := by
  unfold f_X9_claim_b128
  refine g_callVi (n := 1) hC [.int t1] 9 9 (by decide) rfl rfl (fun hne => c_X9_refused hC.2.2.2.2.2.2.2.1 Z M t1 hne) lk_X9_155 mw_X9_refused.1 mw_X9_refused.2.1 mw_X9_refused.2.2.1 mw_X9_refused.2.2.2 ⟨rfl, by decide, by decide, by decide +kernel⟩ rfl rfl ⟨by decide, by decide⟩ rfl rfl (Nat.le_of_ble_eq_true rfl) (by decide) (by decide) (by decide) dX9_claim_128 (fun x2 M1 => ?_)
  refine g_if_eq (tgt := 136) hC dX9_claim_131 (by decide) (fun _ => ?_) (fun _ => ?_)
  · refine g_aload_n hC 0 dX9_claim_136 rfl rfl ?_
    refine gf_X9_32 hC dX9_claim_137 ?_
    refine g_aload_n hC 0 dX9_claim_140 rfl rfl ?_
    refine gf_X9_168 hC dX9_claim_141 ?_
    refine g_iload_n hC 1 dX9_claim_144 rfl rfl ?_
    refine g_iast hC 109 (by decide) rfl dX9_claim_145 (fun M3 => ?_)
    refine g_aload_n hC 0 dX9_claim_146 rfl rfl ?_
    refine gf_X9_35 hC dX9_claim_147 ?_
    refine g_aload_n hC 0 dX9_claim_150 rfl rfl ?_
    refine gf_X9_168 hC dX9_claim_151 ?_
    refine g_iload_n hC 2 dX9_claim_154 rfl rfl ?_
    refine g_iast hC 110 (by decide) rfl dX9_claim_155 (fun M4 => ?_)
    refine g_aload_n hC 0 dX9_claim_156 rfl rfl ?_
    refine gf_X9_38 hC dX9_claim_157 ?_
    refine g_aload_n hC 0 dX9_claim_160 rfl rfl ?_
    refine gf_X9_168 hC dX9_claim_161 ?_
    refine g_iload_n hC 3 dX9_claim_164 rfl rfl ?_
    refine g_iast hC 111 (by decide) rfl dX9_claim_165 (fun M5 => ?_)
    refine g_aload_n hC 0 dX9_claim_166 rfl rfl ?_
    refine gf_X9_44 hC dX9_claim_167 ?_
    refine g_aload_n hC 0 dX9_claim_170 rfl rfl ?_
    refine gf_X9_168 hC dX9_claim_171 ?_
    refine g_iload hC 4 dX9_claim_174 rfl ?_
    refine g_iast hC 113 (by decide) rfl dX9_claim_176 (fun M6 => ?_)
    refine g_aload_n hC 0 dX9_claim_177 rfl rfl ?_
    refine gf_X9_47 hC dX9_claim_178 ?_
    refine g_aload_n hC 0 dX9_claim_181 rfl rfl ?_
    refine gf_X9_168 hC dX9_claim_182 ?_
    refine g_iconst hC (v := (-1)) dX9_claim_185 (by decide) ?_
    refine g_iast hC 114 (by decide) rfl dX9_claim_186 (fun M7 => ?_)
    refine g_aload_n hC 0 dX9_claim_187 rfl rfl ?_
    refine gf_X9_56 hC dX9_claim_188 ?_
    refine g_aload_n hC 0 dX9_claim_191 rfl rfl ?_
    refine gf_X9_168 hC dX9_claim_192 ?_
    refine g_iconst hC (v := (-1)) dX9_claim_195 (by decide) ?_
    refine g_iast hC 117 (by decide) rfl dX9_claim_196 (fun M8 => ?_)
    refine g_aload_n hC 0 dX9_claim_197 rfl rfl ?_
    refine gf_X9_62 hC dX9_claim_198 ?_
    refine g_aload_n hC 0 dX9_claim_201 rfl rfl ?_
    refine gf_X9_168 hC dX9_claim_202 ?_
    refine g_iconst hC (v := (-1)) dX9_claim_205 (by decide) ?_
    refine g_iast hC 119 (by decide) rfl dX9_claim_206 (fun M9 => ?_)
    refine g_aload_n hC 0 dX9_claim_207 rfl rfl ?_
    refine g_dup hC dX9_claim_208 rfl ?_
    refine gf_X9_168 hC dX9_claim_209 ?_
    refine g_iconst hC (v := 1) dX9_claim_212 (by decide) ?_
    refine g_iadd hC dX9_claim_213 ?_
    refine gp_X9_168 hC dX9_claim_214 (fun M10 => ?_)
    refine g_aload_n hC 0 dX9_claim_217 rfl rfl ?_
    refine gf_X9_168 hC dX9_claim_218 ?_
    refine g_iconst hC (v := 1) dX9_claim_221 (by decide) ?_
    refine g_isub hC dX9_claim_222 ?_
    exact g_iret hC rfl (by decide) dX9_claim_223
  · refine g_iconst hC (v := 0) dX9_claim_134 (by decide) ?_
    exact g_iret hC rfl (by decide) dX9_claim_135
set_option maxRecDepth 20000 in
set_option maxHeartbeats 4000000 in
theorem g_X9_claim_b91 {p : Program} {l : Launch} {e : Env} {s : State} {m : MethodId} {args : Array Value} {below : List Frame} {meth : Method} {c : Code} {Z : gZ} (hC : gC p l s m args meth c cX9_claim 7 RX9 (some .int) Z)   (M : gM) (a1 : Int32) (a2 : Int32) (a3 : Int32) (a4 : Int32) (a5 : Int32) (t0 : Int32) : gW p l e rm_X9_claim s m args below meth c 7 Z 1 0 0 M 91 [(0, .ref (zad Z 9)), (1, .int a1), (2, .int a2), (3, .int a3), (4, .int a4), (5, .int a5)] [.int t0] (f_X9_claim_b91  M a1 a2 a3 a4 a5 t0) := by
  unfold f_X9_claim_b91
  refine g_istore hC (lv1 := [(6, .int t0), (0, .ref (zad Z 9)), (1, .int a1), (2, .int a2), (3, .int a3), (4, .int a4), (5, .int a5)]) dX9_claim_91 (by decide) rfl ?_
  refine g_aload_n hC 1 dX9_claim_93 rfl rfl ?_
  refine g_iload hC 6 dX9_claim_94 rfl ?_
  refine g_if_ne (tgt := 103) hC dX9_claim_96 (by decide) (fun _ => ?_) (fun _ => ?_)
  · refine g_iconst hC (v := 1) dX9_claim_99 (by decide) ?_
    refine g_goto (tgt := 128) hC dX9_claim_100 (by decide) ?_
    refine g_sub (lv1 := [(0, .ref (zad Z 9)), (1, .int a1), (2, .int a2), (3, .int a3), (4, .int a4)]) [1, 2, 3, 4, 5] rfl ?_
    exact g_X9_claim_b128 hC  M a1 a2 a3 a4 1
  · refine g_iload hC 5 dX9_claim_103 rfl ?_
    refine g_iconst hC (v := 1) dX9_claim_105 (by decide) ?_
    refine g_ldc hC (v := 99999) (gIn (by decide +kernel) (by decide +kernel)) dX9_claim_106 ?_
    refine g_callSi (n := 3) hC [.int a4, .int 1, .int 99999] (fun hne => c_X9_within hC.2.2.2.2.2.2.2.1 Z M a4 1 99999 hne) lk_X9_148 mw_X9_within.1 mw_X9_within.2.1 mw_X9_within.2.2 ⟨by decide, by decide, by decide +kernel⟩ rfl rfl ⟨by decide, by decide⟩ rfl rfl (Nat.le_of_ble_eq_true rfl) (by decide) (by decide) (by decide) dX9_claim_108 (fun x12 M11 => ?_)
    refine g_if_ne (tgt := 118) hC dX9_claim_111 (by decide) (fun _ => ?_) (fun _ => ?_)
    · refine g_iconst hC (v := 2) dX9_claim_114 (by decide) ?_
      refine g_goto (tgt := 128) hC dX9_claim_115 (by decide) ?_
      refine g_sub (lv1 := [(0, .ref (zad Z 9)), (1, .int a1), (2, .int a2), (3, .int a3), (4, .int a4)]) [1, 2, 3, 4, 5] rfl ?_
      exact g_X9_claim_b128 hC  M11 a1 a2 a3 a4 2
    · refine g_iload hC 0 dX9_claim_118 rfl ?_
      refine g_if_ne (tgt := 127) hC dX9_claim_120 (by decide) (fun _ => ?_) (fun _ => ?_)
      · refine g_iconst hC (v := 3) dX9_claim_123 (by decide) ?_
        refine g_goto (tgt := 128) hC dX9_claim_124 (by decide) ?_
        refine g_sub (lv1 := [(0, .ref (zad Z 9)), (1, .int a1), (2, .int a2), (3, .int a3), (4, .int a4)]) [1, 2, 3, 4, 5] rfl ?_
        exact g_X9_claim_b128 hC  M11 a1 a2 a3 a4 3
      · refine g_iconst hC (v := 0) dX9_claim_127 (by decide) ?_
        refine g_sub (lv1 := [(0, .ref (zad Z 9)), (1, .int a1), (2, .int a2), (3, .int a3), (4, .int a4)]) [1, 2, 3, 4, 5] rfl ?_
        exact g_X9_claim_b128 hC  M11 a1 a2 a3 a4 0
set_option maxRecDepth 20000 in
set_option maxHeartbeats 4000000 in
theorem g_X9_claim_b90 {p : Program} {l : Launch} {e : Env} {s : State} {m : MethodId} {args : Array Value} {below : List Frame} {meth : Method} {c : Code} {Z : gZ} (hC : gC p l s m args meth c cX9_claim 7 RX9 (some .int) Z)   (M : gM) (a1 : Int32) (a2 : Int32) (a3 : Int32) (a4 : Int32) (a5 : Int32)  : gW p l e rm_X9_claim s m args below meth c 7 Z 1 0 0 M 90 [(0, .ref (zad Z 9)), (1, .int a1), (2, .int a2), (3, .int a3), (4, .int a4), (5, .int a5)] [] (f_X9_claim_b90  M a1 a2 a3 a4 a5 ) := by
  unfold f_X9_claim_b90
  refine g_iconst hC (v := 0) dX9_claim_90 (by decide) ?_
  exact g_X9_claim_b91 hC  M a1 a2 a3 a4 a5 0
set_option maxRecDepth 20000 in
set_option maxHeartbeats 4000000 in
theorem g_X9_claim_b27 {p : Program} {l : Launch} {e : Env} {s : State} {m : MethodId} {args : Array Value} {below : List Frame} {meth : Method} {c : Code} {Z : gZ} (hC : gC p l s m args meth c cX9_claim 7 RX9 (some .int) Z)   (M : gM) (a1 : Int32) (a2 : Int32) (a3 : Int32) (a4 : Int32) (t0 : Int32) : gW p l e rm_X9_claim s m args below meth c 7 Z 1 0 0 M 27 [(0, .ref (zad Z 9)), (1, .int a1), (2, .int a2), (3, .int a3), (4, .int a4)] [.int t0] (f_X9_claim_b27  M a1 a2 a3 a4 t0) := by
  unfold f_X9_claim_b27
  refine g_istore hC (lv1 := [(5, .int t0), (0, .ref (zad Z 9)), (1, .int a1), (2, .int a2), (3, .int a3), (4, .int a4)]) dX9_claim_27 (by decide) rfl ?_
  refine g_iload hC 0 dX9_claim_29 rfl ?_
  refine g_if_eq (tgt := 90) hC dX9_claim_31 (by decide) (fun _ => ?_) (fun _ => ?_)
  · refine g_sub (lv1 := [(0, .ref (zad Z 9)), (1, .int a1), (2, .int a2), (3, .int a3), (4, .int a4), (5, .int t0)]) [1, 2, 3, 4, 5, 0] rfl ?_
    exact g_X9_claim_b90 hC  M a1 a2 a3 a4 t0 
  · refine g_aload_n hC 1 dX9_claim_34 rfl rfl ?_
    refine gf_X9_168 hC dX9_claim_35 ?_
    refine g_bipush hC (v := 24) dX9_claim_38 (by decide) ?_
    refine g_icmp_ge (tgt := 90) hC dX9_claim_40 (by decide) (fun _ => ?_) (fun _ => ?_)
    · refine g_sub (lv1 := [(0, .ref (zad Z 9)), (1, .int a1), (2, .int a2), (3, .int a3), (4, .int a4), (5, .int t0)]) [1, 2, 3, 4, 5, 0] rfl ?_
      exact g_X9_claim_b90 hC  M a1 a2 a3 a4 t0 
    · refine g_aload_n hC 1 dX9_claim_43 rfl rfl ?_
      refine g_iload_n hC 2 dX9_claim_44 rfl rfl ?_
      refine g_iload_n hC 3 dX9_claim_45 rfl rfl ?_
      refine g_callVi (n := 2) hC [.int a1, .int a2] 9 9 (by decide) rfl rfl (fun hne => c_X9_isParty hC.2.2.2.2.2.2.2.1 Z M a1 a2 hne) lk_X9_187 mw_X9_isParty.1 mw_X9_isParty.2.1 mw_X9_isParty.2.2.1 mw_X9_isParty.2.2.2 ⟨rfl, by decide, by decide, by decide +kernel⟩ rfl rfl ⟨by decide, by decide⟩ rfl rfl (Nat.le_of_ble_eq_true rfl) (by decide) (by decide) (by decide) dX9_claim_46 (fun x14 M13 => ?_)
      refine g_if_eq (tgt := 90) hC dX9_claim_49 (by decide) (fun _ => ?_) (fun _ => ?_)
      · refine g_sub (lv1 := [(0, .ref (zad Z 9)), (1, .int a1), (2, .int a2), (3, .int a3), (4, .int a4), (5, .int t0)]) [1, 2, 3, 4, 5, 0] rfl ?_
        exact g_X9_claim_b90 hC  M13 a1 a2 a3 a4 t0 
      · refine g_aload_n hC 1 dX9_claim_52 rfl rfl ?_
        refine g_iload_n hC 2 dX9_claim_53 rfl rfl ?_
        refine g_iload_n hC 4 dX9_claim_54 rfl rfl ?_
        refine g_callVi (n := 2) hC [.int a1, .int a3] 9 9 (by decide) rfl rfl (fun hne => c_X9_isParty hC.2.2.2.2.2.2.2.1 Z M13 a1 a3 hne) lk_X9_187 mw_X9_isParty.1 mw_X9_isParty.2.1 mw_X9_isParty.2.2.1 mw_X9_isParty.2.2.2 ⟨rfl, by decide, by decide, by decide +kernel⟩ rfl rfl ⟨by decide, by decide⟩ rfl rfl (Nat.le_of_ble_eq_true rfl) (by decide) (by decide) (by decide) dX9_claim_55 (fun x16 M15 => ?_)
        refine g_if_eq (tgt := 90) hC dX9_claim_58 (by decide) (fun _ => ?_) (fun _ => ?_)
        · refine g_sub (lv1 := [(0, .ref (zad Z 9)), (1, .int a1), (2, .int a2), (3, .int a3), (4, .int a4), (5, .int t0)]) [1, 2, 3, 4, 5, 0] rfl ?_
          exact g_X9_claim_b90 hC  M15 a1 a2 a3 a4 t0 
        · refine g_aload_n hC 1 dX9_claim_61 rfl rfl ?_
          refine gf_X9_26 hC dX9_claim_62 ?_
          refine g_bipush hC (v := 16) dX9_claim_65 (by decide) ?_
          refine g_iload_n hC 2 dX9_claim_67 rfl rfl ?_
          refine g_imul hC dX9_claim_68 ?_
          refine g_iload_n hC 3 dX9_claim_69 rfl rfl ?_
          refine g_iadd hC dX9_claim_70 ?_
          refine g_iald hC 107 (by decide) rfl dX9_claim_71 ?_
          refine g_aload_n hC 1 dX9_claim_72 rfl rfl ?_
          refine gf_X9_26 hC dX9_claim_73 ?_
          refine g_bipush hC (v := 16) dX9_claim_76 (by decide) ?_
          refine g_iload_n hC 2 dX9_claim_78 rfl rfl ?_
          refine g_imul hC dX9_claim_79 ?_
          refine g_iload_n hC 4 dX9_claim_80 rfl rfl ?_
          refine g_iadd hC dX9_claim_81 ?_
          refine g_iald hC 107 (by decide) rfl dX9_claim_82 ?_
          refine g_icmp_eq (tgt := 90) hC dX9_claim_83 (by decide) (fun _ => ?_) (fun _ => ?_)
          · refine g_sub (lv1 := [(0, .ref (zad Z 9)), (1, .int a1), (2, .int a2), (3, .int a3), (4, .int a4), (5, .int t0)]) [1, 2, 3, 4, 5, 0] rfl ?_
            exact g_X9_claim_b90 hC  M15 a1 a2 a3 a4 t0 
          · refine g_iconst hC (v := 1) dX9_claim_86 (by decide) ?_
            refine g_goto (tgt := 91) hC dX9_claim_87 (by decide) ?_
            refine g_sub (lv1 := [(0, .ref (zad Z 9)), (1, .int a1), (2, .int a2), (3, .int a3), (4, .int a4), (5, .int t0)]) [1, 2, 3, 4, 5, 0] rfl ?_
            exact g_X9_claim_b91 hC  M15 a1 a2 a3 a4 t0 1
set_option maxRecDepth 20000 in
set_option maxHeartbeats 4000000 in
theorem g_X9_claim_b26 {p : Program} {l : Launch} {e : Env} {s : State} {m : MethodId} {args : Array Value} {below : List Frame} {meth : Method} {c : Code} {Z : gZ} (hC : gC p l s m args meth c cX9_claim 7 RX9 (some .int) Z)   (M : gM) (a1 : Int32) (a2 : Int32) (a3 : Int32) (a4 : Int32)  : gW p l e rm_X9_claim s m args below meth c 7 Z 1 0 0 M 26 [(0, .ref (zad Z 9)), (1, .int a1), (2, .int a2), (3, .int a3), (4, .int a4)] [] (f_X9_claim_b26  M a1 a2 a3 a4 ) := by
  unfold f_X9_claim_b26
  refine g_iconst hC (v := 0) dX9_claim_26 (by decide) ?_
  exact g_X9_claim_b27 hC  M a1 a2 a3 a4 0
set_option maxRecDepth 20000 in
set_option maxHeartbeats 4000000 in
theorem c_X9_claim {l : Launch} (hfl : l.stackTraces = false) (Z : gZ) (M : gM) (a1 : Int32) (a2 : Int32) (a3 : Int32) (a4 : Int32) : gMet l yX9_claim cX9_claim 7 (some .int) rm_X9_claim 1 0 Z M [.ref (zad Z 9), .int a1, .int a2, .int a3, .int a4] (f_X9_claim M a1 a2 a3 a4) := by
  refine g_enter hfl (by decide) (Nat.le_of_ble_eq_true rfl) (fun p e s m args below meth c hC => ?_)
  refine g_eq (F := f_X9_claim M a1 a2 a3 a4) rfl ?_
  refine g_lv0 (lv1 := [(0, .ref (zad Z 9)), (1, .int a1), (2, .int a2), (3, .int a3), (4, .int a4)]) rfl ?_
  unfold f_X9_claim
  refine g_aload_n hC 0 dX9_claim_0 rfl rfl ?_
  refine g_iload_n hC 1 dX9_claim_1 rfl rfl ?_
  refine g_callVi (n := 1) hC [.int a1] 9 9 (by decide) rfl rfl (fun hne => c_X9_isCase hC.2.2.2.2.2.2.2.1 Z M a1 hne) lk_X9_181 mw_X9_isCase.1 mw_X9_isCase.2.1 mw_X9_isCase.2.2.1 mw_X9_isCase.2.2.2 ⟨rfl, by decide, by decide, by decide +kernel⟩ rfl rfl ⟨by decide, by decide⟩ rfl rfl (Nat.le_of_ble_eq_true rfl) (by decide) (by decide) (by decide) dX9_claim_2 (fun x18 M17 => ?_)
  refine g_if_eq (tgt := 26) hC dX9_claim_5 (by decide) (fun _ => ?_) (fun _ => ?_)
  · exact g_X9_claim_b26 hC  M17 a1 a2 a3 a4
  · refine g_iload_n hC 2 dX9_claim_8 rfl rfl ?_
    refine g_callSi (n := 1) hC [.int a2] (fun hne => c_X9_isPerson hC.2.2.2.2.2.2.2.1 Z M17 a2 hne) lk_X9_184 mw_X9_isPerson.1 mw_X9_isPerson.2.1 mw_X9_isPerson.2.2 ⟨by decide, by decide, by decide +kernel⟩ rfl rfl ⟨by decide, by decide⟩ rfl rfl (Nat.le_of_ble_eq_true rfl) (by decide) (by decide) (by decide) dX9_claim_9 (fun x20 M19 => ?_)
    refine g_if_eq (tgt := 26) hC dX9_claim_12 (by decide) (fun _ => ?_) (fun _ => ?_)
    · exact g_X9_claim_b26 hC  M19 a1 a2 a3 a4
    · refine g_iload_n hC 3 dX9_claim_15 rfl rfl ?_
      refine g_callSi (n := 1) hC [.int a3] (fun hne => c_X9_isPerson hC.2.2.2.2.2.2.2.1 Z M19 a3 hne) lk_X9_184 mw_X9_isPerson.1 mw_X9_isPerson.2.1 mw_X9_isPerson.2.2 ⟨by decide, by decide, by decide +kernel⟩ rfl rfl ⟨by decide, by decide⟩ rfl rfl (Nat.le_of_ble_eq_true rfl) (by decide) (by decide) (by decide) dX9_claim_16 (fun x22 M21 => ?_)
      refine g_if_eq (tgt := 26) hC dX9_claim_19 (by decide) (fun _ => ?_) (fun _ => ?_)
      · exact g_X9_claim_b26 hC  M21 a1 a2 a3 a4
      · refine g_iconst hC (v := 1) dX9_claim_22 (by decide) ?_
        refine g_goto (tgt := 27) hC dX9_claim_23 (by decide) ?_
        exact g_X9_claim_b27 hC  M21 a1 a2 a3 a4 1

-- ===== X9_sever =====
def f_X9_sever_b95 (self69 : gM → Int32 → Int32 → Int32 → Int32 → gR) (M : gM) (a1 : Int32) (a3 : Int32) (a4 : Int32) (a5 : Int32) (t0 : Int32) : gR := (gI ((16 * a3) + t0) 128 (gI ((16 * a4) + t0) 128 (bM (gset M 107 ((16 * a4) + t0).toNatClampNeg (M 107 ((16 * a3) + t0).toNatClampNeg)) (fun M1 => (gI ((16 * a4) + t0) 128 (bM (gset M1 108 ((16 * a4) + t0).toNatClampNeg (M1 9 1)) (fun M2 => (bV (a5 + 1) (fun x3 => (self69 M2 a1 a3 a4 x3))))))))))
def f_X9_sever_lb69  (self69 : gM → Int32 → Int32 → Int32 → Int32 → gR) (M : gM) (a1 : Int32) (a3 : Int32) (a4 : Int32) (a5 : Int32) : gR := (if 2 ≤ a5 then (gI a1 24 (bM (gset M 109 a1.toNatClampNeg a4) (fun M4 => (rRet a4 M4)))) else (if a5 = 0 then (gI a1 24 (f_X9_sever_b95 self69 M a1 a3 a4 a5 (M 110 a1.toNatClampNeg))) else (gI a1 24 (f_X9_sever_b95 self69 M a1 a3 a4 a5 (M 111 a1.toNatClampNeg)))))
def f_X9_sever_l69  : Nat → gM → Int32 → Int32 → Int32 → Int32 → gR
  | 0, _, _, _, _, _ => rStuck
  | n + 1, M, a1, a3, a4, a5 => f_X9_sever_lb69  (f_X9_sever_l69  n) M a1 a3 a4 a5
def f_X9_sever_b39  (M : gM) (a1 : Int32) (t1 : Int32) : gR := (rb (f_X9_refused M t1) (fun x6 M5 => (if x6 = 0 then (gI a1 24 (bV (M5 109 a1.toNatClampNeg) (fun x7 => (gI x7 8 (rb (f_X9_newCase M5 (M5 105 x7.toNatClampNeg)) (fun x9 M8 => (f_X9_sever_l69  5000 M8 a1 x7 x9 0))))))) else (rRet 0 M5))))
def f_X9_sever_b34  (M : gM) (a1 : Int32)  : gR := (f_X9_sever_b39  M a1 2)
def f_X9_sever (M : gM) (a1 : Int32) : gR := (rb (f_X9_isClaim M a1) (fun x11 M10 => (if x11 = 0 then (f_X9_sever_b39  M10 a1 1) else (gI a1 24 (if 4 ≤ (M10 112 a1.toNatClampNeg) then (f_X9_sever_b34  M10 a1 ) else (if (M10 9 6) = 8 then (f_X9_sever_b34  M10 a1 ) else (f_X9_sever_b39  M10 a1 0)))))))
abbrev rm_X9_sever : Room := { frames := 2, cells := 0, slots := 0, locals := 43 }
set_option maxRecDepth 20000 in
set_option maxHeartbeats 4000000 in
theorem g_X9_sever_b95 {p : Program} {l : Launch} {e : Env} {s : State} {m : MethodId} {args : Array Value} {below : List Frame} {meth : Method} {c : Code} {Z : gZ} (hC : gC p l s m args meth c cX9_sever 7 RX9 (some .int) Z) {self69 : gM → Int32 → Int32 → Int32 → Int32 → gR} (hs69 : ∀ (M : gM) (a1 : Int32) (a3 : Int32) (a4 : Int32) (a5 : Int32) , gW p l e rm_X9_sever s m args below meth c 7 Z 1 0 0 M 69 [(0, .ref (zad Z 9)), (1, .int a1), (3, .int a3), (4, .int a4), (5, .int a5)] [] (self69 M a1 a3 a4 a5)) (M : gM) (a1 : Int32) (a3 : Int32) (a4 : Int32) (a5 : Int32) (t0 : Int32) : gW p l e rm_X9_sever s m args below meth c 7 Z 1 0 0 M 95 [(0, .ref (zad Z 9)), (1, .int a1), (3, .int a3), (4, .int a4), (5, .int a5)] [.int t0] (f_X9_sever_b95 self69 M a1 a3 a4 a5 t0) := by
  unfold f_X9_sever_b95
  refine g_istore hC (lv1 := [(6, .int t0), (0, .ref (zad Z 9)), (1, .int a1), (3, .int a3), (4, .int a4), (5, .int a5)]) dX9_sever_95 (by decide) rfl ?_
  refine g_aload_n hC 1 dX9_sever_97 rfl rfl ?_
  refine gf_X9_26 hC dX9_sever_98 ?_
  refine g_bipush hC (v := 16) dX9_sever_101 (by decide) ?_
  refine g_iload hC 4 dX9_sever_103 rfl ?_
  refine g_imul hC dX9_sever_105 ?_
  refine g_iload hC 0 dX9_sever_106 rfl ?_
  refine g_iadd hC dX9_sever_108 ?_
  refine g_aload_n hC 1 dX9_sever_109 rfl rfl ?_
  refine gf_X9_26 hC dX9_sever_110 ?_
  refine g_bipush hC (v := 16) dX9_sever_113 (by decide) ?_
  refine g_iload_n hC 3 dX9_sever_115 rfl rfl ?_
  refine g_imul hC dX9_sever_116 ?_
  refine g_iload hC 0 dX9_sever_117 rfl ?_
  refine g_iadd hC dX9_sever_119 ?_
  refine g_iald hC 107 (by decide) rfl dX9_sever_120 ?_
  refine g_iast hC 107 (by decide) rfl dX9_sever_121 (fun M1 => ?_)
  refine g_aload_n hC 1 dX9_sever_122 rfl rfl ?_
  refine gf_X9_29 hC dX9_sever_123 ?_
  refine g_bipush hC (v := 16) dX9_sever_126 (by decide) ?_
  refine g_iload hC 4 dX9_sever_128 rfl ?_
  refine g_imul hC dX9_sever_130 ?_
  refine g_iload hC 0 dX9_sever_131 rfl ?_
  refine g_iadd hC dX9_sever_133 ?_
  refine g_aload_n hC 1 dX9_sever_134 rfl rfl ?_
  refine gf_X9_152 hC dX9_sever_135 ?_
  refine g_iast hC 108 (by decide) rfl dX9_sever_138 (fun M2 => ?_)
  refine g_iinc hC 5 (v := 1) (fun x3 => [(5, .int x3), (6, .int t0), (0, .ref (zad Z 9)), (1, .int a1), (3, .int a3), (4, .int a4)]) dX9_sever_139 rfl (by decide) (by decide) (fun _ => rfl) (fun x3 => ?_)
  refine g_goto (tgt := 69) hC dX9_sever_142 (by decide) ?_
  refine g_sub (lv1 := [(0, .ref (zad Z 9)), (1, .int a1), (3, .int a3), (4, .int a4), (5, .int x3)]) [2, 3, 4, 5, 0] rfl ?_
  exact hs69 M2 a1 a3 a4 x3
set_option maxRecDepth 20000 in
set_option maxHeartbeats 4000000 in
theorem g_X9_sever_lb69 {p : Program} {l : Launch} {e : Env} {s : State} {m : MethodId} {args : Array Value} {below : List Frame} {meth : Method} {c : Code} {Z : gZ} (hC : gC p l s m args meth c cX9_sever 7 RX9 (some .int) Z)  {self69 : gM → Int32 → Int32 → Int32 → Int32 → gR}  (hs69 : ∀ (M : gM) (a1 : Int32) (a3 : Int32) (a4 : Int32) (a5 : Int32) , gW p l e rm_X9_sever s m args below meth c 7 Z 1 0 0 M 69 [(0, .ref (zad Z 9)), (1, .int a1), (3, .int a3), (4, .int a4), (5, .int a5)] [] (self69 M a1 a3 a4 a5)) (M : gM) (a1 : Int32) (a3 : Int32) (a4 : Int32) (a5 : Int32) : gW p l e rm_X9_sever s m args below meth c 7 Z 1 0 0 M 69 [(0, .ref (zad Z 9)), (1, .int a1), (3, .int a3), (4, .int a4), (5, .int a5)] [] (f_X9_sever_lb69  self69 M a1 a3 a4 a5) := by
  unfold f_X9_sever_lb69
  refine g_iload hC 4 dX9_sever_69 rfl ?_
  refine g_iconst hC (v := 2) dX9_sever_71 (by decide) ?_
  refine g_icmp_ge (tgt := 145) hC dX9_sever_72 (by decide) (fun _ => ?_) (fun _ => ?_)
  · refine g_aload_n hC 0 dX9_sever_145 rfl rfl ?_
    refine gf_X9_32 hC dX9_sever_146 ?_
    refine g_iload_n hC 1 dX9_sever_149 rfl rfl ?_
    refine g_iload hC 3 dX9_sever_150 rfl ?_
    refine g_iast hC 109 (by decide) rfl dX9_sever_152 (fun M4 => ?_)
    refine g_iload hC 3 dX9_sever_153 rfl ?_
    exact g_iret hC rfl (by decide) dX9_sever_155
  · refine g_iload hC 4 dX9_sever_75 rfl ?_
    refine g_if_ne (tgt := 89) hC dX9_sever_77 (by decide) (fun _ => ?_) (fun _ => ?_)
    · refine g_aload_n hC 0 dX9_sever_80 rfl rfl ?_
      refine gf_X9_35 hC dX9_sever_81 ?_
      refine g_iload_n hC 1 dX9_sever_84 rfl rfl ?_
      refine g_iald hC 110 (by decide) rfl dX9_sever_85 ?_
      refine g_goto (tgt := 95) hC dX9_sever_86 (by decide) ?_
      exact g_X9_sever_b95 hC hs69 M a1 a3 a4 a5 (M 110 a1.toNatClampNeg)
    · refine g_aload_n hC 0 dX9_sever_89 rfl rfl ?_
      refine gf_X9_38 hC dX9_sever_90 ?_
      refine g_iload_n hC 1 dX9_sever_93 rfl rfl ?_
      refine g_iald hC 111 (by decide) rfl dX9_sever_94 ?_
      exact g_X9_sever_b95 hC hs69 M a1 a3 a4 a5 (M 111 a1.toNatClampNeg)
set_option maxRecDepth 20000 in
set_option maxHeartbeats 4000000 in
theorem g_X9_sever_l69 {p : Program} {l : Launch} {e : Env} {s : State} {m : MethodId} {args : Array Value} {below : List Frame} {meth : Method} {c : Code} {Z : gZ} (hC : gC p l s m args meth c cX9_sever 7 RX9 (some .int) Z)   : ∀ (n : Nat) (M : gM) (a1 : Int32) (a3 : Int32) (a4 : Int32) (a5 : Int32), gW p l e rm_X9_sever s m args below meth c 7 Z 1 0 0 M 69 [(0, .ref (zad Z 9)), (1, .int a1), (3, .int a3), (4, .int a4), (5, .int a5)] [] (f_X9_sever_l69  n M a1 a3 a4 a5)
  | 0, _, _, _, _, _ => g_stuck
  | n + 1, M, a1, a3, a4, a5 => g_X9_sever_lb69 hC  (g_X9_sever_l69 hC  n) M a1 a3 a4 a5
set_option maxRecDepth 20000 in
set_option maxHeartbeats 4000000 in
theorem g_X9_sever_b39 {p : Program} {l : Launch} {e : Env} {s : State} {m : MethodId} {args : Array Value} {below : List Frame} {meth : Method} {c : Code} {Z : gZ} (hC : gC p l s m args meth c cX9_sever 7 RX9 (some .int) Z)   (M : gM) (a1 : Int32) (t1 : Int32) : gW p l e rm_X9_sever s m args below meth c 7 Z 1 0 0 M 39 [(0, .ref (zad Z 9)), (1, .int a1)] [.int t1, .ref (zad Z 9)] (f_X9_sever_b39  M a1 t1) := by
  unfold f_X9_sever_b39
  refine g_callVi (n := 1) hC [.int t1] 9 9 (by decide) rfl rfl (fun hne => c_X9_refused hC.2.2.2.2.2.2.2.1 Z M t1 hne) lk_X9_155 mw_X9_refused.1 mw_X9_refused.2.1 mw_X9_refused.2.2.1 mw_X9_refused.2.2.2 ⟨rfl, by decide, by decide, by decide +kernel⟩ rfl rfl ⟨by decide, by decide⟩ rfl rfl (Nat.le_of_ble_eq_true rfl) (by decide) (by decide) (by decide) dX9_sever_39 (fun x6 M5 => ?_)
  refine g_if_eq (tgt := 47) hC dX9_sever_42 (by decide) (fun _ => ?_) (fun _ => ?_)
  · refine g_aload_n hC 0 dX9_sever_47 rfl rfl ?_
    refine gf_X9_32 hC dX9_sever_48 ?_
    refine g_iload_n hC 1 dX9_sever_51 rfl rfl ?_
    refine g_iald hC 109 (by decide) rfl dX9_sever_52 ?_
    refine g_bv (fun x7 => ?_)
    refine g_istore_n hC (lv1 := [(3, .int x7), (0, .ref (zad Z 9)), (1, .int a1)]) dX9_sever_53 rfl (by decide) rfl ?_
    refine g_aload_n hC 1 dX9_sever_54 rfl rfl ?_
    refine g_aload_n hC 1 dX9_sever_55 rfl rfl ?_
    refine gf_X9_20 hC dX9_sever_56 ?_
    refine g_iload_n hC 0 dX9_sever_59 rfl rfl ?_
    refine g_iald hC 105 (by decide) rfl dX9_sever_60 ?_
    refine g_callVi (n := 1) hC [.int (M5 105 x7.toNatClampNeg)] 9 9 (by decide) rfl rfl (fun hne => c_X9_newCase hC.2.2.2.2.2.2.2.1 Z M5 (M5 105 x7.toNatClampNeg) hne) lk_X9_177 mw_X9_newCase.1 mw_X9_newCase.2.1 mw_X9_newCase.2.2.1 mw_X9_newCase.2.2.2 ⟨rfl, by decide, by decide, by decide +kernel⟩ rfl rfl ⟨by decide, by decide⟩ rfl rfl (Nat.le_of_ble_eq_true rfl) (by decide) (by decide) (by decide) dX9_sever_61 (fun x9 M8 => ?_)
    refine g_istore hC (lv1 := [(4, .int x9), (3, .int x7), (0, .ref (zad Z 9)), (1, .int a1)]) dX9_sever_64 (by decide) rfl ?_
    refine g_iconst hC (v := 0) dX9_sever_66 (by decide) ?_
    refine g_istore hC (lv1 := [(5, .int 0), (4, .int x9), (3, .int x7), (0, .ref (zad Z 9)), (1, .int a1)]) dX9_sever_67 (by decide) rfl ?_
    refine g_sub (lv1 := [(0, .ref (zad Z 9)), (1, .int a1), (3, .int x7), (4, .int x9), (5, .int 0)]) [3, 4, 2, 1, 0] rfl ?_
    exact g_X9_sever_l69 hC  5000 M8 a1 x7 x9 0
  · refine g_iconst hC (v := 0) dX9_sever_45 (by decide) ?_
    exact g_iret hC rfl (by decide) dX9_sever_46
set_option maxRecDepth 20000 in
set_option maxHeartbeats 4000000 in
theorem g_X9_sever_b34 {p : Program} {l : Launch} {e : Env} {s : State} {m : MethodId} {args : Array Value} {below : List Frame} {meth : Method} {c : Code} {Z : gZ} (hC : gC p l s m args meth c cX9_sever 7 RX9 (some .int) Z)   (M : gM) (a1 : Int32)  : gW p l e rm_X9_sever s m args below meth c 7 Z 1 0 0 M 34 [(0, .ref (zad Z 9)), (1, .int a1)] [.ref (zad Z 9)] (f_X9_sever_b34  M a1 ) := by
  unfold f_X9_sever_b34
  refine g_iconst hC (v := 2) dX9_sever_34 (by decide) ?_
  refine g_goto (tgt := 39) hC dX9_sever_35 (by decide) ?_
  exact g_X9_sever_b39 hC  M a1 2
set_option maxRecDepth 20000 in
set_option maxHeartbeats 4000000 in
theorem c_X9_sever {l : Launch} (hfl : l.stackTraces = false) (Z : gZ) (M : gM) (a1 : Int32) : gMet l yX9_sever cX9_sever 7 (some .int) rm_X9_sever 1 0 Z M [.ref (zad Z 9), .int a1] (f_X9_sever M a1) := by
  refine g_enter hfl (by decide) (Nat.le_of_ble_eq_true rfl) (fun p e s m args below meth c hC => ?_)
  refine g_eq (F := f_X9_sever M a1) rfl ?_
  refine g_lv0 (lv1 := [(0, .ref (zad Z 9)), (1, .int a1)]) rfl ?_
  unfold f_X9_sever
  refine g_aload_n hC 0 dX9_sever_0 rfl rfl ?_
  refine g_iload_n hC 1 dX9_sever_1 rfl rfl ?_
  refine g_callVi (n := 1) hC [.int a1] 9 9 (by decide) rfl rfl (fun hne => c_X9_isClaim hC.2.2.2.2.2.2.2.1 Z M a1 hne) lk_X9_195 mw_X9_isClaim.1 mw_X9_isClaim.2.1 mw_X9_isClaim.2.2.1 mw_X9_isClaim.2.2.2 ⟨rfl, by decide, by decide, by decide +kernel⟩ rfl rfl ⟨by decide, by decide⟩ rfl rfl (Nat.le_of_ble_eq_true rfl) (by decide) (by decide) (by decide) dX9_sever_2 (fun x11 M10 => ?_)
  refine g_istore_n hC (lv1 := [(2, .int x11), (0, .ref (zad Z 9)), (1, .int a1)]) dX9_sever_5 rfl (by decide) rfl ?_
  refine g_aload_n hC 1 dX9_sever_6 rfl rfl ?_
  refine g_iload_n hC 0 dX9_sever_7 rfl rfl ?_
  refine g_if_ne (tgt := 15) hC dX9_sever_8 (by decide) (fun _ => ?_) (fun _ => ?_)
  · refine g_iconst hC (v := 1) dX9_sever_11 (by decide) ?_
    refine g_goto (tgt := 39) hC dX9_sever_12 (by decide) ?_
    refine g_sub (lv1 := [(0, .ref (zad Z 9)), (1, .int a1)]) [1, 2] rfl ?_
    exact g_X9_sever_b39 hC  M10 a1 1
  · refine g_aload_n hC 1 dX9_sever_15 rfl rfl ?_
    refine gf_X9_41 hC dX9_sever_16 ?_
    refine g_iload_n hC 2 dX9_sever_19 rfl rfl ?_
    refine g_iald hC 112 (by decide) rfl dX9_sever_20 ?_
    refine g_iconst hC (v := 4) dX9_sever_21 (by decide) ?_
    refine g_icmp_ge (tgt := 34) hC dX9_sever_22 (by decide) (fun _ => ?_) (fun _ => ?_)
    · refine g_sub (lv1 := [(0, .ref (zad Z 9)), (1, .int a1)]) [1, 2] rfl ?_
      exact g_X9_sever_b34 hC  M10 a1 
    · refine g_aload_n hC 1 dX9_sever_25 rfl rfl ?_
      refine gf_X9_165 hC dX9_sever_26 ?_
      refine g_bipush hC (v := 8) dX9_sever_29 (by decide) ?_
      refine g_icmp_ne (tgt := 38) hC dX9_sever_31 (by decide) (fun _ => ?_) (fun _ => ?_)
      · refine g_sub (lv1 := [(0, .ref (zad Z 9)), (1, .int a1)]) [1, 2] rfl ?_
        exact g_X9_sever_b34 hC  M10 a1 
      · refine g_iconst hC (v := 0) dX9_sever_38 (by decide) ?_
        refine g_sub (lv1 := [(0, .ref (zad Z 9)), (1, .int a1)]) [1, 2] rfl ?_
        exact g_X9_sever_b39 hC  M10 a1 0

-- ===== X9_isStayedAlone =====
def f_X9_isStayedAlone_lb5  (self5 : gM → Int32 → Int32 → Int32 → Int32 → gR) (M : gM) (a1 : Int32) (a2 : Int32) (a3 : Int32) (a4 : Int32) : gR := (if (M 9 23) ≤ a4 then (gZ01 a3 (rRet a3 M)) else (gI a4 160 (if (M 120 a4.toNatClampNeg) < 11 then (bV (a4 + 1) (fun x1 => (self5 M a1 a2 a3 x1))) else (gI a4 160 (if (M 122 a4.toNatClampNeg) = a1 then (gI a4 160 (if a2 < (M 121 a4.toNatClampNeg) then (bV (a4 + 1) (fun x2 => (self5 M a1 a2 a3 x2))) else (gI a4 160 (if (M 120 a4.toNatClampNeg) = 11 then (bV (a4 + 1) (fun x3 => (self5 M a1 a2 1 x3))) else (bV (a4 + 1) (fun x4 => (self5 M a1 a2 0 x4))))))) else (bV (a4 + 1) (fun x5 => (self5 M a1 a2 a3 x5))))))))
def f_X9_isStayedAlone_l5  : Nat → gM → Int32 → Int32 → Int32 → Int32 → gR
  | 0, _, _, _, _, _ => rStuck
  | n + 1, M, a1, a2, a3, a4 => f_X9_isStayedAlone_lb5  (f_X9_isStayedAlone_l5  n) M a1 a2 a3 a4
def f_X9_isStayedAlone (M : gM) (a1 : Int32) (a2 : Int32) : gR := (f_X9_isStayedAlone_l5  5000 M a1 a2 0 0)
abbrev rm_X9_isStayedAlone : Room := { frames := 0, cells := 0, slots := 0, locals := 0 }
set_option maxRecDepth 20000 in
set_option maxHeartbeats 4000000 in
theorem g_X9_isStayedAlone_lb5 {p : Program} {l : Launch} {e : Env} {s : State} {m : MethodId} {args : Array Value} {below : List Frame} {meth : Method} {c : Code} {Z : gZ} (hC : gC p l s m args meth c cX9_isStayedAlone 5 RX9 (some .boolean) Z)  {self5 : gM → Int32 → Int32 → Int32 → Int32 → gR}  (hs5 : ∀ (M : gM) (a1 : Int32) (a2 : Int32) (a3 : Int32) (a4 : Int32) , gW p l e rm_X9_isStayedAlone s m args below meth c 5 Z 1 0 0 M 5 [(0, .ref (zad Z 9)), (1, .int a1), (2, .int a2), (3, .int a3), (4, .int a4)] [] (self5 M a1 a2 a3 a4)) (M : gM) (a1 : Int32) (a2 : Int32) (a3 : Int32) (a4 : Int32) : gW p l e rm_X9_isStayedAlone s m args below meth c 5 Z 1 0 0 M 5 [(0, .ref (zad Z 9)), (1, .int a1), (2, .int a2), (3, .int a3), (4, .int a4)] [] (f_X9_isStayedAlone_lb5  self5 M a1 a2 a3 a4) := by
  unfold f_X9_isStayedAlone_lb5
  refine g_iload hC 4 dX9_isStayedAlone_5 rfl ?_
  refine g_aload_n hC 0 dX9_isStayedAlone_7 rfl rfl ?_
  refine gf_X9_171 hC dX9_isStayedAlone_8 ?_
  refine g_icmp_ge (tgt := 72) hC dX9_isStayedAlone_11 (by decide) (fun _ => ?_) (fun _ => ?_)
  · refine g_iload_n hC 3 dX9_isStayedAlone_72 rfl rfl ?_
    exact g_zret hC rfl (by decide) dX9_isStayedAlone_73
  · refine g_aload_n hC 0 dX9_isStayedAlone_14 rfl rfl ?_
    refine gf_X9_65 hC dX9_isStayedAlone_15 ?_
    refine g_iload hC 4 dX9_isStayedAlone_18 rfl ?_
    refine g_iald hC 120 (by decide) rfl dX9_isStayedAlone_20 ?_
    refine g_bipush hC (v := 11) dX9_isStayedAlone_21 (by decide) ?_
    refine g_icmp_lt (tgt := 66) hC dX9_isStayedAlone_23 (by decide) (fun _ => ?_) (fun _ => ?_)
    · refine g_iinc hC 4 (v := 1) (fun x1 => [(4, .int x1), (0, .ref (zad Z 9)), (1, .int a1), (2, .int a2), (3, .int a3)]) dX9_isStayedAlone_66 rfl (by decide) (by decide) (fun _ => rfl) (fun x1 => ?_)
      refine g_goto (tgt := 5) hC dX9_isStayedAlone_69 (by decide) ?_
      refine g_sub (lv1 := [(0, .ref (zad Z 9)), (1, .int a1), (2, .int a2), (3, .int a3), (4, .int x1)]) [1, 2, 3, 4, 0] rfl ?_
      exact hs5 M a1 a2 a3 x1
    · refine g_aload_n hC 0 dX9_isStayedAlone_26 rfl rfl ?_
      refine gf_X9_71 hC dX9_isStayedAlone_27 ?_
      refine g_iload hC 4 dX9_isStayedAlone_30 rfl ?_
      refine g_iald hC 122 (by decide) rfl dX9_isStayedAlone_32 ?_
      refine g_iload_n hC 1 dX9_isStayedAlone_33 rfl rfl ?_
      refine g_icmp_ne (tgt := 66) hC dX9_isStayedAlone_34 (by decide) (fun _ => ?_) (fun _ => ?_)
      · refine g_aload_n hC 0 dX9_isStayedAlone_37 rfl rfl ?_
        refine gf_X9_68 hC dX9_isStayedAlone_38 ?_
        refine g_iload hC 4 dX9_isStayedAlone_41 rfl ?_
        refine g_iald hC 121 (by decide) rfl dX9_isStayedAlone_43 ?_
        refine g_iload_n hC 2 dX9_isStayedAlone_44 rfl rfl ?_
        refine g_icmp_gt (tgt := 66) hC dX9_isStayedAlone_45 (by decide) (fun _ => ?_) (fun _ => ?_)
        · refine g_iinc hC 4 (v := 1) (fun x2 => [(4, .int x2), (0, .ref (zad Z 9)), (1, .int a1), (2, .int a2), (3, .int a3)]) dX9_isStayedAlone_66 rfl (by decide) (by decide) (fun _ => rfl) (fun x2 => ?_)
          refine g_goto (tgt := 5) hC dX9_isStayedAlone_69 (by decide) ?_
          refine g_sub (lv1 := [(0, .ref (zad Z 9)), (1, .int a1), (2, .int a2), (3, .int a3), (4, .int x2)]) [1, 2, 3, 4, 0] rfl ?_
          exact hs5 M a1 a2 a3 x2
        · refine g_aload_n hC 0 dX9_isStayedAlone_48 rfl rfl ?_
          refine gf_X9_65 hC dX9_isStayedAlone_49 ?_
          refine g_iload hC 4 dX9_isStayedAlone_52 rfl ?_
          refine g_iald hC 120 (by decide) rfl dX9_isStayedAlone_54 ?_
          refine g_bipush hC (v := 11) dX9_isStayedAlone_55 (by decide) ?_
          refine g_icmp_ne (tgt := 64) hC dX9_isStayedAlone_57 (by decide) (fun _ => ?_) (fun _ => ?_)
          · refine g_iconst hC (v := 1) dX9_isStayedAlone_60 (by decide) ?_
            refine g_goto (tgt := 65) hC dX9_isStayedAlone_61 (by decide) ?_
            refine g_istore_n hC (lv1 := [(3, .int 1), (0, .ref (zad Z 9)), (1, .int a1), (2, .int a2), (4, .int a4)]) dX9_isStayedAlone_65 rfl (by decide) rfl ?_
            refine g_iinc hC 4 (v := 1) (fun x3 => [(4, .int x3), (3, .int 1), (0, .ref (zad Z 9)), (1, .int a1), (2, .int a2)]) dX9_isStayedAlone_66 rfl (by decide) (by decide) (fun _ => rfl) (fun x3 => ?_)
            refine g_goto (tgt := 5) hC dX9_isStayedAlone_69 (by decide) ?_
            refine g_sub (lv1 := [(0, .ref (zad Z 9)), (1, .int a1), (2, .int a2), (3, .int 1), (4, .int x3)]) [2, 3, 4, 1, 0] rfl ?_
            exact hs5 M a1 a2 1 x3
          · refine g_iconst hC (v := 0) dX9_isStayedAlone_64 (by decide) ?_
            refine g_istore_n hC (lv1 := [(3, .int 0), (0, .ref (zad Z 9)), (1, .int a1), (2, .int a2), (4, .int a4)]) dX9_isStayedAlone_65 rfl (by decide) rfl ?_
            refine g_iinc hC 4 (v := 1) (fun x4 => [(4, .int x4), (3, .int 0), (0, .ref (zad Z 9)), (1, .int a1), (2, .int a2)]) dX9_isStayedAlone_66 rfl (by decide) (by decide) (fun _ => rfl) (fun x4 => ?_)
            refine g_goto (tgt := 5) hC dX9_isStayedAlone_69 (by decide) ?_
            refine g_sub (lv1 := [(0, .ref (zad Z 9)), (1, .int a1), (2, .int a2), (3, .int 0), (4, .int x4)]) [2, 3, 4, 1, 0] rfl ?_
            exact hs5 M a1 a2 0 x4
      · refine g_iinc hC 4 (v := 1) (fun x5 => [(4, .int x5), (0, .ref (zad Z 9)), (1, .int a1), (2, .int a2), (3, .int a3)]) dX9_isStayedAlone_66 rfl (by decide) (by decide) (fun _ => rfl) (fun x5 => ?_)
        refine g_goto (tgt := 5) hC dX9_isStayedAlone_69 (by decide) ?_
        refine g_sub (lv1 := [(0, .ref (zad Z 9)), (1, .int a1), (2, .int a2), (3, .int a3), (4, .int x5)]) [1, 2, 3, 4, 0] rfl ?_
        exact hs5 M a1 a2 a3 x5
set_option maxRecDepth 20000 in
set_option maxHeartbeats 4000000 in
theorem g_X9_isStayedAlone_l5 {p : Program} {l : Launch} {e : Env} {s : State} {m : MethodId} {args : Array Value} {below : List Frame} {meth : Method} {c : Code} {Z : gZ} (hC : gC p l s m args meth c cX9_isStayedAlone 5 RX9 (some .boolean) Z)   : ∀ (n : Nat) (M : gM) (a1 : Int32) (a2 : Int32) (a3 : Int32) (a4 : Int32), gW p l e rm_X9_isStayedAlone s m args below meth c 5 Z 1 0 0 M 5 [(0, .ref (zad Z 9)), (1, .int a1), (2, .int a2), (3, .int a3), (4, .int a4)] [] (f_X9_isStayedAlone_l5  n M a1 a2 a3 a4)
  | 0, _, _, _, _, _ => g_stuck
  | n + 1, M, a1, a2, a3, a4 => g_X9_isStayedAlone_lb5 hC  (g_X9_isStayedAlone_l5 hC  n) M a1 a2 a3 a4
set_option maxRecDepth 20000 in
set_option maxHeartbeats 4000000 in
theorem c_X9_isStayedAlone {l : Launch} (hfl : l.stackTraces = false) (Z : gZ) (M : gM) (a1 : Int32) (a2 : Int32) : gMet l yX9_isStayedAlone cX9_isStayedAlone 5 (some .boolean) rm_X9_isStayedAlone 1 0 Z M [.ref (zad Z 9), .int a1, .int a2] (f_X9_isStayedAlone M a1 a2) := by
  refine g_enter hfl (by decide) (Nat.le_of_ble_eq_true rfl) (fun p e s m args below meth c hC => ?_)
  refine g_eq (F := f_X9_isStayedAlone M a1 a2) rfl ?_
  refine g_lv0 (lv1 := [(0, .ref (zad Z 9)), (1, .int a1), (2, .int a2)]) rfl ?_
  unfold f_X9_isStayedAlone
  refine g_iconst hC (v := 0) dX9_isStayedAlone_0 (by decide) ?_
  refine g_istore_n hC (lv1 := [(3, .int 0), (0, .ref (zad Z 9)), (1, .int a1), (2, .int a2)]) dX9_isStayedAlone_1 rfl (by decide) rfl ?_
  refine g_iconst hC (v := 0) dX9_isStayedAlone_2 (by decide) ?_
  refine g_istore hC (lv1 := [(4, .int 0), (3, .int 0), (0, .ref (zad Z 9)), (1, .int a1), (2, .int a2)]) dX9_isStayedAlone_3 (by decide) rfl ?_
  refine g_sub (lv1 := [(0, .ref (zad Z 9)), (1, .int a1), (2, .int a2), (3, .int 0), (4, .int 0)]) [2, 3, 4, 1, 0] rfl ?_
  exact g_X9_isStayedAlone_l5 hC  5000 M a1 a2 0 0

-- ===== X9_isStayed =====
def f_X9_isStayed (M : gM) (a1 : Int32) (a2 : Int32) : gR := (rb (f_X9_isStayedAlone M a1 a2) (fun x2 M1 => (if x2 = 0 then (gI a1 8 (if (M1 106 a1.toNatClampNeg) = (-1) then (rRet 0 M1) else (gI a1 8 (rb (f_X9_isStayedAlone M1 (M1 106 a1.toNatClampNeg) a2) (fun x4 M3 => (if x4 = 0 then (rRet 0 M3) else (rRet 1 M3))))))) else (rRet 1 M1))))
abbrev rm_X9_isStayed : Room := { frames := 1, cells := 0, slots := 0, locals := 24 }
set_option maxRecDepth 20000 in
set_option maxHeartbeats 4000000 in
theorem c_X9_isStayed {l : Launch} (hfl : l.stackTraces = false) (Z : gZ) (M : gM) (a1 : Int32) (a2 : Int32) : gMet l yX9_isStayed cX9_isStayed 3 (some .boolean) rm_X9_isStayed 1 0 Z M [.ref (zad Z 9), .int a1, .int a2] (f_X9_isStayed M a1 a2) := by
  refine g_enter hfl (by decide) (Nat.le_of_ble_eq_true rfl) (fun p e s m args below meth c hC => ?_)
  refine g_eq (F := f_X9_isStayed M a1 a2) rfl ?_
  refine g_lv0 (lv1 := [(0, .ref (zad Z 9)), (1, .int a1), (2, .int a2)]) rfl ?_
  unfold f_X9_isStayed
  refine g_aload_n hC 0 dX9_isStayed_0 rfl rfl ?_
  refine g_iload_n hC 1 dX9_isStayed_1 rfl rfl ?_
  refine g_iload_n hC 2 dX9_isStayed_2 rfl rfl ?_
  refine g_callVi (n := 2) hC [.int a1, .int a2] 9 9 (by decide) rfl rfl (fun hne => c_X9_isStayedAlone hC.2.2.2.2.2.2.2.1 Z M a1 a2 hne) lk_X9_198 mw_X9_isStayedAlone.1 mw_X9_isStayedAlone.2.1 mw_X9_isStayedAlone.2.2.1 mw_X9_isStayedAlone.2.2.2 ⟨rfl, by decide, by decide, by decide +kernel⟩ rfl rfl ⟨by decide, by decide⟩ rfl rfl (Nat.le_of_ble_eq_true rfl) (by decide) (by decide) (by decide) dX9_isStayed_3 (fun x2 M1 => ?_)
  refine g_if_ne (tgt := 33) hC dX9_isStayed_6 (by decide) (fun _ => ?_) (fun _ => ?_)
  · refine g_aload_n hC 0 dX9_isStayed_9 rfl rfl ?_
    refine gf_X9_23 hC dX9_isStayed_10 ?_
    refine g_iload_n hC 1 dX9_isStayed_13 rfl rfl ?_
    refine g_iald hC 106 (by decide) rfl dX9_isStayed_14 ?_
    refine g_iconst hC (v := (-1)) dX9_isStayed_15 (by decide) ?_
    refine g_icmp_eq (tgt := 37) hC dX9_isStayed_16 (by decide) (fun _ => ?_) (fun _ => ?_)
    · refine g_iconst hC (v := 0) dX9_isStayed_37 (by decide) ?_
      exact g_zret0 hC rfl (by decide) dX9_isStayed_38
    · refine g_aload_n hC 0 dX9_isStayed_19 rfl rfl ?_
      refine g_aload_n hC 0 dX9_isStayed_20 rfl rfl ?_
      refine gf_X9_23 hC dX9_isStayed_21 ?_
      refine g_iload_n hC 1 dX9_isStayed_24 rfl rfl ?_
      refine g_iald hC 106 (by decide) rfl dX9_isStayed_25 ?_
      refine g_iload_n hC 2 dX9_isStayed_26 rfl rfl ?_
      refine g_callVi (n := 2) hC [.int (M1 106 a1.toNatClampNeg), .int a2] 9 9 (by decide) rfl rfl (fun hne => c_X9_isStayedAlone hC.2.2.2.2.2.2.2.1 Z M1 (M1 106 a1.toNatClampNeg) a2 hne) lk_X9_198 mw_X9_isStayedAlone.1 mw_X9_isStayedAlone.2.1 mw_X9_isStayedAlone.2.2.1 mw_X9_isStayedAlone.2.2.2 ⟨rfl, by decide, by decide, by decide +kernel⟩ rfl rfl ⟨by decide, by decide⟩ rfl rfl (Nat.le_of_ble_eq_true rfl) (by decide) (by decide) (by decide) dX9_isStayed_27 (fun x4 M3 => ?_)
      refine g_if_eq (tgt := 37) hC dX9_isStayed_30 (by decide) (fun _ => ?_) (fun _ => ?_)
      · refine g_iconst hC (v := 0) dX9_isStayed_37 (by decide) ?_
        exact g_zret0 hC rfl (by decide) dX9_isStayed_38
      · refine g_iconst hC (v := 1) dX9_isStayed_33 (by decide) ?_
        refine g_goto (tgt := 38) hC dX9_isStayed_34 (by decide) ?_
        exact g_zret1 hC rfl (by decide) dX9_isStayed_38
  · refine g_iconst hC (v := 1) dX9_isStayed_33 (by decide) ?_
    refine g_goto (tgt := 38) hC dX9_isStayed_34 (by decide) ?_
    exact g_zret1 hC rfl (by decide) dX9_isStayed_38

-- ===== X9_deadline =====
def f_X9_deadline_b48 (self6 : gM → Int32 → Int32 → Int32 → Int32 → gR) (M : gM) (a3 : Int32) (a4 : Int32) (a5 : Int32) (t0 : Int32) : gR := (bV (t0 - 0) (fun x1 => (self6 M a3 a4 a5 x1)))
def f_X9_deadline_b93  (M : gM) (a5 : Int32)  : gR := (if a5 ≤ 1400 then (rRet a5 M) else (rRet (-1) M))
def f_X9_deadline_lb59  (self59 : gM → Int32 → Int32 → gR) (M : gM) (a4 : Int32) (a5 : Int32) : gR := (if 1400 < a5 then (f_X9_deadline_b93  M a5 ) else (rb (f_X9_isFree M a5) (fun x3 M2 => (if x3 = 0 then (rb (f_X9_isStayed M2 a4 a5) (fun x5 M4 => (if x5 = 0 then (f_X9_deadline_b93  M4 a5 ) else (bV (a5 + 1) (fun x6 => (self59 M4 a4 x6)))))) else (bV (a5 + 1) (fun x7 => (self59 M2 a4 x7)))))))
def f_X9_deadline_l59  : Nat → gM → Int32 → Int32 → gR
  | 0, _, _, _ => rStuck
  | n + 1, M, a4, a5 => f_X9_deadline_lb59  (f_X9_deadline_l59  n) M a4 a5
def f_X9_deadline_lb6  (self6 : gM → Int32 → Int32 → Int32 → Int32 → gR) (M : gM) (a3 : Int32) (a4 : Int32) (a5 : Int32) (a6 : Int32) : gR := (if a6 ≤ 0 then (f_X9_deadline_l59  5000 M a4 a5) else (if 1400 < a5 then (f_X9_deadline_l59  5000 M a4 a5) else (bV (a5 + 1) (fun x8 => (rb (f_X9_isStayed M a4 x8) (fun x10 M9 => (if x10 = 0 then (if a3 = 0 then (bV (a6 - 1) (fun x11 => (self6 M9 a3 a4 x8 x11))) else (rb (f_X9_isFree M9 x8) (fun x13 M12 => (if x13 = 0 then (bV (a6 - 1) (fun x14 => (self6 M12 a3 a4 x8 x14))) else (f_X9_deadline_b48 self6 M12 a3 a4 x8 a6))))) else (f_X9_deadline_b48 self6 M9 a3 a4 x8 a6))))))))
def f_X9_deadline_l6  : Nat → gM → Int32 → Int32 → Int32 → Int32 → gR
  | 0, _, _, _, _, _ => rStuck
  | n + 1, M, a3, a4, a5, a6 => f_X9_deadline_lb6  (f_X9_deadline_l6  n) M a3 a4 a5 a6
def f_X9_deadline (M : gM) (a1 : Int32) (a2 : Int32) (a3 : Int32) (a4 : Int32) : gR := (f_X9_deadline_l6  5000 M a3 a4 a1 a2)
abbrev rm_X9_deadline : Room := { frames := 2, cells := 0, slots := 0, locals := 46 }
set_option maxRecDepth 20000 in
set_option maxHeartbeats 4000000 in
theorem g_X9_deadline_b48 {p : Program} {l : Launch} {e : Env} {s : State} {m : MethodId} {args : Array Value} {below : List Frame} {meth : Method} {c : Code} {Z : gZ} (hC : gC p l s m args meth c cX9_deadline 7 RX9 (some .int) Z) {self6 : gM → Int32 → Int32 → Int32 → Int32 → gR} (hs6 : ∀ (M : gM) (a3 : Int32) (a4 : Int32) (a5 : Int32) (a6 : Int32) , gW p l e rm_X9_deadline s m args below meth c 7 Z 1 0 0 M 6 [(0, .ref (zad Z 9)), (3, .int a3), (4, .int a4), (5, .int a5), (6, .int a6)] [] (self6 M a3 a4 a5 a6)) (M : gM) (a3 : Int32) (a4 : Int32) (a5 : Int32) (t0 : Int32) : gW p l e rm_X9_deadline s m args below meth c 7 Z 1 0 0 M 48 [(0, .ref (zad Z 9)), (3, .int a3), (4, .int a4), (5, .int a5)] [.int t0] (f_X9_deadline_b48 self6 M a3 a4 a5 t0) := by
  unfold f_X9_deadline_b48
  refine g_iconst hC (v := 0) dX9_deadline_48 (by decide) ?_
  refine g_goto (tgt := 53) hC dX9_deadline_49 (by decide) ?_
  refine g_isub hC dX9_deadline_53 ?_
  refine g_bv (fun x1 => ?_)
  refine g_istore hC (lv1 := [(6, .int x1), (0, .ref (zad Z 9)), (3, .int a3), (4, .int a4), (5, .int a5)]) dX9_deadline_54 (by decide) rfl ?_
  refine g_goto (tgt := 6) hC dX9_deadline_56 (by decide) ?_
  refine g_sub (lv1 := [(0, .ref (zad Z 9)), (3, .int a3), (4, .int a4), (5, .int a5), (6, .int x1)]) [1, 2, 3, 4, 0] rfl ?_
  exact hs6 M a3 a4 a5 x1
set_option maxRecDepth 20000 in
set_option maxHeartbeats 4000000 in
theorem g_X9_deadline_b93 {p : Program} {l : Launch} {e : Env} {s : State} {m : MethodId} {args : Array Value} {below : List Frame} {meth : Method} {c : Code} {Z : gZ} (hC : gC p l s m args meth c cX9_deadline 7 RX9 (some .int) Z)   (M : gM) (a5 : Int32)  : gW p l e rm_X9_deadline s m args below meth c 7 Z 1 0 0 M 93 [(0, .ref (zad Z 9)), (5, .int a5)] [] (f_X9_deadline_b93  M a5 ) := by
  unfold f_X9_deadline_b93
  refine g_iload hC 1 dX9_deadline_93 rfl ?_
  refine g_sipush hC (v := 1400) dX9_deadline_95 (by decide) ?_
  refine g_icmp_le (tgt := 105) hC dX9_deadline_98 (by decide) (fun _ => ?_) (fun _ => ?_)
  · refine g_iload hC 1 dX9_deadline_105 rfl ?_
    exact g_iret hC rfl (by decide) dX9_deadline_107
  · refine g_iconst hC (v := (-1)) dX9_deadline_101 (by decide) ?_
    refine g_goto (tgt := 107) hC dX9_deadline_102 (by decide) ?_
    exact g_iret hC rfl (by decide) dX9_deadline_107
set_option maxRecDepth 20000 in
set_option maxHeartbeats 4000000 in
theorem g_X9_deadline_lb59 {p : Program} {l : Launch} {e : Env} {s : State} {m : MethodId} {args : Array Value} {below : List Frame} {meth : Method} {c : Code} {Z : gZ} (hC : gC p l s m args meth c cX9_deadline 7 RX9 (some .int) Z)  {self59 : gM → Int32 → Int32 → gR}  (hs59 : ∀ (M : gM) (a4 : Int32) (a5 : Int32) , gW p l e rm_X9_deadline s m args below meth c 7 Z 1 0 0 M 59 [(0, .ref (zad Z 9)), (4, .int a4), (5, .int a5)] [] (self59 M a4 a5)) (M : gM) (a4 : Int32) (a5 : Int32) : gW p l e rm_X9_deadline s m args below meth c 7 Z 1 0 0 M 59 [(0, .ref (zad Z 9)), (4, .int a4), (5, .int a5)] [] (f_X9_deadline_lb59  self59 M a4 a5) := by
  unfold f_X9_deadline_lb59
  refine g_iload hC 2 dX9_deadline_59 rfl ?_
  refine g_sipush hC (v := 1400) dX9_deadline_61 (by decide) ?_
  refine g_icmp_gt (tgt := 93) hC dX9_deadline_64 (by decide) (fun _ => ?_) (fun _ => ?_)
  · refine g_sub (lv1 := [(0, .ref (zad Z 9)), (5, .int a5)]) [0, 2] rfl ?_
    exact g_X9_deadline_b93 hC  M a5 
  · refine g_aload_n hC 0 dX9_deadline_67 rfl rfl ?_
    refine g_iload hC 2 dX9_deadline_68 rfl ?_
    refine g_callVi (n := 1) hC [.int a5] 9 9 (by decide) rfl rfl (fun hne => c_X9_isFree hC.2.2.2.2.2.2.2.1 Z M a5 hne) lk_X9_162 mw_X9_isFree.1 mw_X9_isFree.2.1 mw_X9_isFree.2.2.1 mw_X9_isFree.2.2.2 ⟨rfl, by decide, by decide, by decide +kernel⟩ rfl rfl ⟨by decide, by decide⟩ rfl rfl (Nat.le_of_ble_eq_true rfl) (by decide) (by decide) (by decide) dX9_deadline_70 (fun x3 M2 => ?_)
    refine g_if_ne (tgt := 87) hC dX9_deadline_73 (by decide) (fun _ => ?_) (fun _ => ?_)
    · refine g_aload_n hC 0 dX9_deadline_76 rfl rfl ?_
      refine g_iload hC 1 dX9_deadline_77 rfl ?_
      refine g_iload hC 2 dX9_deadline_79 rfl ?_
      refine g_callVi (n := 2) hC [.int a4, .int a5] 9 9 (by decide) rfl rfl (fun hne => c_X9_isStayed hC.2.2.2.2.2.2.2.1 Z M2 a4 a5 hne) lk_X9_201 mw_X9_isStayed.1 mw_X9_isStayed.2.1 mw_X9_isStayed.2.2.1 mw_X9_isStayed.2.2.2 ⟨rfl, by decide, by decide, by decide +kernel⟩ rfl rfl ⟨by decide, by decide⟩ rfl rfl (Nat.le_of_ble_eq_true rfl) (by decide) (by decide) (by decide) dX9_deadline_81 (fun x5 M4 => ?_)
      refine g_if_eq (tgt := 93) hC dX9_deadline_84 (by decide) (fun _ => ?_) (fun _ => ?_)
      · refine g_sub (lv1 := [(0, .ref (zad Z 9)), (5, .int a5)]) [0, 2] rfl ?_
        exact g_X9_deadline_b93 hC  M4 a5 
      · refine g_iinc hC 2 (v := 1) (fun x6 => [(5, .int x6), (0, .ref (zad Z 9)), (4, .int a4)]) dX9_deadline_87 rfl (by decide) (by decide) (fun _ => rfl) (fun x6 => ?_)
        refine g_goto (tgt := 59) hC dX9_deadline_90 (by decide) ?_
        refine g_sub (lv1 := [(0, .ref (zad Z 9)), (4, .int a4), (5, .int x6)]) [1, 2, 0] rfl ?_
        exact hs59 M4 a4 x6
    · refine g_iinc hC 2 (v := 1) (fun x7 => [(5, .int x7), (0, .ref (zad Z 9)), (4, .int a4)]) dX9_deadline_87 rfl (by decide) (by decide) (fun _ => rfl) (fun x7 => ?_)
      refine g_goto (tgt := 59) hC dX9_deadline_90 (by decide) ?_
      refine g_sub (lv1 := [(0, .ref (zad Z 9)), (4, .int a4), (5, .int x7)]) [1, 2, 0] rfl ?_
      exact hs59 M2 a4 x7
set_option maxRecDepth 20000 in
set_option maxHeartbeats 4000000 in
theorem g_X9_deadline_l59 {p : Program} {l : Launch} {e : Env} {s : State} {m : MethodId} {args : Array Value} {below : List Frame} {meth : Method} {c : Code} {Z : gZ} (hC : gC p l s m args meth c cX9_deadline 7 RX9 (some .int) Z)   : ∀ (n : Nat) (M : gM) (a4 : Int32) (a5 : Int32), gW p l e rm_X9_deadline s m args below meth c 7 Z 1 0 0 M 59 [(0, .ref (zad Z 9)), (4, .int a4), (5, .int a5)] [] (f_X9_deadline_l59  n M a4 a5)
  | 0, _, _, _ => g_stuck
  | n + 1, M, a4, a5 => g_X9_deadline_lb59 hC  (g_X9_deadline_l59 hC  n) M a4 a5
set_option maxRecDepth 20000 in
set_option maxHeartbeats 4000000 in
theorem g_X9_deadline_lb6 {p : Program} {l : Launch} {e : Env} {s : State} {m : MethodId} {args : Array Value} {below : List Frame} {meth : Method} {c : Code} {Z : gZ} (hC : gC p l s m args meth c cX9_deadline 7 RX9 (some .int) Z)  {self6 : gM → Int32 → Int32 → Int32 → Int32 → gR}  (hs6 : ∀ (M : gM) (a3 : Int32) (a4 : Int32) (a5 : Int32) (a6 : Int32) , gW p l e rm_X9_deadline s m args below meth c 7 Z 1 0 0 M 6 [(0, .ref (zad Z 9)), (3, .int a3), (4, .int a4), (5, .int a5), (6, .int a6)] [] (self6 M a3 a4 a5 a6)) (M : gM) (a3 : Int32) (a4 : Int32) (a5 : Int32) (a6 : Int32) : gW p l e rm_X9_deadline s m args below meth c 7 Z 1 0 0 M 6 [(0, .ref (zad Z 9)), (3, .int a3), (4, .int a4), (5, .int a5), (6, .int a6)] [] (f_X9_deadline_lb6  self6 M a3 a4 a5 a6) := by
  unfold f_X9_deadline_lb6
  refine g_iload hC 4 dX9_deadline_6 rfl ?_
  refine g_if_le (tgt := 59) hC dX9_deadline_8 (by decide) (fun _ => ?_) (fun _ => ?_)
  · refine g_sub (lv1 := [(0, .ref (zad Z 9)), (4, .int a4), (5, .int a5)]) [0, 2, 3] rfl ?_
    exact g_X9_deadline_l59 hC  5000 M a4 a5
  · refine g_iload hC 3 dX9_deadline_11 rfl ?_
    refine g_sipush hC (v := 1400) dX9_deadline_13 (by decide) ?_
    refine g_icmp_gt (tgt := 59) hC dX9_deadline_16 (by decide) (fun _ => ?_) (fun _ => ?_)
    · refine g_sub (lv1 := [(0, .ref (zad Z 9)), (4, .int a4), (5, .int a5)]) [0, 2, 3] rfl ?_
      exact g_X9_deadline_l59 hC  5000 M a4 a5
    · refine g_iinc hC 3 (v := 1) (fun x8 => [(5, .int x8), (0, .ref (zad Z 9)), (3, .int a3), (4, .int a4), (6, .int a6)]) dX9_deadline_19 rfl (by decide) (by decide) (fun _ => rfl) (fun x8 => ?_)
      refine g_iload hC 4 dX9_deadline_22 rfl ?_
      refine g_aload_n hC 1 dX9_deadline_24 rfl rfl ?_
      refine g_iload hC 3 dX9_deadline_25 rfl ?_
      refine g_iload hC 0 dX9_deadline_27 rfl ?_
      refine g_callVi (n := 2) hC [.int a4, .int x8] 9 9 (by decide) rfl rfl (fun hne => c_X9_isStayed hC.2.2.2.2.2.2.2.1 Z M a4 x8 hne) lk_X9_201 mw_X9_isStayed.1 mw_X9_isStayed.2.1 mw_X9_isStayed.2.2.1 mw_X9_isStayed.2.2.2 ⟨rfl, by decide, by decide, by decide +kernel⟩ rfl rfl ⟨by decide, by decide⟩ rfl rfl (Nat.le_of_ble_eq_true rfl) (by decide) (by decide) (by decide) dX9_deadline_29 (fun x10 M9 => ?_)
      refine g_if_ne (tgt := 48) hC dX9_deadline_32 (by decide) (fun _ => ?_) (fun _ => ?_)
      · refine g_iload_n hC 2 dX9_deadline_35 rfl rfl ?_
        refine g_if_eq (tgt := 52) hC dX9_deadline_36 (by decide) (fun _ => ?_) (fun _ => ?_)
        · refine g_iconst hC (v := 1) dX9_deadline_52 (by decide) ?_
          refine g_isub hC dX9_deadline_53 ?_
          refine g_bv (fun x11 => ?_)
          refine g_istore hC (lv1 := [(6, .int x11), (5, .int x8), (0, .ref (zad Z 9)), (3, .int a3), (4, .int a4)]) dX9_deadline_54 (by decide) rfl ?_
          refine g_goto (tgt := 6) hC dX9_deadline_56 (by decide) ?_
          refine g_sub (lv1 := [(0, .ref (zad Z 9)), (3, .int a3), (4, .int a4), (5, .int x8), (6, .int x11)]) [2, 3, 4, 1, 0] rfl ?_
          exact hs6 M9 a3 a4 x8 x11
        · refine g_aload_n hC 1 dX9_deadline_39 rfl rfl ?_
          refine g_iload hC 0 dX9_deadline_40 rfl ?_
          refine g_callVi (n := 1) hC [.int x8] 9 9 (by decide) rfl rfl (fun hne => c_X9_isFree hC.2.2.2.2.2.2.2.1 Z M9 x8 hne) lk_X9_162 mw_X9_isFree.1 mw_X9_isFree.2.1 mw_X9_isFree.2.2.1 mw_X9_isFree.2.2.2 ⟨rfl, by decide, by decide, by decide +kernel⟩ rfl rfl ⟨by decide, by decide⟩ rfl rfl (Nat.le_of_ble_eq_true rfl) (by decide) (by decide) (by decide) dX9_deadline_42 (fun x13 M12 => ?_)
          refine g_if_eq (tgt := 52) hC dX9_deadline_45 (by decide) (fun _ => ?_) (fun _ => ?_)
          · refine g_iconst hC (v := 1) dX9_deadline_52 (by decide) ?_
            refine g_isub hC dX9_deadline_53 ?_
            refine g_bv (fun x14 => ?_)
            refine g_istore hC (lv1 := [(6, .int x14), (5, .int x8), (0, .ref (zad Z 9)), (3, .int a3), (4, .int a4)]) dX9_deadline_54 (by decide) rfl ?_
            refine g_goto (tgt := 6) hC dX9_deadline_56 (by decide) ?_
            refine g_sub (lv1 := [(0, .ref (zad Z 9)), (3, .int a3), (4, .int a4), (5, .int x8), (6, .int x14)]) [2, 3, 4, 1, 0] rfl ?_
            exact hs6 M12 a3 a4 x8 x14
          · refine g_sub (lv1 := [(0, .ref (zad Z 9)), (3, .int a3), (4, .int a4), (5, .int x8)]) [1, 2, 3, 0] rfl ?_
            exact g_X9_deadline_b48 hC hs6 M12 a3 a4 x8 a6
      · refine g_sub (lv1 := [(0, .ref (zad Z 9)), (3, .int a3), (4, .int a4), (5, .int x8)]) [1, 2, 3, 0] rfl ?_
        exact g_X9_deadline_b48 hC hs6 M9 a3 a4 x8 a6
set_option maxRecDepth 20000 in
set_option maxHeartbeats 4000000 in
theorem g_X9_deadline_l6 {p : Program} {l : Launch} {e : Env} {s : State} {m : MethodId} {args : Array Value} {below : List Frame} {meth : Method} {c : Code} {Z : gZ} (hC : gC p l s m args meth c cX9_deadline 7 RX9 (some .int) Z)   : ∀ (n : Nat) (M : gM) (a3 : Int32) (a4 : Int32) (a5 : Int32) (a6 : Int32), gW p l e rm_X9_deadline s m args below meth c 7 Z 1 0 0 M 6 [(0, .ref (zad Z 9)), (3, .int a3), (4, .int a4), (5, .int a5), (6, .int a6)] [] (f_X9_deadline_l6  n M a3 a4 a5 a6)
  | 0, _, _, _, _, _ => g_stuck
  | n + 1, M, a3, a4, a5, a6 => g_X9_deadline_lb6 hC  (g_X9_deadline_l6 hC  n) M a3 a4 a5 a6
set_option maxRecDepth 20000 in
set_option maxHeartbeats 4000000 in
theorem c_X9_deadline {l : Launch} (hfl : l.stackTraces = false) (Z : gZ) (M : gM) (a1 : Int32) (a2 : Int32) (a3 : Int32) (a4 : Int32) : gMet l yX9_deadline cX9_deadline 7 (some .int) rm_X9_deadline 1 0 Z M [.ref (zad Z 9), .int a1, .int a2, .int a3, .int a4] (f_X9_deadline M a1 a2 a3 a4) := by
  refine g_enter hfl (by decide) (Nat.le_of_ble_eq_true rfl) (fun p e s m args below meth c hC => ?_)
  refine g_eq (F := f_X9_deadline M a1 a2 a3 a4) rfl ?_
  refine g_lv0 (lv1 := [(0, .ref (zad Z 9)), (1, .int a1), (2, .int a2), (3, .int a3), (4, .int a4)]) rfl ?_
  unfold f_X9_deadline
  refine g_iload_n hC 1 dX9_deadline_0 rfl rfl ?_
  refine g_istore hC (lv1 := [(5, .int a1), (0, .ref (zad Z 9)), (1, .int a1), (2, .int a2), (3, .int a3), (4, .int a4)]) dX9_deadline_1 (by decide) rfl ?_
  refine g_iload_n hC 3 dX9_deadline_3 rfl rfl ?_
  refine g_istore hC (lv1 := [(6, .int a2), (5, .int a1), (0, .ref (zad Z 9)), (1, .int a1), (2, .int a2), (3, .int a3), (4, .int a4)]) dX9_deadline_4 (by decide) rfl ?_
  refine g_sub (lv1 := [(0, .ref (zad Z 9)), (3, .int a3), (4, .int a4), (5, .int a1), (6, .int a2)]) [2, 5, 6, 1, 0] rfl ?_
  exact g_X9_deadline_l6 hC  5000 M a3 a4 a1 a2

-- ===== X9_isBehind =====
def f_X9_isBehind (M : gM) (a1 : Int32) : gR := (if a1 = (-1) then (rRet 0 M) else (if (M 9 1) ≤ a1 then (rRet 0 M) else (rRet 1 M)))
abbrev rm_X9_isBehind : Room := { frames := 0, cells := 0, slots := 0, locals := 0 }
set_option maxRecDepth 20000 in
set_option maxHeartbeats 4000000 in
theorem c_X9_isBehind {l : Launch} (hfl : l.stackTraces = false) (Z : gZ) (M : gM) (a1 : Int32) : gMet l yX9_isBehind cX9_isBehind 2 (some .boolean) rm_X9_isBehind 1 0 Z M [.ref (zad Z 9), .int a1] (f_X9_isBehind M a1) := by
  refine g_enter hfl (by decide) (Nat.le_of_ble_eq_true rfl) (fun p e s m args below meth c hC => ?_)
  refine g_eq (F := f_X9_isBehind M a1) rfl ?_
  refine g_lv0 (lv1 := [(0, .ref (zad Z 9)), (1, .int a1)]) rfl ?_
  unfold f_X9_isBehind
  refine g_iload_n hC 1 dX9_isBehind_0 rfl rfl ?_
  refine g_iconst hC (v := (-1)) dX9_isBehind_1 (by decide) ?_
  refine g_icmp_eq (tgt := 17) hC dX9_isBehind_2 (by decide) (fun _ => ?_) (fun _ => ?_)
  · refine g_iconst hC (v := 0) dX9_isBehind_17 (by decide) ?_
    exact g_zret0 hC rfl (by decide) dX9_isBehind_18
  · refine g_aload_n hC 0 dX9_isBehind_5 rfl rfl ?_
    refine gf_X9_152 hC dX9_isBehind_6 ?_
    refine g_iload_n hC 1 dX9_isBehind_9 rfl rfl ?_
    refine g_icmp_le (tgt := 17) hC dX9_isBehind_10 (by decide) (fun _ => ?_) (fun _ => ?_)
    · refine g_iconst hC (v := 0) dX9_isBehind_17 (by decide) ?_
      exact g_zret0 hC rfl (by decide) dX9_isBehind_18
    · refine g_iconst hC (v := 1) dX9_isBehind_13 (by decide) ?_
      refine g_goto (tgt := 18) hC dX9_isBehind_14 (by decide) ?_
      exact g_zret1 hC rfl (by decide) dX9_isBehind_18

-- ===== X9_latest =====
def f_X9_latest_lb5  (self5 : gM → Int32 → Int32 → Int32 → Int32 → gR) (M : gM) (a1 : Int32) (a2 : Int32) (a3 : Int32) (a4 : Int32) : gR := (if (M 9 23) ≤ a4 then (rRet a3 M) else (gI a4 160 (if (M 120 a4.toNatClampNeg) = a2 then (gI a4 160 (if (M 122 a4.toNatClampNeg) = a1 then (gI a4 160 (if (M 130 a4.toNatClampNeg) = 0 then (bV (a4 + 1) (fun x1 => (self5 M a1 a2 a4 x1))) else (bV (a4 + 1) (fun x2 => (self5 M a1 a2 a3 x2))))) else (bV (a4 + 1) (fun x3 => (self5 M a1 a2 a3 x3))))) else (bV (a4 + 1) (fun x4 => (self5 M a1 a2 a3 x4))))))
def f_X9_latest_l5  : Nat → gM → Int32 → Int32 → Int32 → Int32 → gR
  | 0, _, _, _, _, _ => rStuck
  | n + 1, M, a1, a2, a3, a4 => f_X9_latest_lb5  (f_X9_latest_l5  n) M a1 a2 a3 a4
def f_X9_latest (M : gM) (a1 : Int32) (a2 : Int32) : gR := (f_X9_latest_l5  5000 M a1 a2 (-1) 0)
abbrev rm_X9_latest : Room := { frames := 0, cells := 0, slots := 0, locals := 0 }
set_option maxRecDepth 20000 in
set_option maxHeartbeats 4000000 in
theorem g_X9_latest_lb5 {p : Program} {l : Launch} {e : Env} {s : State} {m : MethodId} {args : Array Value} {below : List Frame} {meth : Method} {c : Code} {Z : gZ} (hC : gC p l s m args meth c cX9_latest 5 RX9 (some .int) Z)  {self5 : gM → Int32 → Int32 → Int32 → Int32 → gR}  (hs5 : ∀ (M : gM) (a1 : Int32) (a2 : Int32) (a3 : Int32) (a4 : Int32) , gW p l e rm_X9_latest s m args below meth c 5 Z 1 0 0 M 5 [(0, .ref (zad Z 9)), (1, .int a1), (2, .int a2), (3, .int a3), (4, .int a4)] [] (self5 M a1 a2 a3 a4)) (M : gM) (a1 : Int32) (a2 : Int32) (a3 : Int32) (a4 : Int32) : gW p l e rm_X9_latest s m args below meth c 5 Z 1 0 0 M 5 [(0, .ref (zad Z 9)), (1, .int a1), (2, .int a2), (3, .int a3), (4, .int a4)] [] (f_X9_latest_lb5  self5 M a1 a2 a3 a4) := by
  unfold f_X9_latest_lb5
  refine g_iload hC 4 dX9_latest_5 rfl ?_
  refine g_aload_n hC 0 dX9_latest_7 rfl rfl ?_
  refine gf_X9_171 hC dX9_latest_8 ?_
  refine g_icmp_ge (tgt := 59) hC dX9_latest_11 (by decide) (fun _ => ?_) (fun _ => ?_)
  · refine g_iload_n hC 3 dX9_latest_59 rfl rfl ?_
    exact g_iret hC rfl (by decide) dX9_latest_60
  · refine g_aload_n hC 0 dX9_latest_14 rfl rfl ?_
    refine gf_X9_65 hC dX9_latest_15 ?_
    refine g_iload hC 4 dX9_latest_18 rfl ?_
    refine g_iald hC 120 (by decide) rfl dX9_latest_20 ?_
    refine g_iload_n hC 2 dX9_latest_21 rfl rfl ?_
    refine g_icmp_ne (tgt := 51) hC dX9_latest_22 (by decide) (fun _ => ?_) (fun _ => ?_)
    · refine g_aload_n hC 0 dX9_latest_25 rfl rfl ?_
      refine gf_X9_71 hC dX9_latest_26 ?_
      refine g_iload hC 4 dX9_latest_29 rfl ?_
      refine g_iald hC 122 (by decide) rfl dX9_latest_31 ?_
      refine g_iload_n hC 1 dX9_latest_32 rfl rfl ?_
      refine g_icmp_ne (tgt := 51) hC dX9_latest_33 (by decide) (fun _ => ?_) (fun _ => ?_)
      · refine g_aload_n hC 0 dX9_latest_36 rfl rfl ?_
        refine gf_X9_95 hC dX9_latest_37 ?_
        refine g_iload hC 4 dX9_latest_40 rfl ?_
        refine g_zald hC 130 (by decide) rfl dX9_latest_42 ?_
        refine g_if_ne (tgt := 51) hC dX9_latest_43 (by decide) (fun _ => ?_) (fun _ => ?_)
        · refine g_iload hC 4 dX9_latest_46 rfl ?_
          refine g_goto (tgt := 52) hC dX9_latest_48 (by decide) ?_
          refine g_istore_n hC (lv1 := [(3, .int a4), (0, .ref (zad Z 9)), (1, .int a1), (2, .int a2), (4, .int a4)]) dX9_latest_52 rfl (by decide) rfl ?_
          refine g_iinc hC 4 (v := 1) (fun x1 => [(4, .int x1), (3, .int a4), (0, .ref (zad Z 9)), (1, .int a1), (2, .int a2)]) dX9_latest_53 rfl (by decide) (by decide) (fun _ => rfl) (fun x1 => ?_)
          refine g_goto (tgt := 5) hC dX9_latest_56 (by decide) ?_
          refine g_sub (lv1 := [(0, .ref (zad Z 9)), (1, .int a1), (2, .int a2), (3, .int a4), (4, .int x1)]) [2, 3, 4, 1, 0] rfl ?_
          exact hs5 M a1 a2 a4 x1
        · refine g_iload_n hC 3 dX9_latest_51 rfl rfl ?_
          refine g_istore_n hC (lv1 := [(3, .int a3), (0, .ref (zad Z 9)), (1, .int a1), (2, .int a2), (4, .int a4)]) dX9_latest_52 rfl (by decide) rfl ?_
          refine g_iinc hC 4 (v := 1) (fun x2 => [(4, .int x2), (3, .int a3), (0, .ref (zad Z 9)), (1, .int a1), (2, .int a2)]) dX9_latest_53 rfl (by decide) (by decide) (fun _ => rfl) (fun x2 => ?_)
          refine g_goto (tgt := 5) hC dX9_latest_56 (by decide) ?_
          refine g_sub (lv1 := [(0, .ref (zad Z 9)), (1, .int a1), (2, .int a2), (3, .int a3), (4, .int x2)]) [2, 3, 4, 1, 0] rfl ?_
          exact hs5 M a1 a2 a3 x2
      · refine g_iload_n hC 3 dX9_latest_51 rfl rfl ?_
        refine g_istore_n hC (lv1 := [(3, .int a3), (0, .ref (zad Z 9)), (1, .int a1), (2, .int a2), (4, .int a4)]) dX9_latest_52 rfl (by decide) rfl ?_
        refine g_iinc hC 4 (v := 1) (fun x3 => [(4, .int x3), (3, .int a3), (0, .ref (zad Z 9)), (1, .int a1), (2, .int a2)]) dX9_latest_53 rfl (by decide) (by decide) (fun _ => rfl) (fun x3 => ?_)
        refine g_goto (tgt := 5) hC dX9_latest_56 (by decide) ?_
        refine g_sub (lv1 := [(0, .ref (zad Z 9)), (1, .int a1), (2, .int a2), (3, .int a3), (4, .int x3)]) [2, 3, 4, 1, 0] rfl ?_
        exact hs5 M a1 a2 a3 x3
    · refine g_iload_n hC 3 dX9_latest_51 rfl rfl ?_
      refine g_istore_n hC (lv1 := [(3, .int a3), (0, .ref (zad Z 9)), (1, .int a1), (2, .int a2), (4, .int a4)]) dX9_latest_52 rfl (by decide) rfl ?_
      refine g_iinc hC 4 (v := 1) (fun x4 => [(4, .int x4), (3, .int a3), (0, .ref (zad Z 9)), (1, .int a1), (2, .int a2)]) dX9_latest_53 rfl (by decide) (by decide) (fun _ => rfl) (fun x4 => ?_)
      refine g_goto (tgt := 5) hC dX9_latest_56 (by decide) ?_
      refine g_sub (lv1 := [(0, .ref (zad Z 9)), (1, .int a1), (2, .int a2), (3, .int a3), (4, .int x4)]) [2, 3, 4, 1, 0] rfl ?_
      exact hs5 M a1 a2 a3 x4
set_option maxRecDepth 20000 in
set_option maxHeartbeats 4000000 in
theorem g_X9_latest_l5 {p : Program} {l : Launch} {e : Env} {s : State} {m : MethodId} {args : Array Value} {below : List Frame} {meth : Method} {c : Code} {Z : gZ} (hC : gC p l s m args meth c cX9_latest 5 RX9 (some .int) Z)   : ∀ (n : Nat) (M : gM) (a1 : Int32) (a2 : Int32) (a3 : Int32) (a4 : Int32), gW p l e rm_X9_latest s m args below meth c 5 Z 1 0 0 M 5 [(0, .ref (zad Z 9)), (1, .int a1), (2, .int a2), (3, .int a3), (4, .int a4)] [] (f_X9_latest_l5  n M a1 a2 a3 a4)
  | 0, _, _, _, _, _ => g_stuck
  | n + 1, M, a1, a2, a3, a4 => g_X9_latest_lb5 hC  (g_X9_latest_l5 hC  n) M a1 a2 a3 a4
set_option maxRecDepth 20000 in
set_option maxHeartbeats 4000000 in
theorem c_X9_latest {l : Launch} (hfl : l.stackTraces = false) (Z : gZ) (M : gM) (a1 : Int32) (a2 : Int32) : gMet l yX9_latest cX9_latest 5 (some .int) rm_X9_latest 1 0 Z M [.ref (zad Z 9), .int a1, .int a2] (f_X9_latest M a1 a2) := by
  refine g_enter hfl (by decide) (Nat.le_of_ble_eq_true rfl) (fun p e s m args below meth c hC => ?_)
  refine g_eq (F := f_X9_latest M a1 a2) rfl ?_
  refine g_lv0 (lv1 := [(0, .ref (zad Z 9)), (1, .int a1), (2, .int a2)]) rfl ?_
  unfold f_X9_latest
  refine g_iconst hC (v := (-1)) dX9_latest_0 (by decide) ?_
  refine g_istore_n hC (lv1 := [(3, .int (-1)), (0, .ref (zad Z 9)), (1, .int a1), (2, .int a2)]) dX9_latest_1 rfl (by decide) rfl ?_
  refine g_iconst hC (v := 0) dX9_latest_2 (by decide) ?_
  refine g_istore hC (lv1 := [(4, .int 0), (3, .int (-1)), (0, .ref (zad Z 9)), (1, .int a1), (2, .int a2)]) dX9_latest_3 (by decide) rfl ?_
  refine g_sub (lv1 := [(0, .ref (zad Z 9)), (1, .int a1), (2, .int a2), (3, .int (-1)), (4, .int 0)]) [2, 3, 4, 1, 0] rfl ?_
  exact g_X9_latest_l5 hC  5000 M a1 a2 (-1) 0

-- ===== X9_cureOf =====
def f_X9_cureOf (M : gM) (a1 : Int32) : gR := (gI a1 160 (if (M 132 a1.toNatClampNeg) = 0 then (rRet (-1) M) else (gI a1 160 (gI a1 160 (gI a1 160 (gI a1 160 (gI (M 122 a1.toNatClampNeg) 24 (rb (f_X9_deadline M ((M 132 a1.toNatClampNeg) - 1) (M 133 a1.toNatClampNeg) (M 134 a1.toNatClampNeg) (M 109 (M 122 a1.toNatClampNeg).toNatClampNeg)) (fun x2 M1 => (rRet x2 M1))))))))))
abbrev rm_X9_cureOf : Room := { frames := 3, cells := 0, slots := 0, locals := 72 }
set_option maxRecDepth 20000 in
set_option maxHeartbeats 4000000 in
theorem c_X9_cureOf {l : Launch} (hfl : l.stackTraces = false) (Z : gZ) (M : gM) (a1 : Int32) : gMet l yX9_cureOf cX9_cureOf 2 (some .int) rm_X9_cureOf 1 0 Z M [.ref (zad Z 9), .int a1] (f_X9_cureOf M a1) := by
  refine g_enter hfl (by decide) (Nat.le_of_ble_eq_true rfl) (fun p e s m args below meth c hC => ?_)
  refine g_eq (F := f_X9_cureOf M a1) rfl ?_
  refine g_lv0 (lv1 := [(0, .ref (zad Z 9)), (1, .int a1)]) rfl ?_
  unfold f_X9_cureOf
  refine g_aload_n hC 0 dX9_cureOf_0 rfl rfl ?_
  refine gf_X9_101 hC dX9_cureOf_1 ?_
  refine g_iload_n hC 1 dX9_cureOf_4 rfl rfl ?_
  refine g_iald hC 132 (by decide) rfl dX9_cureOf_5 ?_
  refine g_if_ne (tgt := 13) hC dX9_cureOf_6 (by decide) (fun _ => ?_) (fun _ => ?_)
  · refine g_iconst hC (v := (-1)) dX9_cureOf_9 (by decide) ?_
    refine g_goto (tgt := 48) hC dX9_cureOf_10 (by decide) ?_
    exact g_iret hC rfl (by decide) dX9_cureOf_48
  · refine g_aload_n hC 0 dX9_cureOf_13 rfl rfl ?_
    refine g_aload_n hC 0 dX9_cureOf_14 rfl rfl ?_
    refine gf_X9_101 hC dX9_cureOf_15 ?_
    refine g_iload_n hC 1 dX9_cureOf_18 rfl rfl ?_
    refine g_iald hC 132 (by decide) rfl dX9_cureOf_19 ?_
    refine g_iconst hC (v := 1) dX9_cureOf_20 (by decide) ?_
    refine g_isub hC dX9_cureOf_21 ?_
    refine g_aload_n hC 0 dX9_cureOf_22 rfl rfl ?_
    refine gf_X9_104 hC dX9_cureOf_23 ?_
    refine g_iload_n hC 1 dX9_cureOf_26 rfl rfl ?_
    refine g_iald hC 133 (by decide) rfl dX9_cureOf_27 ?_
    refine g_aload_n hC 0 dX9_cureOf_28 rfl rfl ?_
    refine gf_X9_107 hC dX9_cureOf_29 ?_
    refine g_iload_n hC 1 dX9_cureOf_32 rfl rfl ?_
    refine g_zald hC 134 (by decide) rfl dX9_cureOf_33 ?_
    refine g_aload_n hC 0 dX9_cureOf_34 rfl rfl ?_
    refine gf_X9_32 hC dX9_cureOf_35 ?_
    refine g_aload_n hC 0 dX9_cureOf_38 rfl rfl ?_
    refine gf_X9_71 hC dX9_cureOf_39 ?_
    refine g_iload_n hC 1 dX9_cureOf_42 rfl rfl ?_
    refine g_iald hC 122 (by decide) rfl dX9_cureOf_43 ?_
    refine g_iald hC 109 (by decide) rfl dX9_cureOf_44 ?_
    refine g_callVi (n := 4) hC [.int ((M 132 a1.toNatClampNeg) - 1), .int (M 133 a1.toNatClampNeg), .int (M 134 a1.toNatClampNeg), .int (M 109 (M 122 a1.toNatClampNeg).toNatClampNeg)] 9 9 (by decide) rfl rfl (fun hne => c_X9_deadline hC.2.2.2.2.2.2.2.1 Z M ((M 132 a1.toNatClampNeg) - 1) (M 133 a1.toNatClampNeg) (M 134 a1.toNatClampNeg) (M 109 (M 122 a1.toNatClampNeg).toNatClampNeg) hne) lk_X9_210 mw_X9_deadline.1 mw_X9_deadline.2.1 mw_X9_deadline.2.2.1 mw_X9_deadline.2.2.2 ⟨rfl, by decide, by decide, by decide +kernel⟩ rfl rfl ⟨by decide, by decide⟩ rfl rfl (Nat.le_of_ble_eq_true rfl) (by decide) (by decide) (by decide) dX9_cureOf_45 (fun x2 M1 => ?_)
    exact g_iret hC rfl (by decide) dX9_cureOf_48

-- ===== X9_isCounted =====
def f_X9_isCounted (M : gM) (a1 : Int32) : gR := (gI a1 160 (if (M 132 a1.toNatClampNeg) = 0 then (rRet 1 M) else (gI a1 160 (if (M 135 a1.toNatClampNeg) = 0 then (rb (f_X9_cureOf M a1) (fun x2 M1 => (rb (f_X9_isBehind M1 x2) (fun x4 M3 => (if x4 = 0 then (rRet 1 M3) else (rRet 0 M3)))))) else (rRet 1 M)))))
abbrev rm_X9_isCounted : Room := { frames := 4, cells := 0, slots := 0, locals := 93 }
set_option maxRecDepth 20000 in
set_option maxHeartbeats 4000000 in
theorem c_X9_isCounted {l : Launch} (hfl : l.stackTraces = false) (Z : gZ) (M : gM) (a1 : Int32) : gMet l yX9_isCounted cX9_isCounted 2 (some .boolean) rm_X9_isCounted 1 0 Z M [.ref (zad Z 9), .int a1] (f_X9_isCounted M a1) := by
  refine g_enter hfl (by decide) (Nat.le_of_ble_eq_true rfl) (fun p e s m args below meth c hC => ?_)
  refine g_eq (F := f_X9_isCounted M a1) rfl ?_
  refine g_lv0 (lv1 := [(0, .ref (zad Z 9)), (1, .int a1)]) rfl ?_
  unfold f_X9_isCounted
  refine g_aload_n hC 0 dX9_isCounted_0 rfl rfl ?_
  refine gf_X9_101 hC dX9_isCounted_1 ?_
  refine g_iload_n hC 1 dX9_isCounted_4 rfl rfl ?_
  refine g_iald hC 132 (by decide) rfl dX9_isCounted_5 ?_
  refine g_if_eq (tgt := 18) hC dX9_isCounted_6 (by decide) (fun _ => ?_) (fun _ => ?_)
  · refine g_iconst hC (v := 1) dX9_isCounted_18 (by decide) ?_
    exact g_zret1 hC rfl (by decide) dX9_isCounted_19
  · refine g_aload_n hC 0 dX9_isCounted_9 rfl rfl ?_
    refine gf_X9_110 hC dX9_isCounted_10 ?_
    refine g_iload_n hC 1 dX9_isCounted_13 rfl rfl ?_
    refine g_zald hC 135 (by decide) rfl dX9_isCounted_14 ?_
    refine g_if_eq (tgt := 20) hC dX9_isCounted_15 (by decide) (fun _ => ?_) (fun _ => ?_)
    · refine g_aload_n hC 0 dX9_isCounted_20 rfl rfl ?_
      refine g_aload_n hC 0 dX9_isCounted_21 rfl rfl ?_
      refine g_iload_n hC 1 dX9_isCounted_22 rfl rfl ?_
      refine g_callVi (n := 1) hC [.int a1] 9 9 (by decide) rfl rfl (fun hne => c_X9_cureOf hC.2.2.2.2.2.2.2.1 Z M a1 hne) lk_X9_204 mw_X9_cureOf.1 mw_X9_cureOf.2.1 mw_X9_cureOf.2.2.1 mw_X9_cureOf.2.2.2 ⟨rfl, by decide, by decide, by decide +kernel⟩ rfl rfl ⟨by decide, by decide⟩ rfl rfl (Nat.le_of_ble_eq_true rfl) (by decide) (by decide) (by decide) dX9_isCounted_23 (fun x2 M1 => ?_)
      refine g_callVi (n := 1) hC [.int x2] 9 9 (by decide) rfl rfl (fun hne => c_X9_isBehind hC.2.2.2.2.2.2.2.1 Z M1 x2 hne) lk_X9_207 mw_X9_isBehind.1 mw_X9_isBehind.2.1 mw_X9_isBehind.2.2.1 mw_X9_isBehind.2.2.2 ⟨rfl, by decide, by decide, by decide +kernel⟩ rfl rfl ⟨by decide, by decide⟩ rfl rfl (Nat.le_of_ble_eq_true rfl) (by decide) (by decide) (by decide) dX9_isCounted_26 (fun x4 M3 => ?_)
      refine g_if_ne (tgt := 36) hC dX9_isCounted_29 (by decide) (fun _ => ?_) (fun _ => ?_)
      · refine g_iconst hC (v := 1) dX9_isCounted_32 (by decide) ?_
        refine g_goto (tgt := 37) hC dX9_isCounted_33 (by decide) ?_
        exact g_zret1 hC rfl (by decide) dX9_isCounted_37
      · refine g_iconst hC (v := 0) dX9_isCounted_36 (by decide) ?_
        exact g_zret0 hC rfl (by decide) dX9_isCounted_37
    · refine g_iconst hC (v := 1) dX9_isCounted_18 (by decide) ?_
      exact g_zret1 hC rfl (by decide) dX9_isCounted_19

-- ===== X9_isOpen =====
def f_X9_isOpen_b40 (self8 : gM → Int32 → Int32 → Int32 → gR) (M : gM) (a1 : Int32) (a3 : Int32)  : gR := (bV (a3 + 1) (fun x1 => (self8 M a1 1 x1)))
def f_X9_isOpen_lb8  (self8 : gM → Int32 → Int32 → Int32 → gR) (M : gM) (a1 : Int32) (a2 : Int32) (a3 : Int32) : gR := (if (M 9 23) ≤ a3 then (gZ01 a2 (rRet a2 M)) else (if a2 = 0 then (gZ01 a2 (rRet a2 M)) else (gI a3 160 (if (M 120 a3.toNatClampNeg) = 4 then (gI a3 160 (if (M 124 a3.toNatClampNeg) = a1 then (bV (a3 + 1) (fun x2 => (self8 M a1 0 x2))) else (f_X9_isOpen_b40 self8 M a1 a3 ))) else (f_X9_isOpen_b40 self8 M a1 a3 )))))
def f_X9_isOpen_l8  : Nat → gM → Int32 → Int32 → Int32 → gR
  | 0, _, _, _, _ => rStuck
  | n + 1, M, a1, a2, a3 => f_X9_isOpen_lb8  (f_X9_isOpen_l8  n) M a1 a2 a3
def f_X9_isOpen (M : gM) (a1 : Int32) : gR := (rb (f_X9_isCounted M a1) (fun x4 M3 => (f_X9_isOpen_l8  5000 M3 a1 x4 0)))
abbrev rm_X9_isOpen : Room := { frames := 5, cells := 0, slots := 0, locals := 114 }
set_option maxRecDepth 20000 in
set_option maxHeartbeats 4000000 in
theorem g_X9_isOpen_b40 {p : Program} {l : Launch} {e : Env} {s : State} {m : MethodId} {args : Array Value} {below : List Frame} {meth : Method} {c : Code} {Z : gZ} (hC : gC p l s m args meth c cX9_isOpen 4 RX9 (some .boolean) Z) {self8 : gM → Int32 → Int32 → Int32 → gR} (hs8 : ∀ (M : gM) (a1 : Int32) (a2 : Int32) (a3 : Int32) , gW p l e rm_X9_isOpen s m args below meth c 4 Z 1 0 0 M 8 [(0, .ref (zad Z 9)), (1, .int a1), (2, .int a2), (3, .int a3)] [] (self8 M a1 a2 a3)) (M : gM) (a1 : Int32) (a3 : Int32)  : gW p l e rm_X9_isOpen s m args below meth c 4 Z 1 0 0 M 40 [(0, .ref (zad Z 9)), (1, .int a1), (3, .int a3)] [] (f_X9_isOpen_b40 self8 M a1 a3 ) := by
  unfold f_X9_isOpen_b40
  refine g_iconst hC (v := 1) dX9_isOpen_40 (by decide) ?_
  refine g_goto (tgt := 45) hC dX9_isOpen_41 (by decide) ?_
  refine g_istore_n hC (lv1 := [(2, .int 1), (0, .ref (zad Z 9)), (1, .int a1), (3, .int a3)]) dX9_isOpen_45 rfl (by decide) rfl ?_
  refine g_iinc hC 3 (v := 1) (fun x1 => [(3, .int x1), (2, .int 1), (0, .ref (zad Z 9)), (1, .int a1)]) dX9_isOpen_46 rfl (by decide) (by decide) (fun _ => rfl) (fun x1 => ?_)
  refine g_goto (tgt := 8) hC dX9_isOpen_49 (by decide) ?_
  refine g_sub (lv1 := [(0, .ref (zad Z 9)), (1, .int a1), (2, .int 1), (3, .int x1)]) [2, 3, 1, 0] rfl ?_
  exact hs8 M a1 1 x1
set_option maxRecDepth 20000 in
set_option maxHeartbeats 4000000 in
theorem g_X9_isOpen_lb8 {p : Program} {l : Launch} {e : Env} {s : State} {m : MethodId} {args : Array Value} {below : List Frame} {meth : Method} {c : Code} {Z : gZ} (hC : gC p l s m args meth c cX9_isOpen 4 RX9 (some .boolean) Z)  {self8 : gM → Int32 → Int32 → Int32 → gR}  (hs8 : ∀ (M : gM) (a1 : Int32) (a2 : Int32) (a3 : Int32) , gW p l e rm_X9_isOpen s m args below meth c 4 Z 1 0 0 M 8 [(0, .ref (zad Z 9)), (1, .int a1), (2, .int a2), (3, .int a3)] [] (self8 M a1 a2 a3)) (M : gM) (a1 : Int32) (a2 : Int32) (a3 : Int32) : gW p l e rm_X9_isOpen s m args below meth c 4 Z 1 0 0 M 8 [(0, .ref (zad Z 9)), (1, .int a1), (2, .int a2), (3, .int a3)] [] (f_X9_isOpen_lb8  self8 M a1 a2 a3) := by
  unfold f_X9_isOpen_lb8
  refine g_iload_n hC 3 dX9_isOpen_8 rfl rfl ?_
  refine g_aload_n hC 0 dX9_isOpen_9 rfl rfl ?_
  refine gf_X9_171 hC dX9_isOpen_10 ?_
  refine g_icmp_ge (tgt := 52) hC dX9_isOpen_13 (by decide) (fun _ => ?_) (fun _ => ?_)
  · refine g_iload_n hC 2 dX9_isOpen_52 rfl rfl ?_
    exact g_zret hC rfl (by decide) dX9_isOpen_53
  · refine g_iload_n hC 2 dX9_isOpen_16 rfl rfl ?_
    refine g_if_eq (tgt := 52) hC dX9_isOpen_17 (by decide) (fun _ => ?_) (fun _ => ?_)
    · refine g_iload_n hC 2 dX9_isOpen_52 rfl rfl ?_
      exact g_zret hC rfl (by decide) dX9_isOpen_53
    · refine g_aload_n hC 0 dX9_isOpen_20 rfl rfl ?_
      refine gf_X9_65 hC dX9_isOpen_21 ?_
      refine g_iload_n hC 3 dX9_isOpen_24 rfl rfl ?_
      refine g_iald hC 120 (by decide) rfl dX9_isOpen_25 ?_
      refine g_iconst hC (v := 4) dX9_isOpen_26 (by decide) ?_
      refine g_icmp_ne (tgt := 40) hC dX9_isOpen_27 (by decide) (fun _ => ?_) (fun _ => ?_)
      · refine g_aload_n hC 0 dX9_isOpen_30 rfl rfl ?_
        refine gf_X9_77 hC dX9_isOpen_31 ?_
        refine g_iload_n hC 3 dX9_isOpen_34 rfl rfl ?_
        refine g_iald hC 124 (by decide) rfl dX9_isOpen_35 ?_
        refine g_iload_n hC 1 dX9_isOpen_36 rfl rfl ?_
        refine g_icmp_eq (tgt := 44) hC dX9_isOpen_37 (by decide) (fun _ => ?_) (fun _ => ?_)
        · refine g_iconst hC (v := 0) dX9_isOpen_44 (by decide) ?_
          refine g_istore_n hC (lv1 := [(2, .int 0), (0, .ref (zad Z 9)), (1, .int a1), (3, .int a3)]) dX9_isOpen_45 rfl (by decide) rfl ?_
          refine g_iinc hC 3 (v := 1) (fun x2 => [(3, .int x2), (2, .int 0), (0, .ref (zad Z 9)), (1, .int a1)]) dX9_isOpen_46 rfl (by decide) (by decide) (fun _ => rfl) (fun x2 => ?_)
          refine g_goto (tgt := 8) hC dX9_isOpen_49 (by decide) ?_
          refine g_sub (lv1 := [(0, .ref (zad Z 9)), (1, .int a1), (2, .int 0), (3, .int x2)]) [2, 3, 1, 0] rfl ?_
          exact hs8 M a1 0 x2
        · refine g_sub (lv1 := [(0, .ref (zad Z 9)), (1, .int a1), (3, .int a3)]) [0, 1, 3] rfl ?_
          exact g_X9_isOpen_b40 hC hs8 M a1 a3 
      · refine g_sub (lv1 := [(0, .ref (zad Z 9)), (1, .int a1), (3, .int a3)]) [0, 1, 3] rfl ?_
        exact g_X9_isOpen_b40 hC hs8 M a1 a3 
set_option maxRecDepth 20000 in
set_option maxHeartbeats 4000000 in
theorem g_X9_isOpen_l8 {p : Program} {l : Launch} {e : Env} {s : State} {m : MethodId} {args : Array Value} {below : List Frame} {meth : Method} {c : Code} {Z : gZ} (hC : gC p l s m args meth c cX9_isOpen 4 RX9 (some .boolean) Z)   : ∀ (n : Nat) (M : gM) (a1 : Int32) (a2 : Int32) (a3 : Int32), gW p l e rm_X9_isOpen s m args below meth c 4 Z 1 0 0 M 8 [(0, .ref (zad Z 9)), (1, .int a1), (2, .int a2), (3, .int a3)] [] (f_X9_isOpen_l8  n M a1 a2 a3)
  | 0, _, _, _, _ => g_stuck
  | n + 1, M, a1, a2, a3 => g_X9_isOpen_lb8 hC  (g_X9_isOpen_l8 hC  n) M a1 a2 a3
set_option maxRecDepth 20000 in
set_option maxHeartbeats 4000000 in
theorem c_X9_isOpen {l : Launch} (hfl : l.stackTraces = false) (Z : gZ) (M : gM) (a1 : Int32) : gMet l yX9_isOpen cX9_isOpen 4 (some .boolean) rm_X9_isOpen 1 0 Z M [.ref (zad Z 9), .int a1] (f_X9_isOpen M a1) := by
  refine g_enter hfl (by decide) (Nat.le_of_ble_eq_true rfl) (fun p e s m args below meth c hC => ?_)
  refine g_eq (F := f_X9_isOpen M a1) rfl ?_
  refine g_lv0 (lv1 := [(0, .ref (zad Z 9)), (1, .int a1)]) rfl ?_
  unfold f_X9_isOpen
  refine g_aload_n hC 0 dX9_isOpen_0 rfl rfl ?_
  refine g_iload_n hC 1 dX9_isOpen_1 rfl rfl ?_
  refine g_callVi (n := 1) hC [.int a1] 9 9 (by decide) rfl rfl (fun hne => c_X9_isCounted hC.2.2.2.2.2.2.2.1 Z M a1 hne) lk_X9_214 mw_X9_isCounted.1 mw_X9_isCounted.2.1 mw_X9_isCounted.2.2.1 mw_X9_isCounted.2.2.2 ⟨rfl, by decide, by decide, by decide +kernel⟩ rfl rfl ⟨by decide, by decide⟩ rfl rfl (Nat.le_of_ble_eq_true rfl) (by decide) (by decide) (by decide) dX9_isOpen_2 (fun x4 M3 => ?_)
  refine g_istore_n hC (lv1 := [(2, .int x4), (0, .ref (zad Z 9)), (1, .int a1)]) dX9_isOpen_5 rfl (by decide) rfl ?_
  refine g_iconst hC (v := 0) dX9_isOpen_6 (by decide) ?_
  refine g_istore_n hC (lv1 := [(3, .int 0), (2, .int x4), (0, .ref (zad Z 9)), (1, .int a1)]) dX9_isOpen_7 rfl (by decide) rfl ?_
  refine g_sub (lv1 := [(0, .ref (zad Z 9)), (1, .int a1), (2, .int x4), (3, .int 0)]) [2, 3, 1, 0] rfl ?_
  exact g_X9_isOpen_l8 hC  5000 M3 a1 x4 0

-- ===== X9_hasOpenMotion =====
def f_X9_hasOpenMotion_lb4  (self4 : gM → Int32 → Int32 → Int32 → gR) (M : gM) (a1 : Int32) (a2 : Int32) (a3 : Int32) : gR := (if (M 9 23) ≤ a3 then (gZ01 a2 (rRet a2 M)) else (if a2 = 0 then (gI a3 160 (if (M 120 a3.toNatClampNeg) = 2 then (gI a3 160 (if (M 122 a3.toNatClampNeg) = a1 then (rb (f_X9_isOpen M a3) (fun x2 M1 => (if x2 = 0 then (bV (a3 + 1) (fun x3 => (self4 M1 a1 0 x3))) else (bV (a3 + 1) (fun x4 => (self4 M1 a1 1 x4)))))) else (bV (a3 + 1) (fun x5 => (self4 M a1 0 x5))))) else (bV (a3 + 1) (fun x6 => (self4 M a1 0 x6))))) else (gZ01 a2 (rRet a2 M))))
def f_X9_hasOpenMotion_l4  : Nat → gM → Int32 → Int32 → Int32 → gR
  | 0, _, _, _, _ => rStuck
  | n + 1, M, a1, a2, a3 => f_X9_hasOpenMotion_lb4  (f_X9_hasOpenMotion_l4  n) M a1 a2 a3
def f_X9_hasOpenMotion (M : gM) (a1 : Int32) : gR := (f_X9_hasOpenMotion_l4  5000 M a1 0 0)
abbrev rm_X9_hasOpenMotion : Room := { frames := 6, cells := 0, slots := 0, locals := 137 }
set_option maxRecDepth 20000 in
set_option maxHeartbeats 4000000 in
theorem g_X9_hasOpenMotion_lb4 {p : Program} {l : Launch} {e : Env} {s : State} {m : MethodId} {args : Array Value} {below : List Frame} {meth : Method} {c : Code} {Z : gZ} (hC : gC p l s m args meth c cX9_hasOpenMotion 4 RX9 (some .boolean) Z)  {self4 : gM → Int32 → Int32 → Int32 → gR}  (hs4 : ∀ (M : gM) (a1 : Int32) (a2 : Int32) (a3 : Int32) , gW p l e rm_X9_hasOpenMotion s m args below meth c 4 Z 1 0 0 M 4 [(0, .ref (zad Z 9)), (1, .int a1), (2, .int a2), (3, .int a3)] [] (self4 M a1 a2 a3)) (M : gM) (a1 : Int32) (a2 : Int32) (a3 : Int32) : gW p l e rm_X9_hasOpenMotion s m args below meth c 4 Z 1 0 0 M 4 [(0, .ref (zad Z 9)), (1, .int a1), (2, .int a2), (3, .int a3)] [] (f_X9_hasOpenMotion_lb4  self4 M a1 a2 a3) := by
  unfold f_X9_hasOpenMotion_lb4
  refine g_iload_n hC 3 dX9_hasOpenMotion_4 rfl rfl ?_
  refine g_aload_n hC 0 dX9_hasOpenMotion_5 rfl rfl ?_
  refine gf_X9_171 hC dX9_hasOpenMotion_6 ?_
  refine g_icmp_ge (tgt := 56) hC dX9_hasOpenMotion_9 (by decide) (fun _ => ?_) (fun _ => ?_)
  · refine g_iload_n hC 2 dX9_hasOpenMotion_56 rfl rfl ?_
    exact g_zret hC rfl (by decide) dX9_hasOpenMotion_57
  · refine g_iload_n hC 2 dX9_hasOpenMotion_12 rfl rfl ?_
    refine g_if_ne (tgt := 56) hC dX9_hasOpenMotion_13 (by decide) (fun _ => ?_) (fun _ => ?_)
    · refine g_aload_n hC 0 dX9_hasOpenMotion_16 rfl rfl ?_
      refine gf_X9_65 hC dX9_hasOpenMotion_17 ?_
      refine g_iload_n hC 3 dX9_hasOpenMotion_20 rfl rfl ?_
      refine g_iald hC 120 (by decide) rfl dX9_hasOpenMotion_21 ?_
      refine g_iconst hC (v := 2) dX9_hasOpenMotion_22 (by decide) ?_
      refine g_icmp_ne (tgt := 48) hC dX9_hasOpenMotion_23 (by decide) (fun _ => ?_) (fun _ => ?_)
      · refine g_aload_n hC 0 dX9_hasOpenMotion_26 rfl rfl ?_
        refine gf_X9_71 hC dX9_hasOpenMotion_27 ?_
        refine g_iload_n hC 3 dX9_hasOpenMotion_30 rfl rfl ?_
        refine g_iald hC 122 (by decide) rfl dX9_hasOpenMotion_31 ?_
        refine g_iload_n hC 1 dX9_hasOpenMotion_32 rfl rfl ?_
        refine g_icmp_ne (tgt := 48) hC dX9_hasOpenMotion_33 (by decide) (fun _ => ?_) (fun _ => ?_)
        · refine g_aload_n hC 0 dX9_hasOpenMotion_36 rfl rfl ?_
          refine g_iload_n hC 3 dX9_hasOpenMotion_37 rfl rfl ?_
          refine g_callVi (n := 1) hC [.int a3] 9 9 (by decide) rfl rfl (fun hne => c_X9_isOpen hC.2.2.2.2.2.2.2.1 Z M a3 hne) lk_X9_217 mw_X9_isOpen.1 mw_X9_isOpen.2.1 mw_X9_isOpen.2.2.1 mw_X9_isOpen.2.2.2 ⟨rfl, by decide, by decide, by decide +kernel⟩ rfl rfl ⟨by decide, by decide⟩ rfl rfl (Nat.le_of_ble_eq_true rfl) (by decide) (by decide) (by decide) dX9_hasOpenMotion_38 (fun x2 M1 => ?_)
          refine g_if_eq (tgt := 48) hC dX9_hasOpenMotion_41 (by decide) (fun _ => ?_) (fun _ => ?_)
          · refine g_iconst hC (v := 0) dX9_hasOpenMotion_48 (by decide) ?_
            refine g_istore_n hC (lv1 := [(2, .int 0), (0, .ref (zad Z 9)), (1, .int a1), (3, .int a3)]) dX9_hasOpenMotion_49 rfl (by decide) rfl ?_
            refine g_iinc hC 3 (v := 1) (fun x3 => [(3, .int x3), (2, .int 0), (0, .ref (zad Z 9)), (1, .int a1)]) dX9_hasOpenMotion_50 rfl (by decide) (by decide) (fun _ => rfl) (fun x3 => ?_)
            refine g_goto (tgt := 4) hC dX9_hasOpenMotion_53 (by decide) ?_
            refine g_sub (lv1 := [(0, .ref (zad Z 9)), (1, .int a1), (2, .int 0), (3, .int x3)]) [2, 3, 1, 0] rfl ?_
            exact hs4 M1 a1 0 x3
          · refine g_iconst hC (v := 1) dX9_hasOpenMotion_44 (by decide) ?_
            refine g_goto (tgt := 49) hC dX9_hasOpenMotion_45 (by decide) ?_
            refine g_istore_n hC (lv1 := [(2, .int 1), (0, .ref (zad Z 9)), (1, .int a1), (3, .int a3)]) dX9_hasOpenMotion_49 rfl (by decide) rfl ?_
            refine g_iinc hC 3 (v := 1) (fun x4 => [(3, .int x4), (2, .int 1), (0, .ref (zad Z 9)), (1, .int a1)]) dX9_hasOpenMotion_50 rfl (by decide) (by decide) (fun _ => rfl) (fun x4 => ?_)
            refine g_goto (tgt := 4) hC dX9_hasOpenMotion_53 (by decide) ?_
            refine g_sub (lv1 := [(0, .ref (zad Z 9)), (1, .int a1), (2, .int 1), (3, .int x4)]) [2, 3, 1, 0] rfl ?_
            exact hs4 M1 a1 1 x4
        · refine g_iconst hC (v := 0) dX9_hasOpenMotion_48 (by decide) ?_
          refine g_istore_n hC (lv1 := [(2, .int 0), (0, .ref (zad Z 9)), (1, .int a1), (3, .int a3)]) dX9_hasOpenMotion_49 rfl (by decide) rfl ?_
          refine g_iinc hC 3 (v := 1) (fun x5 => [(3, .int x5), (2, .int 0), (0, .ref (zad Z 9)), (1, .int a1)]) dX9_hasOpenMotion_50 rfl (by decide) (by decide) (fun _ => rfl) (fun x5 => ?_)
          refine g_goto (tgt := 4) hC dX9_hasOpenMotion_53 (by decide) ?_
          refine g_sub (lv1 := [(0, .ref (zad Z 9)), (1, .int a1), (2, .int 0), (3, .int x5)]) [2, 3, 1, 0] rfl ?_
          exact hs4 M a1 0 x5
      · refine g_iconst hC (v := 0) dX9_hasOpenMotion_48 (by decide) ?_
        refine g_istore_n hC (lv1 := [(2, .int 0), (0, .ref (zad Z 9)), (1, .int a1), (3, .int a3)]) dX9_hasOpenMotion_49 rfl (by decide) rfl ?_
        refine g_iinc hC 3 (v := 1) (fun x6 => [(3, .int x6), (2, .int 0), (0, .ref (zad Z 9)), (1, .int a1)]) dX9_hasOpenMotion_50 rfl (by decide) (by decide) (fun _ => rfl) (fun x6 => ?_)
        refine g_goto (tgt := 4) hC dX9_hasOpenMotion_53 (by decide) ?_
        refine g_sub (lv1 := [(0, .ref (zad Z 9)), (1, .int a1), (2, .int 0), (3, .int x6)]) [2, 3, 1, 0] rfl ?_
        exact hs4 M a1 0 x6
    · refine g_iload_n hC 2 dX9_hasOpenMotion_56 rfl rfl ?_
      exact g_zret hC rfl (by decide) dX9_hasOpenMotion_57
set_option maxRecDepth 20000 in
set_option maxHeartbeats 4000000 in
theorem g_X9_hasOpenMotion_l4 {p : Program} {l : Launch} {e : Env} {s : State} {m : MethodId} {args : Array Value} {below : List Frame} {meth : Method} {c : Code} {Z : gZ} (hC : gC p l s m args meth c cX9_hasOpenMotion 4 RX9 (some .boolean) Z)   : ∀ (n : Nat) (M : gM) (a1 : Int32) (a2 : Int32) (a3 : Int32), gW p l e rm_X9_hasOpenMotion s m args below meth c 4 Z 1 0 0 M 4 [(0, .ref (zad Z 9)), (1, .int a1), (2, .int a2), (3, .int a3)] [] (f_X9_hasOpenMotion_l4  n M a1 a2 a3)
  | 0, _, _, _, _ => g_stuck
  | n + 1, M, a1, a2, a3 => g_X9_hasOpenMotion_lb4 hC  (g_X9_hasOpenMotion_l4 hC  n) M a1 a2 a3
set_option maxRecDepth 20000 in
set_option maxHeartbeats 4000000 in
theorem c_X9_hasOpenMotion {l : Launch} (hfl : l.stackTraces = false) (Z : gZ) (M : gM) (a1 : Int32) : gMet l yX9_hasOpenMotion cX9_hasOpenMotion 4 (some .boolean) rm_X9_hasOpenMotion 1 0 Z M [.ref (zad Z 9), .int a1] (f_X9_hasOpenMotion M a1) := by
  refine g_enter hfl (by decide) (Nat.le_of_ble_eq_true rfl) (fun p e s m args below meth c hC => ?_)
  refine g_eq (F := f_X9_hasOpenMotion M a1) rfl ?_
  refine g_lv0 (lv1 := [(0, .ref (zad Z 9)), (1, .int a1)]) rfl ?_
  unfold f_X9_hasOpenMotion
  refine g_iconst hC (v := 0) dX9_hasOpenMotion_0 (by decide) ?_
  refine g_istore_n hC (lv1 := [(2, .int 0), (0, .ref (zad Z 9)), (1, .int a1)]) dX9_hasOpenMotion_1 rfl (by decide) rfl ?_
  refine g_iconst hC (v := 0) dX9_hasOpenMotion_2 (by decide) ?_
  refine g_istore_n hC (lv1 := [(3, .int 0), (2, .int 0), (0, .ref (zad Z 9)), (1, .int a1)]) dX9_hasOpenMotion_3 rfl (by decide) rfl ?_
  refine g_sub (lv1 := [(0, .ref (zad Z 9)), (1, .int a1), (2, .int 0), (3, .int 0)]) [2, 3, 1, 0] rfl ?_
  exact g_X9_hasOpenMotion_l4 hC  5000 M a1 0 0
