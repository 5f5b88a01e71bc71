-- ===== X8_checkDeadline =====
def f_X8_checkDeadline (M : gM) (a1 : Int32) (a2 : Int32) : gR := (if a1 < 0 then (rThr 0 M) else (if a1 < 4 then (if a1 = 1 then (rb (f_X8_checkMotion M a2) (fun _ M1 => (rRet 0 M1))) else (if a1 = 3 then (rb (f_X8_checkEntry M a2) (fun _ M3 => (rRet 0 M3))) else (rb (f_X8_checkClaim M a2) (fun _ M5 => (rRet 0 M5))))) else (rThr 0 M)))
abbrev rm_X8_checkDeadline : Room := { frames := 8, cells := 2, slots := 12, locals := 132 }
set_option maxRecDepth 20000 in
set_option maxHeartbeats 4000000 in
theorem c_X8_checkDeadline {l : Launch} (hfl : l.stackTraces = false) (Z : gZ) (M : gM) (a1 : Int32) (a2 : Int32) : gMet l yX8_checkDeadline cX8_checkDeadline 3 none rm_X8_checkDeadline 0 2 Z M [.ref (zad Z 0), .int a1, .int a2] (f_X8_checkDeadline M a1 a2) := by
  refine g_enter hfl (by decide) (Nat.le_of_ble_eq_true rfl) (fun p e s m args below meth c hC => ?_)
  refine g_eq (F := f_X8_checkDeadline M a1 a2) rfl ?_
  refine g_lv0 (lv1 := [(0, .ref (zad Z 0)), (1, .int a1), (2, .int a2)]) rfl ?_
  unfold f_X8_checkDeadline
  refine g_iload_n hC 1 dX8_checkDeadline_0 rfl rfl ?_
  refine g_if_lt (tgt := 9) hC dX8_checkDeadline_1 (by decide) (fun _ => ?_) (fun _ => ?_)
  · exact g_throwSW (text := "no such sort") hC 0 (by decide) thr_c0 thr_i0 (by decide) thr_a0 thr_n0 thr_g0 (by decide) (by decide) (Nat.le_of_ble_eq_true rfl) (by decide) (by decide) (by decide) dX8_checkDeadline_9 dX8_checkDeadline_12 dX8_checkDeadline_13 dX8_checkDeadline_16 dX8_checkDeadline_19
  · refine g_iload_n hC 1 dX8_checkDeadline_4 rfl rfl ?_
    refine g_iconst hC (v := 4) dX8_checkDeadline_5 (by decide) ?_
    refine g_icmp_lt (tgt := 20) hC dX8_checkDeadline_6 (by decide) (fun _ => ?_) (fun _ => ?_)
    · refine g_iload_n hC 1 dX8_checkDeadline_20 rfl rfl ?_
      refine g_iconst hC (v := 1) dX8_checkDeadline_21 (by decide) ?_
      refine g_icmp_ne (tgt := 33) hC dX8_checkDeadline_22 (by decide) (fun _ => ?_) (fun _ => ?_)
      · refine g_aload_n hC 0 dX8_checkDeadline_25 rfl rfl ?_
        refine g_iload_n hC 2 dX8_checkDeadline_26 rfl rfl ?_
        refine g_callVv (n := 1) hC [.int a2] 0 8 (by decide) rfl rfl (fun hne => c_X8_checkMotion hC.2.2.2.2.2.2.2.1 Z M a2 hne) lk_X8_223 mw_X8_checkMotion.1 mw_X8_checkMotion.2.1 mw_X8_checkMotion.2.2.1 mw_X8_checkMotion.2.2.2 ⟨rfl, by decide, by decide, by decide +kernel⟩ rfl rfl ⟨by decide, by decide⟩ rfl rfl (Nat.le_of_ble_eq_true rfl) (by decide) (by decide) (by decide) dX8_checkDeadline_27 (fun M1 => ?_)
        refine g_goto (tgt := 51) hC dX8_checkDeadline_30 (by decide) ?_
        exact g_vret hC rfl (by decide) dX8_checkDeadline_51
      · refine g_iload_n hC 1 dX8_checkDeadline_33 rfl rfl ?_
        refine g_iconst hC (v := 3) dX8_checkDeadline_34 (by decide) ?_
        refine g_icmp_ne (tgt := 46) hC dX8_checkDeadline_35 (by decide) (fun _ => ?_) (fun _ => ?_)
        · refine g_aload_n hC 0 dX8_checkDeadline_38 rfl rfl ?_
          refine g_iload_n hC 2 dX8_checkDeadline_39 rfl rfl ?_
          refine g_callVv (n := 1) hC [.int a2] 0 8 (by decide) rfl rfl (fun hne => c_X8_checkEntry hC.2.2.2.2.2.2.2.1 Z M a2 hne) lk_X8_298 mw_X8_checkEntry.1 mw_X8_checkEntry.2.1 mw_X8_checkEntry.2.2.1 mw_X8_checkEntry.2.2.2 ⟨rfl, by decide, by decide, by decide +kernel⟩ rfl rfl ⟨by decide, by decide⟩ rfl rfl (Nat.le_of_ble_eq_true rfl) (by decide) (by decide) (by decide) dX8_checkDeadline_40 (fun M3 => ?_)
          refine g_goto (tgt := 51) hC dX8_checkDeadline_43 (by decide) ?_
          exact g_vret hC rfl (by decide) dX8_checkDeadline_51
        · refine g_aload_n hC 0 dX8_checkDeadline_46 rfl rfl ?_
          refine g_iload_n hC 2 dX8_checkDeadline_47 rfl rfl ?_
          refine g_callVv (n := 1) hC [.int a2] 0 8 (by decide) rfl rfl (fun hne => c_X8_checkClaim hC.2.2.2.2.2.2.2.1 Z M a2 hne) lk_X8_169 mw_X8_checkClaim.1 mw_X8_checkClaim.2.1 mw_X8_checkClaim.2.2.1 mw_X8_checkClaim.2.2.2 ⟨rfl, by decide, by decide, by decide +kernel⟩ rfl rfl ⟨by decide, by decide⟩ rfl rfl (Nat.le_of_ble_eq_true rfl) (by decide) (by decide) (by decide) dX8_checkDeadline_48 (fun M5 => ?_)
          exact g_vret hC rfl (by decide) dX8_checkDeadline_51
    · exact g_throwSW (text := "no such sort") hC 0 (by decide) thr_c0 thr_i0 (by decide) thr_a0 thr_n0 thr_g0 (by decide) (by decide) (Nat.le_of_ble_eq_true rfl) (by decide) (by decide) (by decide) dX8_checkDeadline_9 dX8_checkDeadline_12 dX8_checkDeadline_13 dX8_checkDeadline_16 dX8_checkDeadline_19

-- ===== X8_startOf =====
def f_X8_startOf (M : gM) (a1 : Int32) (a2 : Int32) : gR := (if a1 = 0 then (rb (f_X8_hasOpenMotion M a2) (fun x2 M1 => (if x2 = 0 then (rb (f_X3_answerStart M1 a2) (fun x4 M3 => (rRet x4 M3))) else (rRet (-1) M1)))) else (if a1 = 1 then (rRet a2 M) else (if a1 = 2 then (gI a2 24 (if (M 51 a2.toNatClampNeg) = 2 then (rb (f_X3_appealStart M a2) (fun x6 M5 => (rRet x6 M5))) else (rRet (-1) M))) else (rb (f_X3_hasDefect M a2) (fun x8 M7 => (if x8 = 0 then (rRet (-1) M7) else (rRet a2 M7)))))))
abbrev rm_X8_startOf : Room := { frames := 5, cells := 0, slots := 0, locals := 113 }
set_option maxRecDepth 20000 in
set_option maxHeartbeats 4000000 in
theorem c_X8_startOf {l : Launch} (hfl : l.stackTraces = false) (Z : gZ) (M : gM) (a1 : Int32) (a2 : Int32) : gMet l yX8_startOf cX8_startOf 3 (some .int) rm_X8_startOf 1 0 Z M [.ref (zad Z 0), .int a1, .int a2] (f_X8_startOf M a1 a2) := by
  refine g_enter hfl (by decide) (Nat.le_of_ble_eq_true rfl) (fun p e s m args below meth c hC => ?_)
  refine g_eq (F := f_X8_startOf M a1 a2) rfl ?_
  refine g_lv0 (lv1 := [(0, .ref (zad Z 0)), (1, .int a1), (2, .int a2)]) rfl ?_
  unfold f_X8_startOf
  refine g_iload_n hC 1 dX8_startOf_0 rfl rfl ?_
  refine g_if (fun hx0 => ?_) (fun hx0 => ?_)
  · refine g_swIn (tgt := 28) hC 0 hx0 dX8_startOf_1 (by decide) (by decide) rfl (by decide) ?_
    refine g_aload_n hC 0 dX8_startOf_28 rfl rfl ?_
    refine g_iload_n hC 2 dX8_startOf_29 rfl rfl ?_
    refine g_callVi (n := 1) hC [.int a2] 0 8 (by decide) rfl rfl (fun hne => c_X8_hasOpenMotion hC.2.2.2.2.2.2.2.1 Z M a2 hne) lk_X8_510 mw_X8_hasOpenMotion.1 mw_X8_hasOpenMotion.2.1 mw_X8_hasOpenMotion.2.2.1 mw_X8_hasOpenMotion.2.2.2 ⟨rfl, by decide, by decide, by decide +kernel⟩ rfl rfl ⟨by decide, by decide⟩ rfl rfl (Nat.le_of_ble_eq_true rfl) (by decide) (by decide) (by decide) dX8_startOf_30 (fun x2 M1 => ?_)
    refine g_if_eq (tgt := 40) hC dX8_startOf_33 (by decide) (fun _ => ?_) (fun _ => ?_)
    · refine g_aload_n hC 0 dX8_startOf_40 rfl rfl ?_
      refine gf_X8_33 hC dX8_startOf_41 ?_
      refine g_iload_n hC 2 dX8_startOf_44 rfl rfl ?_
      refine g_callVi (n := 1) hC [.int a2] 4 3 (by decide) rfl rfl (fun hne => c_X3_answerStart hC.2.2.2.2.2.2.2.1 Z M1 a2 hne) lk_X8_217 mw_X3_answerStart.1 mw_X3_answerStart.2.1 mw_X3_answerStart.2.2.1 mw_X3_answerStart.2.2.2 ⟨rfl, by decide, by decide, by decide +kernel⟩ rfl rfl ⟨by decide, by decide⟩ rfl rfl (Nat.le_of_ble_eq_true rfl) (by decide) (by decide) (by decide) dX8_startOf_45 (fun x4 M3 => ?_)
      exact g_iret hC rfl (by decide) dX8_startOf_48
    · refine g_iconst hC (v := (-1)) dX8_startOf_36 (by decide) ?_
      refine g_goto (tgt := 48) hC dX8_startOf_37 (by decide) ?_
      exact g_iret hC rfl (by decide) dX8_startOf_48
  · skip
    refine g_if (fun hx1 => ?_) (fun hx1 => ?_)
    · refine g_swIn (tgt := 49) hC 1 hx1 dX8_startOf_1 (by decide) (by decide) rfl (by decide) ?_
      refine g_iload_n hC 2 dX8_startOf_49 rfl rfl ?_
      exact g_iret hC rfl (by decide) dX8_startOf_50
    · skip
      refine g_if (fun hx2 => ?_) (fun hx2 => ?_)
      · refine g_swIn (tgt := 51) hC 2 hx2 dX8_startOf_1 (by decide) (by decide) rfl (by decide) ?_
        refine g_aload_n hC 0 dX8_startOf_51 rfl rfl ?_
        refine gf_X8_26 hC dX8_startOf_52 ?_
        refine gf_X8_195 hC dX8_startOf_55 ?_
        refine g_iload_n hC 2 dX8_startOf_58 rfl rfl ?_
        refine g_iald hC 51 (by decide) rfl dX8_startOf_59 ?_
        refine g_iconst hC (v := 2) dX8_startOf_60 (by decide) ?_
        refine g_icmp_ne (tgt := 75) hC dX8_startOf_61 (by decide) (fun _ => ?_) (fun _ => ?_)
        · refine g_aload_n hC 0 dX8_startOf_64 rfl rfl ?_
          refine gf_X8_33 hC dX8_startOf_65 ?_
          refine g_iload_n hC 2 dX8_startOf_68 rfl rfl ?_
          refine g_callVi (n := 1) hC [.int a2] 4 3 (by decide) rfl rfl (fun hne => c_X3_appealStart hC.2.2.2.2.2.2.2.1 Z M a2 hne) lk_X8_273 mw_X3_appealStart.1 mw_X3_appealStart.2.1 mw_X3_appealStart.2.2.1 mw_X3_appealStart.2.2.2 ⟨rfl, by decide, by decide, by decide +kernel⟩ rfl rfl ⟨by decide, by decide⟩ rfl rfl (Nat.le_of_ble_eq_true rfl) (by decide) (by decide) (by decide) dX8_startOf_69 (fun x6 M5 => ?_)
          refine g_goto (tgt := 76) hC dX8_startOf_72 (by decide) ?_
          exact g_iret hC rfl (by decide) dX8_startOf_76
        · refine g_iconst hC (v := (-1)) dX8_startOf_75 (by decide) ?_
          exact g_iret hC rfl (by decide) dX8_startOf_76
      · skip
        refine g_swOut (tgt := 77) hC (gSwOut a1 0 3 (by decide) (by decide) (fun j hj => by
          match j, hj with
          | 0, _ => exact hx0
          | 1, _ => exact hx1
          | 2, _ => exact hx2
          | n + 3, h => exact absurd h (by omega))) dX8_startOf_1 (by decide) ?_
        refine g_aload_n hC 0 dX8_startOf_77 rfl rfl ?_
        refine gf_X8_33 hC dX8_startOf_78 ?_
        refine g_iload_n hC 2 dX8_startOf_81 rfl rfl ?_
        refine g_callVi (n := 1) hC [.int a2] 4 3 (by decide) rfl rfl (fun hne => c_X3_hasDefect hC.2.2.2.2.2.2.2.1 Z M a2 hne) lk_X8_304 mw_X3_hasDefect.1 mw_X3_hasDefect.2.1 mw_X3_hasDefect.2.2.1 mw_X3_hasDefect.2.2.2 ⟨rfl, by decide, by decide, by decide +kernel⟩ rfl rfl ⟨by decide, by decide⟩ rfl rfl (Nat.le_of_ble_eq_true rfl) (by decide) (by decide) (by decide) dX8_startOf_82 (fun x8 M7 => ?_)
        refine g_if_eq (tgt := 92) hC dX8_startOf_85 (by decide) (fun _ => ?_) (fun _ => ?_)
        · refine g_iconst hC (v := (-1)) dX8_startOf_92 (by decide) ?_
          exact g_iret hC rfl (by decide) dX8_startOf_93
        · refine g_iload_n hC 2 dX8_startOf_88 rfl rfl ?_
          refine g_goto (tgt := 93) hC dX8_startOf_89 (by decide) ?_
          exact g_iret hC rfl (by decide) dX8_startOf_93

-- ===== X8_extend =====
def f_X8_extend_b51  (M : gM) (a3 : Int32) (a4 : Int32) (t0 : Int32) : gR := (if a4 = (-1) then (rThr 2 M) else (if t0 = (-1) then (rThr 2 M) else (rb (f_X0_isPast M t0) (fun x2 M1 => (if x2 = 0 then (gI a4 160 (gI a4 160 (bM (gset M1 63 a4.toNatClampNeg ((M1 63 a4.toNatClampNeg) + a3)) (fun M3 => (rb (f_X8_dueFrom M3 a4) (fun x5 M4 => (rRet x5 M4))))))) else (rThr 2 M1))))))
def f_X8_extend (M : gM) (a1 : Int32) (a2 : Int32) (a3 : Int32) : gR := (if a1 = 3 then (rThr 0 M) else (rb (f_X8_checkDeadline M a1 a2) (fun _ M6 => (rb (f_X8_checkDays M6 a3) (fun _ M8 => (rb (f_X8_startOf M8 a1 a2) (fun x11 M10 => (if x11 = (-1) then (f_X8_extend_b51  M10 a3 x11 (-1)) else (rb (f_X8_dueFrom M10 x11) (fun x13 M12 => (f_X8_extend_b51  M12 a3 x11 x13)))))))))))
abbrev rm_X8_extend : Room := { frames := 9, cells := 4, slots := 24, locals := 154 }
set_option maxRecDepth 20000 in
set_option maxHeartbeats 4000000 in
theorem g_X8_extend_b51 {p : Program} {l : Launch} {e : Env} {s : State} {m : MethodId} {args : Array Value} {below : List Frame} {meth : Method} {c : Code} {Z : gZ} (hC : gC p l s m args meth c cX8_extend 6 RX8 (some .int) Z)   (M : gM) (a3 : Int32) (a4 : Int32) (t0 : Int32) : gW p l e rm_X8_extend s m args below meth c 6 Z 1 4 3 M 51 [(0, .ref (zad Z 0)), (3, .int a3), (4, .int a4)] [.int t0] (f_X8_extend_b51  M a3 a4 t0) := by
  unfold f_X8_extend_b51
  refine g_istore hC (lv1 := [(5, .int t0), (0, .ref (zad Z 0)), (3, .int a3), (4, .int a4)]) dX8_extend_51 (by decide) rfl ?_
  refine g_iload hC 3 dX8_extend_53 rfl ?_
  refine g_iconst hC (v := (-1)) dX8_extend_55 (by decide) ?_
  refine g_icmp_eq (tgt := 77) hC dX8_extend_56 (by decide) (fun _ => ?_) (fun _ => ?_)
  · exact g_throwSW (text := "it cannot be extended") hC 2 (by decide) thr_c2 thr_i2 (by decide) thr_a2 thr_n2 thr_g2 (by decide) (by decide) (Nat.le_of_ble_eq_true rfl) (by decide) (by decide) (by decide) dX8_extend_77 dX8_extend_80 dX8_extend_81 dX8_extend_84 dX8_extend_87
  · refine g_iload hC 0 dX8_extend_59 rfl ?_
    refine g_iconst hC (v := (-1)) dX8_extend_61 (by decide) ?_
    refine g_icmp_eq (tgt := 77) hC dX8_extend_62 (by decide) (fun _ => ?_) (fun _ => ?_)
    · exact g_throwSW (text := "it cannot be extended") hC 2 (by decide) thr_c2 thr_i2 (by decide) thr_a2 thr_n2 thr_g2 (by decide) (by decide) (Nat.le_of_ble_eq_true rfl) (by decide) (by decide) (by decide) dX8_extend_77 dX8_extend_80 dX8_extend_81 dX8_extend_84 dX8_extend_87
    · refine g_aload_n hC 1 dX8_extend_65 rfl rfl ?_
      refine gf_X8_12 hC dX8_extend_66 ?_
      refine g_iload hC 0 dX8_extend_69 rfl ?_
      refine g_callVi (n := 1) hC [.int t0] 1 0 (by decide) rfl rfl (fun hne => c_X0_isPast hC.2.2.2.2.2.2.2.1 Z M t0 hne) lk_X8_324 mw_X0_isPast.1 mw_X0_isPast.2.1 mw_X0_isPast.2.2.1 mw_X0_isPast.2.2.2 ⟨rfl, by decide, by decide, by decide +kernel⟩ rfl rfl ⟨by decide, by decide⟩ rfl rfl (Nat.le_of_ble_eq_true rfl) (by decide) (by decide) (by decide) dX8_extend_71 (fun x2 M1 => ?_)
      refine g_if_eq (tgt := 88) hC dX8_extend_74 (by decide) (fun _ => ?_) (fun _ => ?_)
      · refine g_aload_n hC 1 dX8_extend_88 rfl rfl ?_
        refine gf_X8_33 hC dX8_extend_89 ?_
        refine gf_X8_208 hC dX8_extend_92 ?_
        refine g_iload hC 3 dX8_extend_95 rfl ?_
        refine g_dup2 hC dX8_extend_97 rfl rfl ?_
        refine g_iald hC 63 (by decide) rfl dX8_extend_98 ?_
        refine g_iload_n hC 2 dX8_extend_99 rfl rfl ?_
        refine g_iadd hC dX8_extend_100 ?_
        refine g_iast hC 63 (by decide) rfl dX8_extend_101 (fun M3 => ?_)
        refine g_aload_n hC 1 dX8_extend_102 rfl rfl ?_
        refine g_iload hC 3 dX8_extend_103 rfl ?_
        refine g_callVi (n := 1) hC [.int a4] 0 8 (by decide) rfl rfl (fun hne => c_X8_dueFrom hC.2.2.2.2.2.2.2.1 Z M3 a4 hne) lk_X8_337 mw_X8_dueFrom.1 mw_X8_dueFrom.2.1 mw_X8_dueFrom.2.2.1 mw_X8_dueFrom.2.2.2 ⟨rfl, by decide, by decide, by decide +kernel⟩ rfl rfl ⟨by decide, by decide⟩ rfl rfl (Nat.le_of_ble_eq_true rfl) (by decide) (by decide) (by decide) dX8_extend_105 (fun x5 M4 => ?_)
        exact g_iret hC rfl (by decide) dX8_extend_108
      · exact g_throwSW (text := "it cannot be extended") hC 2 (by decide) thr_c2 thr_i2 (by decide) thr_a2 thr_n2 thr_g2 (by decide) (by decide) (Nat.le_of_ble_eq_true rfl) (by decide) (by decide) (by decide) dX8_extend_77 dX8_extend_80 dX8_extend_81 dX8_extend_84 dX8_extend_87
set_option maxRecDepth 20000 in
set_option maxHeartbeats 4000000 in
theorem c_X8_extend {l : Launch} (hfl : l.stackTraces = false) (Z : gZ) (M : gM) (a1 : Int32) (a2 : Int32) (a3 : Int32) : gMet l yX8_extend cX8_extend 6 (some .int) rm_X8_extend 1 4 Z M [.ref (zad Z 0), .int a1, .int a2, .int a3] (f_X8_extend M a1 a2 a3) := by
  refine g_enter hfl (by decide) (Nat.le_of_ble_eq_true rfl) (fun p e s m args below meth c hC => ?_)
  refine g_eq (F := f_X8_extend M a1 a2 a3) rfl ?_
  refine g_lv0 (lv1 := [(0, .ref (zad Z 0)), (1, .int a1), (2, .int a2), (3, .int a3)]) rfl ?_
  unfold f_X8_extend
  refine g_iload_n hC 1 dX8_extend_0 rfl rfl ?_
  refine g_iconst hC (v := 3) dX8_extend_1 (by decide) ?_
  refine g_icmp_ne (tgt := 16) hC dX8_extend_2 (by decide) (fun _ => ?_) (fun _ => ?_)
  · exact g_throwSW (text := "no deadline of this sort is extended") hC 0 (by decide) thr_c0 thr_i0 (by decide) thr_a0 thr_n0 thr_g0 (by decide) (by decide) (Nat.le_of_ble_eq_true rfl) (by decide) (by decide) (by decide) dX8_extend_5 dX8_extend_8 dX8_extend_9 dX8_extend_12 dX8_extend_15
  · refine g_aload_n hC 0 dX8_extend_16 rfl rfl ?_
    refine g_iload_n hC 1 dX8_extend_17 rfl rfl ?_
    refine g_iload_n hC 2 dX8_extend_18 rfl rfl ?_
    refine g_callVv (n := 2) hC [.int a1, .int a2] 0 8 (by decide) rfl rfl (fun hne => c_X8_checkDeadline hC.2.2.2.2.2.2.2.1 Z M a1 a2 hne) lk_X8_331 mw_X8_checkDeadline.1 mw_X8_checkDeadline.2.1 mw_X8_checkDeadline.2.2.1 mw_X8_checkDeadline.2.2.2 ⟨rfl, by decide, by decide, by decide +kernel⟩ rfl rfl ⟨by decide, by decide⟩ rfl rfl (Nat.le_of_ble_eq_true rfl) (by decide) (by decide) (by decide) dX8_extend_19 (fun M6 => ?_)
    refine g_aload_n hC 0 dX8_extend_22 rfl rfl ?_
    refine g_iload_n hC 3 dX8_extend_23 rfl rfl ?_
    refine g_callVv (n := 1) hC [.int a3] 0 8 (by decide) rfl rfl (fun hne => c_X8_checkDays hC.2.2.2.2.2.2.2.1 Z M6 a3 hne) lk_X8_65 mw_X8_checkDays.1 mw_X8_checkDays.2.1 mw_X8_checkDays.2.2.1 mw_X8_checkDays.2.2.2 ⟨rfl, by decide, by decide, by decide +kernel⟩ rfl rfl ⟨by decide, by decide⟩ rfl rfl (Nat.le_of_ble_eq_true rfl) (by decide) (by decide) (by decide) dX8_extend_24 (fun M8 => ?_)
    refine g_aload_n hC 0 dX8_extend_27 rfl rfl ?_
    refine g_iload_n hC 1 dX8_extend_28 rfl rfl ?_
    refine g_iload_n hC 2 dX8_extend_29 rfl rfl ?_
    refine g_callVi (n := 2) hC [.int a1, .int a2] 0 8 (by decide) rfl rfl (fun hne => c_X8_startOf hC.2.2.2.2.2.2.2.1 Z M8 a1 a2 hne) lk_X8_334 mw_X8_startOf.1 mw_X8_startOf.2.1 mw_X8_startOf.2.2.1 mw_X8_startOf.2.2.2 ⟨rfl, by decide, by decide, by decide +kernel⟩ rfl rfl ⟨by decide, by decide⟩ rfl rfl (Nat.le_of_ble_eq_true rfl) (by decide) (by decide) (by decide) dX8_extend_30 (fun x11 M10 => ?_)
    refine g_istore hC (lv1 := [(4, .int x11), (0, .ref (zad Z 0)), (1, .int a1), (2, .int a2), (3, .int a3)]) dX8_extend_33 (by decide) rfl ?_
    refine g_iload hC 0 dX8_extend_35 rfl ?_
    refine g_iconst hC (v := (-1)) dX8_extend_37 (by decide) ?_
    refine g_icmp_ne (tgt := 45) hC dX8_extend_38 (by decide) (fun _ => ?_) (fun _ => ?_)
    · refine g_iconst hC (v := (-1)) dX8_extend_41 (by decide) ?_
      refine g_goto (tgt := 51) hC dX8_extend_42 (by decide) ?_
      refine g_sub (lv1 := [(0, .ref (zad Z 0)), (3, .int a3), (4, .int x11)]) [1, 4, 0] rfl ?_
      exact g_X8_extend_b51 hC  M10 a3 x11 (-1)
    · refine g_aload_n hC 1 dX8_extend_45 rfl rfl ?_
      refine g_iload hC 0 dX8_extend_46 rfl ?_
      refine g_callVi (n := 1) hC [.int x11] 0 8 (by decide) rfl rfl (fun hne => c_X8_dueFrom hC.2.2.2.2.2.2.2.1 Z M10 x11 hne) lk_X8_337 mw_X8_dueFrom.1 mw_X8_dueFrom.2.1 mw_X8_dueFrom.2.2.1 mw_X8_dueFrom.2.2.2 ⟨rfl, by decide, by decide, by decide +kernel⟩ rfl rfl ⟨by decide, by decide⟩ rfl rfl (Nat.le_of_ble_eq_true rfl) (by decide) (by decide) (by decide) dX8_extend_48 (fun x13 M12 => ?_)
      refine g_sub (lv1 := [(0, .ref (zad Z 0)), (3, .int a3), (4, .int x11)]) [1, 4, 0] rfl ?_
      exact g_X8_extend_b51 hC  M12 a3 x11 x13

-- ===== X8_meetsOther =====
def f_X8_meetsOther_b49 (self3 : gM → Int32 → Int32 → Int32 → Int32 → Int32 → gR) (M : gM) (a1 : Int32) (a2 : Int32) (a3 : Int32) (a4 : Int32) (a5 : Int32) (t0 : Int32) : gR := (if a5 = a1 then (bV (a5 + 1) (fun x1 => (self3 M a1 a2 a3 a4 x1))) else (if t0 = 0 then (bV (a5 + 1) (fun x2 => (self3 M a1 a2 a3 a4 x2))) else (gI a5 40 (rb (f_X1_areBound M a2 (M 69 a5.toNatClampNeg)) (fun x4 M3 => (if x4 = 0 then (bV (a5 + 1) (fun x5 => (self3 M3 a1 a2 a3 a4 x5))) else (rRet 1 M3)))))))
def f_X8_meetsOther_b48 (self3 : gM → Int32 → Int32 → Int32 → Int32 → Int32 → gR) (M : gM) (a1 : Int32) (a2 : Int32) (a3 : Int32) (a4 : Int32) (a5 : Int32)  : gR := (f_X8_meetsOther_b49 self3 M a1 a2 a3 a4 a5 0)
def f_X8_meetsOther_lb3  (self3 : gM → Int32 → Int32 → Int32 → Int32 → Int32 → gR) (M : gM) (a1 : Int32) (a2 : Int32) (a3 : Int32) (a4 : Int32) (a5 : Int32) : gR := (if (M 5 0) ≤ a5 then (rRet 0 M) else (gI a5 40 (if (M 70 a5.toNatClampNeg) = a3 then (gI a5 40 (if (M 71 a5.toNatClampNeg) = a4 then (f_X8_meetsOther_b49 self3 M a1 a2 a3 a4 a5 1) else (f_X8_meetsOther_b48 self3 M a1 a2 a3 a4 a5 ))) else (f_X8_meetsOther_b48 self3 M a1 a2 a3 a4 a5 ))))
def f_X8_meetsOther_l3  : Nat → gM → Int32 → Int32 → Int32 → Int32 → Int32 → gR
  | 0, _, _, _, _, _, _ => rStuck
  | n + 1, M, a1, a2, a3, a4, a5 => f_X8_meetsOther_lb3  (f_X8_meetsOther_l3  n) M a1 a2 a3 a4 a5
def f_X8_meetsOther (M : gM) (a1 : Int32) (a2 : Int32) (a3 : Int32) (a4 : Int32) : gR := (f_X8_meetsOther_l3  5000 M a1 a2 a3 a4 0)
abbrev rm_X8_meetsOther : Room := { frames := 2, cells := 0, slots := 0, locals := 43 }
set_option maxRecDepth 20000 in
set_option maxHeartbeats 4000000 in
theorem g_X8_meetsOther_b49 {p : Program} {l : Launch} {e : Env} {s : State} {m : MethodId} {args : Array Value} {below : List Frame} {meth : Method} {c : Code} {Z : gZ} (hC : gC p l s m args meth c cX8_meetsOther 7 RX8 (some .boolean) Z) {self3 : gM → Int32 → Int32 → Int32 → Int32 → Int32 → gR} (hs3 : ∀ (M : gM) (a1 : Int32) (a2 : Int32) (a3 : Int32) (a4 : Int32) (a5 : Int32) , gW p l e rm_X8_meetsOther s m args below meth c 7 Z 1 0 0 M 3 [(0, .ref (zad Z 0)), (1, .int a1), (2, .int a2), (3, .int a3), (4, .int a4), (5, .int a5)] [] (self3 M a1 a2 a3 a4 a5)) (M : gM) (a1 : Int32) (a2 : Int32) (a3 : Int32) (a4 : Int32) (a5 : Int32) (t0 : Int32) : gW p l e rm_X8_meetsOther s m args below meth c 7 Z 1 0 0 M 49 [(0, .ref (zad Z 0)), (1, .int a1), (2, .int a2), (3, .int a3), (4, .int a4), (5, .int a5)] [.int t0] (f_X8_meetsOther_b49 self3 M a1 a2 a3 a4 a5 t0) := by
  unfold f_X8_meetsOther_b49
  refine g_istore hC (lv1 := [(6, .int t0), (0, .ref (zad Z 0)), (1, .int a1), (2, .int a2), (3, .int a3), (4, .int a4), (5, .int a5)]) dX8_meetsOther_49 (by decide) rfl ?_
  refine g_iload hC 6 dX8_meetsOther_51 rfl ?_
  refine g_iload_n hC 2 dX8_meetsOther_53 rfl rfl ?_
  refine g_icmp_eq (tgt := 85) hC dX8_meetsOther_54 (by decide) (fun _ => ?_) (fun _ => ?_)
  · refine g_iinc hC 6 (v := 1) (fun x1 => [(5, .int x1), (6, .int t0), (0, .ref (zad Z 0)), (1, .int a1), (2, .int a2), (3, .int a3), (4, .int a4)]) dX8_meetsOther_85 rfl (by decide) (by decide) (fun _ => rfl) (fun x1 => ?_)
    refine g_goto (tgt := 3) hC dX8_meetsOther_88 (by decide) ?_
    refine g_sub (lv1 := [(0, .ref (zad Z 0)), (1, .int a1), (2, .int a2), (3, .int a3), (4, .int a4), (5, .int x1)]) [2, 3, 4, 5, 6, 0] rfl ?_
    exact hs3 M a1 a2 a3 a4 x1
  · refine g_iload hC 0 dX8_meetsOther_57 rfl ?_
    refine g_if_eq (tgt := 85) hC dX8_meetsOther_59 (by decide) (fun _ => ?_) (fun _ => ?_)
    · refine g_iinc hC 6 (v := 1) (fun x2 => [(5, .int x2), (6, .int t0), (0, .ref (zad Z 0)), (1, .int a1), (2, .int a2), (3, .int a3), (4, .int a4)]) dX8_meetsOther_85 rfl (by decide) (by decide) (fun _ => rfl) (fun x2 => ?_)
      refine g_goto (tgt := 3) hC dX8_meetsOther_88 (by decide) ?_
      refine g_sub (lv1 := [(0, .ref (zad Z 0)), (1, .int a1), (2, .int a2), (3, .int a3), (4, .int a4), (5, .int x2)]) [2, 3, 4, 5, 6, 0] rfl ?_
      exact hs3 M a1 a2 a3 a4 x2
    · refine g_aload_n hC 1 dX8_meetsOther_62 rfl rfl ?_
      refine gf_X8_19 hC dX8_meetsOther_63 ?_
      refine g_iload_n hC 3 dX8_meetsOther_66 rfl rfl ?_
      refine g_aload_n hC 1 dX8_meetsOther_67 rfl rfl ?_
      refine gf_X8_40 hC dX8_meetsOther_68 ?_
      refine gf_X8_523 hC dX8_meetsOther_71 ?_
      refine g_iload hC 6 dX8_meetsOther_74 rfl ?_
      refine g_iald hC 69 (by decide) rfl dX8_meetsOther_76 ?_
      refine g_callVi (n := 2) hC [.int a2, .int (M 69 a5.toNatClampNeg)] 2 1 (by decide) rfl rfl (fun hne => c_X1_areBound hC.2.2.2.2.2.2.2.1 Z M a2 (M 69 a5.toNatClampNeg) hne) lk_X8_524 mw_X1_areBound.1 mw_X1_areBound.2.1 mw_X1_areBound.2.2.1 mw_X1_areBound.2.2.2 ⟨rfl, by decide, by decide, by decide +kernel⟩ rfl rfl ⟨by decide, by decide⟩ rfl rfl (Nat.le_of_ble_eq_true rfl) (by decide) (by decide) (by decide) dX8_meetsOther_77 (fun x4 M3 => ?_)
      refine g_if_eq (tgt := 85) hC dX8_meetsOther_80 (by decide) (fun _ => ?_) (fun _ => ?_)
      · refine g_iinc hC 6 (v := 1) (fun x5 => [(5, .int x5), (6, .int t0), (0, .ref (zad Z 0)), (1, .int a1), (2, .int a2), (3, .int a3), (4, .int a4)]) dX8_meetsOther_85 rfl (by decide) (by decide) (fun _ => rfl) (fun x5 => ?_)
        refine g_goto (tgt := 3) hC dX8_meetsOther_88 (by decide) ?_
        refine g_sub (lv1 := [(0, .ref (zad Z 0)), (1, .int a1), (2, .int a2), (3, .int a3), (4, .int a4), (5, .int x5)]) [2, 3, 4, 5, 6, 0] rfl ?_
        exact hs3 M3 a1 a2 a3 a4 x5
      · refine g_iconst hC (v := 1) dX8_meetsOther_83 (by decide) ?_
        exact g_zret1 hC rfl (by decide) dX8_meetsOther_84
set_option maxRecDepth 20000 in
set_option maxHeartbeats 4000000 in
theorem g_X8_meetsOther_b48 {p : Program} {l : Launch} {e : Env} {s : State} {m : MethodId} {args : Array Value} {below : List Frame} {meth : Method} {c : Code} {Z : gZ} (hC : gC p l s m args meth c cX8_meetsOther 7 RX8 (some .boolean) Z) {self3 : gM → Int32 → Int32 → Int32 → Int32 → Int32 → gR} (hs3 : ∀ (M : gM) (a1 : Int32) (a2 : Int32) (a3 : Int32) (a4 : Int32) (a5 : Int32) , gW p l e rm_X8_meetsOther s m args below meth c 7 Z 1 0 0 M 3 [(0, .ref (zad Z 0)), (1, .int a1), (2, .int a2), (3, .int a3), (4, .int a4), (5, .int a5)] [] (self3 M a1 a2 a3 a4 a5)) (M : gM) (a1 : Int32) (a2 : Int32) (a3 : Int32) (a4 : Int32) (a5 : Int32)  : gW p l e rm_X8_meetsOther s m args below meth c 7 Z 1 0 0 M 48 [(0, .ref (zad Z 0)), (1, .int a1), (2, .int a2), (3, .int a3), (4, .int a4), (5, .int a5)] [] (f_X8_meetsOther_b48 self3 M a1 a2 a3 a4 a5 ) := by
  unfold f_X8_meetsOther_b48
  refine g_iconst hC (v := 0) dX8_meetsOther_48 (by decide) ?_
  exact g_X8_meetsOther_b49 hC hs3 M a1 a2 a3 a4 a5 0
set_option maxRecDepth 20000 in
set_option maxHeartbeats 4000000 in
theorem g_X8_meetsOther_lb3 {p : Program} {l : Launch} {e : Env} {s : State} {m : MethodId} {args : Array Value} {below : List Frame} {meth : Method} {c : Code} {Z : gZ} (hC : gC p l s m args meth c cX8_meetsOther 7 RX8 (some .boolean) Z)  {self3 : gM → Int32 → Int32 → Int32 → Int32 → Int32 → gR}  (hs3 : ∀ (M : gM) (a1 : Int32) (a2 : Int32) (a3 : Int32) (a4 : Int32) (a5 : Int32) , gW p l e rm_X8_meetsOther s m args below meth c 7 Z 1 0 0 M 3 [(0, .ref (zad Z 0)), (1, .int a1), (2, .int a2), (3, .int a3), (4, .int a4), (5, .int a5)] [] (self3 M a1 a2 a3 a4 a5)) (M : gM) (a1 : Int32) (a2 : Int32) (a3 : Int32) (a4 : Int32) (a5 : Int32) : gW p l e rm_X8_meetsOther s m args below meth c 7 Z 1 0 0 M 3 [(0, .ref (zad Z 0)), (1, .int a1), (2, .int a2), (3, .int a3), (4, .int a4), (5, .int a5)] [] (f_X8_meetsOther_lb3  self3 M a1 a2 a3 a4 a5) := by
  unfold f_X8_meetsOther_lb3
  refine g_iload hC 5 dX8_meetsOther_3 rfl ?_
  refine g_aload_n hC 0 dX8_meetsOther_5 rfl rfl ?_
  refine gf_X8_40 hC dX8_meetsOther_6 ?_
  refine gf_X8_344 hC dX8_meetsOther_9 ?_
  refine g_icmp_ge (tgt := 91) hC dX8_meetsOther_12 (by decide) (fun _ => ?_) (fun _ => ?_)
  · refine g_iconst hC (v := 0) dX8_meetsOther_91 (by decide) ?_
    exact g_zret0 hC rfl (by decide) dX8_meetsOther_92
  · refine g_aload_n hC 0 dX8_meetsOther_15 rfl rfl ?_
    refine gf_X8_40 hC dX8_meetsOther_16 ?_
    refine gf_X8_357 hC dX8_meetsOther_19 ?_
    refine g_iload hC 5 dX8_meetsOther_22 rfl ?_
    refine g_iald hC 70 (by decide) rfl dX8_meetsOther_24 ?_
    refine g_iload_n hC 3 dX8_meetsOther_25 rfl rfl ?_
    refine g_icmp_ne (tgt := 48) hC dX8_meetsOther_26 (by decide) (fun _ => ?_) (fun _ => ?_)
    · refine g_aload_n hC 0 dX8_meetsOther_29 rfl rfl ?_
      refine gf_X8_40 hC dX8_meetsOther_30 ?_
      refine gf_X8_365 hC dX8_meetsOther_33 ?_
      refine g_iload hC 5 dX8_meetsOther_36 rfl ?_
      refine g_iald hC 71 (by decide) rfl dX8_meetsOther_38 ?_
      refine g_iload hC 4 dX8_meetsOther_39 rfl ?_
      refine g_icmp_ne (tgt := 48) hC dX8_meetsOther_41 (by decide) (fun _ => ?_) (fun _ => ?_)
      · refine g_iconst hC (v := 1) dX8_meetsOther_44 (by decide) ?_
        refine g_goto (tgt := 49) hC dX8_meetsOther_45 (by decide) ?_
        exact g_X8_meetsOther_b49 hC hs3 M a1 a2 a3 a4 a5 1
      · exact g_X8_meetsOther_b48 hC hs3 M a1 a2 a3 a4 a5
    · exact g_X8_meetsOther_b48 hC hs3 M a1 a2 a3 a4 a5
set_option maxRecDepth 20000 in
set_option maxHeartbeats 4000000 in
theorem g_X8_meetsOther_l3 {p : Program} {l : Launch} {e : Env} {s : State} {m : MethodId} {args : Array Value} {below : List Frame} {meth : Method} {c : Code} {Z : gZ} (hC : gC p l s m args meth c cX8_meetsOther 7 RX8 (some .boolean) Z)   : ∀ (n : Nat) (M : gM) (a1 : Int32) (a2 : Int32) (a3 : Int32) (a4 : Int32) (a5 : Int32), gW p l e rm_X8_meetsOther s m args below meth c 7 Z 1 0 0 M 3 [(0, .ref (zad Z 0)), (1, .int a1), (2, .int a2), (3, .int a3), (4, .int a4), (5, .int a5)] [] (f_X8_meetsOther_l3  n M a1 a2 a3 a4 a5)
  | 0, _, _, _, _, _, _ => g_stuck
  | n + 1, M, a1, a2, a3, a4, a5 => g_X8_meetsOther_lb3 hC  (g_X8_meetsOther_l3 hC  n) M a1 a2 a3 a4 a5
set_option maxRecDepth 20000 in
set_option maxHeartbeats 4000000 in
theorem c_X8_meetsOther {l : Launch} (hfl : l.stackTraces = false) (Z : gZ) (M : gM) (a1 : Int32) (a2 : Int32) (a3 : Int32) (a4 : Int32) : gMet l yX8_meetsOther cX8_meetsOther 7 (some .boolean) rm_X8_meetsOther 1 0 Z M [.ref (zad Z 0), .int a1, .int a2, .int a3, .int a4] (f_X8_meetsOther M a1 a2 a3 a4) := by
  refine g_enter hfl (by decide) (Nat.le_of_ble_eq_true rfl) (fun p e s m args below meth c hC => ?_)
  refine g_eq (F := f_X8_meetsOther M a1 a2 a3 a4) rfl ?_
  refine g_lv0 (lv1 := [(0, .ref (zad Z 0)), (1, .int a1), (2, .int a2), (3, .int a3), (4, .int a4)]) rfl ?_
  unfold f_X8_meetsOther
  refine g_iconst hC (v := 0) dX8_meetsOther_0 (by decide) ?_
  refine g_istore hC (lv1 := [(5, .int 0), (0, .ref (zad Z 0)), (1, .int a1), (2, .int a2), (3, .int a3), (4, .int a4)]) dX8_meetsOther_1 (by decide) rfl ?_
  refine g_sub (lv1 := [(0, .ref (zad Z 0)), (1, .int a1), (2, .int a2), (3, .int a3), (4, .int a4), (5, .int 0)]) [1, 2, 3, 4, 5, 0] rfl ?_
  exact g_X8_meetsOther_l3 hC  5000 M a1 a2 a3 a4 0

-- ===== X8_hearing =====
def f_X8_hearing (M : gM) (a1 : Int32) (a2 : Int32) (a3 : Int32) : gR := (rb (f_X8_checkCase M a1) (fun _ M1 => (if a3 < 0 then (rThr 0 M1) else (if a3 < 4 then (if a2 ≤ (M1 1 0) then (rThr 1 M1) else (if a2 ≤ 990 then (rb (f_X0_isFree M1 a2) (fun x4 M3 => (if x4 = 0 then (if 40 ≤ (M3 5 0) then (rThr 2 M3) else (rb (f_X8_meetsOther M3 (-1) a1 a2 a3) (fun x6 M5 => (if x6 = 0 then (rb (f_X5_add M5 a1 a2 a3) (fun x8 M7 => (rRet x8 M7))) else (rThr 2 M5))))) else (rThr 2 M3)))) else (rThr 1 M1))) else (rThr 0 M1)))))
abbrev rm_X8_hearing : Room := { frames := 7, cells := 2, slots := 12, locals := 111 }
set_option maxRecDepth 20000 in
set_option maxHeartbeats 4000000 in
theorem c_X8_hearing {l : Launch} (hfl : l.stackTraces = false) (Z : gZ) (M : gM) (a1 : Int32) (a2 : Int32) (a3 : Int32) : gMet l yX8_hearing cX8_hearing 4 (some .int) rm_X8_hearing 1 2 Z M [.ref (zad Z 0), .int a1, .int a2, .int a3] (f_X8_hearing M a1 a2 a3) := by
  refine g_enter hfl (by decide) (Nat.le_of_ble_eq_true rfl) (fun p e s m args below meth c hC => ?_)
  refine g_eq (F := f_X8_hearing M a1 a2 a3) rfl ?_
  refine g_lv0 (lv1 := [(0, .ref (zad Z 0)), (1, .int a1), (2, .int a2), (3, .int a3)]) rfl ?_
  unfold f_X8_hearing
  refine g_aload_n hC 0 dX8_hearing_0 rfl rfl ?_
  refine g_iload_n hC 1 dX8_hearing_1 rfl rfl ?_
  refine g_callVv (n := 1) hC [.int a1] 0 8 (by decide) rfl rfl (fun hne => c_X8_checkCase hC.2.2.2.2.2.2.2.1 Z M a1 hne) lk_X8_124 mw_X8_checkCase.1 mw_X8_checkCase.2.1 mw_X8_checkCase.2.2.1 mw_X8_checkCase.2.2.2 ⟨rfl, by decide, by decide, by decide +kernel⟩ rfl rfl ⟨by decide, by decide⟩ rfl rfl (Nat.le_of_ble_eq_true rfl) (by decide) (by decide) (by decide) dX8_hearing_2 (fun M1 => ?_)
  refine g_iload_n hC 3 dX8_hearing_5 rfl rfl ?_
  refine g_if_lt (tgt := 14) hC dX8_hearing_6 (by decide) (fun _ => ?_) (fun _ => ?_)
  · exact g_throwSW (text := "no such slot") hC 0 (by decide) thr_c0 thr_i0 (by decide) thr_a0 thr_n0 thr_g0 (by decide) (by decide) (Nat.le_of_ble_eq_true rfl) (by decide) (by decide) (by decide) dX8_hearing_14 dX8_hearing_17 dX8_hearing_18 dX8_hearing_21 dX8_hearing_24
  · refine g_iload_n hC 3 dX8_hearing_9 rfl rfl ?_
    refine g_iconst hC (v := 4) dX8_hearing_10 (by decide) ?_
    refine g_icmp_lt (tgt := 25) hC dX8_hearing_11 (by decide) (fun _ => ?_) (fun _ => ?_)
    · refine g_iload_n hC 2 dX8_hearing_25 rfl rfl ?_
      refine g_aload_n hC 0 dX8_hearing_26 rfl rfl ?_
      refine gf_X8_12 hC dX8_hearing_27 ?_
      refine gf_X8_69 hC dX8_hearing_30 ?_
      refine g_icmp_le (tgt := 43) hC dX8_hearing_33 (by decide) (fun _ => ?_) (fun _ => ?_)
      · exact g_throwS (text := "day out of range") hC 1 (by decide) thr_c1 thr_i1 (by decide) thr_a1 thr_n1 thr_g1 (by decide) (by decide) (Nat.le_of_ble_eq_true rfl) (by decide) (by decide) (by decide) dX8_hearing_43 dX8_hearing_46 dX8_hearing_47 dX8_hearing_49 dX8_hearing_52
      · refine g_iload_n hC 2 dX8_hearing_36 rfl rfl ?_
        refine g_sipush hC (v := 990) dX8_hearing_37 (by decide) ?_
        refine g_icmp_le (tgt := 53) hC dX8_hearing_40 (by decide) (fun _ => ?_) (fun _ => ?_)
        · refine g_aload_n hC 0 dX8_hearing_53 rfl rfl ?_
          refine gf_X8_12 hC dX8_hearing_54 ?_
          refine g_iload_n hC 2 dX8_hearing_57 rfl rfl ?_
          refine g_callVi (n := 1) hC [.int a2] 1 0 (by decide) rfl rfl (fun hne => c_X0_isFree hC.2.2.2.2.2.2.2.1 Z M1 a2 hne) lk_X8_94 mw_X0_isFree.1 mw_X0_isFree.2.1 mw_X0_isFree.2.2.1 mw_X0_isFree.2.2.2 ⟨rfl, by decide, by decide, by decide +kernel⟩ rfl rfl ⟨by decide, by decide⟩ rfl rfl (Nat.le_of_ble_eq_true rfl) (by decide) (by decide) (by decide) dX8_hearing_58 (fun x4 M3 => ?_)
          refine g_if_ne (tgt := 87) hC dX8_hearing_61 (by decide) (fun _ => ?_) (fun _ => ?_)
          · refine g_aload_n hC 0 dX8_hearing_64 rfl rfl ?_
            refine gf_X8_40 hC dX8_hearing_65 ?_
            refine gf_X8_344 hC dX8_hearing_68 ?_
            refine g_bipush hC (v := 40) dX8_hearing_71 (by decide) ?_
            refine g_icmp_ge (tgt := 87) hC dX8_hearing_73 (by decide) (fun _ => ?_) (fun _ => ?_)
            · exact g_throwSW (text := "no hearing can be then") hC 2 (by decide) thr_c2 thr_i2 (by decide) thr_a2 thr_n2 thr_g2 (by decide) (by decide) (Nat.le_of_ble_eq_true rfl) (by decide) (by decide) (by decide) dX8_hearing_87 dX8_hearing_90 dX8_hearing_91 dX8_hearing_94 dX8_hearing_97
            · refine g_aload_n hC 0 dX8_hearing_76 rfl rfl ?_
              refine g_iconst hC (v := (-1)) dX8_hearing_77 (by decide) ?_
              refine g_iload_n hC 1 dX8_hearing_78 rfl rfl ?_
              refine g_iload_n hC 2 dX8_hearing_79 rfl rfl ?_
              refine g_iload_n hC 3 dX8_hearing_80 rfl rfl ?_
              refine g_callVi (n := 4) hC [.int (-1), .int a1, .int a2, .int a3] 0 8 (by decide) rfl rfl (fun hne => c_X8_meetsOther hC.2.2.2.2.2.2.2.1 Z M3 (-1) a1 a2 a3 hne) lk_X8_345 mw_X8_meetsOther.1 mw_X8_meetsOther.2.1 mw_X8_meetsOther.2.2.1 mw_X8_meetsOther.2.2.2 ⟨rfl, by decide, by decide, by decide +kernel⟩ rfl rfl ⟨by decide, by decide⟩ rfl rfl (Nat.le_of_ble_eq_true rfl) (by decide) (by decide) (by decide) dX8_hearing_81 (fun x6 M5 => ?_)
              refine g_if_eq (tgt := 98) hC dX8_hearing_84 (by decide) (fun _ => ?_) (fun _ => ?_)
              · refine g_aload_n hC 0 dX8_hearing_98 rfl rfl ?_
                refine gf_X8_40 hC dX8_hearing_99 ?_
                refine g_iload_n hC 1 dX8_hearing_102 rfl rfl ?_
                refine g_iload_n hC 2 dX8_hearing_103 rfl rfl ?_
                refine g_iload_n hC 3 dX8_hearing_104 rfl rfl ?_
                refine g_callVi (n := 3) hC [.int a1, .int a2, .int a3] 5 5 (by decide) rfl rfl (fun hne => c_X5_add hC.2.2.2.2.2.2.2.1 Z M5 a1 a2 a3 hne) lk_X8_351 mw_X5_add.1 mw_X5_add.2.1 mw_X5_add.2.2.1 mw_X5_add.2.2.2 ⟨rfl, by decide, by decide, by decide +kernel⟩ rfl rfl ⟨by decide, by decide⟩ rfl rfl (Nat.le_of_ble_eq_true rfl) (by decide) (by decide) (by decide) dX8_hearing_105 (fun x8 M7 => ?_)
                exact g_iret hC rfl (by decide) dX8_hearing_108
              · exact g_throwSW (text := "no hearing can be then") hC 2 (by decide) thr_c2 thr_i2 (by decide) thr_a2 thr_n2 thr_g2 (by decide) (by decide) (Nat.le_of_ble_eq_true rfl) (by decide) (by decide) (by decide) dX8_hearing_87 dX8_hearing_90 dX8_hearing_91 dX8_hearing_94 dX8_hearing_97
          · exact g_throwSW (text := "no hearing can be then") hC 2 (by decide) thr_c2 thr_i2 (by decide) thr_a2 thr_n2 thr_g2 (by decide) (by decide) (Nat.le_of_ble_eq_true rfl) (by decide) (by decide) (by decide) dX8_hearing_87 dX8_hearing_90 dX8_hearing_91 dX8_hearing_94 dX8_hearing_97
        · exact g_throwS (text := "day out of range") hC 1 (by decide) thr_c1 thr_i1 (by decide) thr_a1 thr_n1 thr_g1 (by decide) (by decide) (Nat.le_of_ble_eq_true rfl) (by decide) (by decide) (by decide) dX8_hearing_43 dX8_hearing_46 dX8_hearing_47 dX8_hearing_49 dX8_hearing_52
    · exact g_throwSW (text := "no such slot") hC 0 (by decide) thr_c0 thr_i0 (by decide) thr_a0 thr_n0 thr_g0 (by decide) (by decide) (Nat.le_of_ble_eq_true rfl) (by decide) (by decide) (by decide) dX8_hearing_14 dX8_hearing_17 dX8_hearing_18 dX8_hearing_21 dX8_hearing_24

-- ===== X8_checkHearing =====
def f_X8_checkHearing (M : gM) (a1 : Int32) : gR := (if a1 < 0 then (rThr 0 M) else (if a1 < (M 5 0) then (rRet 0 M) else (rThr 0 M)))
abbrev rm_X8_checkHearing : Room := { frames := 6, cells := 1, slots := 6, locals := 90 }
set_option maxRecDepth 20000 in
set_option maxHeartbeats 4000000 in
theorem c_X8_checkHearing {l : Launch} (hfl : l.stackTraces = false) (Z : gZ) (M : gM) (a1 : Int32) : gMet l yX8_checkHearing cX8_checkHearing 2 none rm_X8_checkHearing 0 1 Z M [.ref (zad Z 0), .int a1] (f_X8_checkHearing M a1) := by
  refine g_enter hfl (by decide) (Nat.le_of_ble_eq_true rfl) (fun p e s m args below meth c hC => ?_)
  refine g_eq (F := f_X8_checkHearing M a1) rfl ?_
  refine g_lv0 (lv1 := [(0, .ref (zad Z 0)), (1, .int a1)]) rfl ?_
  unfold f_X8_checkHearing
  refine g_iload_n hC 1 dX8_checkHearing_0 rfl rfl ?_
  refine g_if_lt (tgt := 15) hC dX8_checkHearing_1 (by decide) (fun _ => ?_) (fun _ => ?_)
  · exact g_throwSW (text := "no such hearing") hC 0 (by decide) thr_c0 thr_i0 (by decide) thr_a0 thr_n0 thr_g0 (by decide) (by decide) (Nat.le_of_ble_eq_true rfl) (by decide) (by decide) (by decide) dX8_checkHearing_15 dX8_checkHearing_18 dX8_checkHearing_19 dX8_checkHearing_22 dX8_checkHearing_25
  · refine g_iload_n hC 1 dX8_checkHearing_4 rfl rfl ?_
    refine g_aload_n hC 0 dX8_checkHearing_5 rfl rfl ?_
    refine gf_X8_40 hC dX8_checkHearing_6 ?_
    refine gf_X8_344 hC dX8_checkHearing_9 ?_
    refine g_icmp_lt (tgt := 26) hC dX8_checkHearing_12 (by decide) (fun _ => ?_) (fun _ => ?_)
    · exact g_vret hC rfl (by decide) dX8_checkHearing_26
    · exact g_throwSW (text := "no such hearing") hC 0 (by decide) thr_c0 thr_i0 (by decide) thr_a0 thr_n0 thr_g0 (by decide) (by decide) (Nat.le_of_ble_eq_true rfl) (by decide) (by decide) (by decide) dX8_checkHearing_15 dX8_checkHearing_18 dX8_checkHearing_19 dX8_checkHearing_22 dX8_checkHearing_25

-- ===== X8_nextTime =====
def f_X8_nextTime_lb35 (self12 : gM → Int32 → Int32 → gR) (self35 : gM → Int32 → Int32 → Int32 → gR) (M : gM) (a1 : Int32) (a2 : Int32) (a3 : Int32) : gR := (if 4 ≤ a3 then (bV (a2 + 1) (fun x1 => (self12 M a1 x1))) else (gI a1 40 (rb (f_X8_meetsOther M a1 (M 69 a1.toNatClampNeg) a2 a3) (fun x3 M2 => (if x3 = 0 then (rRet ((10 * a2) + a3) M2) else (bV (a3 + 1) (fun x4 => (self35 M2 a1 a2 x4))))))))
def f_X8_nextTime_l35 (self12 : gM → Int32 → Int32 → gR) : Nat → gM → Int32 → Int32 → Int32 → gR
  | 0, _, _, _, _ => rStuck
  | n + 1, M, a1, a2, a3 => f_X8_nextTime_lb35 self12 (f_X8_nextTime_l35 self12 n) M a1 a2 a3
def f_X8_nextTime_lb12  (self12 : gM → Int32 → Int32 → gR) (M : gM) (a1 : Int32) (a2 : Int32) : gR := (if 1000 < a2 then (rRet (-1) M) else (rb (f_X0_isFree M a2) (fun x6 M5 => (if x6 = 0 then (f_X8_nextTime_l35 self12 5000 M5 a1 a2 0) else (bV (a2 + 1) (fun x7 => (self12 M5 a1 x7)))))))
def f_X8_nextTime_l12  : Nat → gM → Int32 → Int32 → gR
  | 0, _, _, _ => rStuck
  | n + 1, M, a1, a2 => f_X8_nextTime_lb12  (f_X8_nextTime_l12  n) M a1 a2
def f_X8_nextTime (M : gM) (a1 : Int32) : gR := (gI a1 40 (bV ((M 70 a1.toNatClampNeg) + 1) (fun x8 => (f_X8_nextTime_l12  5000 M a1 x8))))
abbrev rm_X8_nextTime : Room := { frames := 3, cells := 0, slots := 0, locals := 69 }
set_option maxRecDepth 20000 in
set_option maxHeartbeats 4000000 in
theorem g_X8_nextTime_lb35 {p : Program} {l : Launch} {e : Env} {s : State} {m : MethodId} {args : Array Value} {below : List Frame} {meth : Method} {c : Code} {Z : gZ} (hC : gC p l s m args meth c cX8_nextTime 4 RX8 (some .int) Z) {self12 : gM → Int32 → Int32 → gR} {self35 : gM → Int32 → Int32 → Int32 → gR} (hs12 : ∀ (M : gM) (a1 : Int32) (a2 : Int32) , gW p l e rm_X8_nextTime s m args below meth c 4 Z 1 0 0 M 12 [(0, .ref (zad Z 0)), (1, .int a1), (2, .int a2)] [] (self12 M a1 a2)) (hs35 : ∀ (M : gM) (a1 : Int32) (a2 : Int32) (a3 : Int32) , gW p l e rm_X8_nextTime s m args below meth c 4 Z 1 0 0 M 35 [(0, .ref (zad Z 0)), (1, .int a1), (2, .int a2), (3, .int a3)] [] (self35 M a1 a2 a3)) (M : gM) (a1 : Int32) (a2 : Int32) (a3 : Int32) : gW p l e rm_X8_nextTime s m args below meth c 4 Z 1 0 0 M 35 [(0, .ref (zad Z 0)), (1, .int a1), (2, .int a2), (3, .int a3)] [] (f_X8_nextTime_lb35 self12 self35 M a1 a2 a3) := by
  unfold f_X8_nextTime_lb35
  refine g_iload_n hC 3 dX8_nextTime_35 rfl rfl ?_
  refine g_iconst hC (v := 4) dX8_nextTime_36 (by decide) ?_
  refine g_icmp_ge (tgt := 72) hC dX8_nextTime_37 (by decide) (fun _ => ?_) (fun _ => ?_)
  · refine g_iinc hC 2 (v := 1) (fun x1 => [(2, .int x1), (0, .ref (zad Z 0)), (1, .int a1), (3, .int a3)]) dX8_nextTime_72 rfl (by decide) (by decide) (fun _ => rfl) (fun x1 => ?_)
    refine g_goto (tgt := 12) hC dX8_nextTime_75 (by decide) ?_
    refine g_sub (lv1 := [(0, .ref (zad Z 0)), (1, .int a1), (2, .int x1)]) [1, 2, 0] rfl ?_
    exact hs12 M a1 x1
  · refine g_aload_n hC 0 dX8_nextTime_40 rfl rfl ?_
    refine g_iload_n hC 1 dX8_nextTime_41 rfl rfl ?_
    refine g_aload_n hC 0 dX8_nextTime_42 rfl rfl ?_
    refine gf_X8_40 hC dX8_nextTime_43 ?_
    refine gf_X8_523 hC dX8_nextTime_46 ?_
    refine g_iload_n hC 1 dX8_nextTime_49 rfl rfl ?_
    refine g_iald hC 69 (by decide) rfl dX8_nextTime_50 ?_
    refine g_iload_n hC 2 dX8_nextTime_51 rfl rfl ?_
    refine g_iload_n hC 3 dX8_nextTime_52 rfl rfl ?_
    refine g_callVi (n := 4) hC [.int a1, .int (M 69 a1.toNatClampNeg), .int a2, .int a3] 0 8 (by decide) rfl rfl (fun hne => c_X8_meetsOther hC.2.2.2.2.2.2.2.1 Z M a1 (M 69 a1.toNatClampNeg) a2 a3 hne) lk_X8_345 mw_X8_meetsOther.1 mw_X8_meetsOther.2.1 mw_X8_meetsOther.2.2.1 mw_X8_meetsOther.2.2.2 ⟨rfl, by decide, by decide, by decide +kernel⟩ rfl rfl ⟨by decide, by decide⟩ rfl rfl (Nat.le_of_ble_eq_true rfl) (by decide) (by decide) (by decide) dX8_nextTime_53 (fun x3 M2 => ?_)
    refine g_if_ne (tgt := 66) hC dX8_nextTime_56 (by decide) (fun _ => ?_) (fun _ => ?_)
    · refine g_bipush hC (v := 10) dX8_nextTime_59 (by decide) ?_
      refine g_iload_n hC 2 dX8_nextTime_61 rfl rfl ?_
      refine g_imul hC dX8_nextTime_62 ?_
      refine g_iload_n hC 3 dX8_nextTime_63 rfl rfl ?_
      refine g_iadd hC dX8_nextTime_64 ?_
      exact g_iret hC rfl (by decide) dX8_nextTime_65
    · refine g_iinc hC 3 (v := 1) (fun x4 => [(3, .int x4), (0, .ref (zad Z 0)), (1, .int a1), (2, .int a2)]) dX8_nextTime_66 rfl (by decide) (by decide) (fun _ => rfl) (fun x4 => ?_)
      refine g_goto (tgt := 35) hC dX8_nextTime_69 (by decide) ?_
      refine g_sub (lv1 := [(0, .ref (zad Z 0)), (1, .int a1), (2, .int a2), (3, .int x4)]) [1, 2, 3, 0] rfl ?_
      exact hs35 M2 a1 a2 x4
set_option maxRecDepth 20000 in
set_option maxHeartbeats 4000000 in
theorem g_X8_nextTime_l35 {p : Program} {l : Launch} {e : Env} {s : State} {m : MethodId} {args : Array Value} {below : List Frame} {meth : Method} {c : Code} {Z : gZ} (hC : gC p l s m args meth c cX8_nextTime 4 RX8 (some .int) Z) {self12 : gM → Int32 → Int32 → gR} (hs12 : ∀ (M : gM) (a1 : Int32) (a2 : Int32) , gW p l e rm_X8_nextTime s m args below meth c 4 Z 1 0 0 M 12 [(0, .ref (zad Z 0)), (1, .int a1), (2, .int a2)] [] (self12 M a1 a2)) : ∀ (n : Nat) (M : gM) (a1 : Int32) (a2 : Int32) (a3 : Int32), gW p l e rm_X8_nextTime s m args below meth c 4 Z 1 0 0 M 35 [(0, .ref (zad Z 0)), (1, .int a1), (2, .int a2), (3, .int a3)] [] (f_X8_nextTime_l35 self12 n M a1 a2 a3)
  | 0, _, _, _, _ => g_stuck
  | n + 1, M, a1, a2, a3 => g_X8_nextTime_lb35 hC hs12 (g_X8_nextTime_l35 hC hs12 n) M a1 a2 a3
set_option maxRecDepth 20000 in
set_option maxHeartbeats 4000000 in
theorem g_X8_nextTime_lb12 {p : Program} {l : Launch} {e : Env} {s : State} {m : MethodId} {args : Array Value} {below : List Frame} {meth : Method} {c : Code} {Z : gZ} (hC : gC p l s m args meth c cX8_nextTime 4 RX8 (some .int) Z)  {self12 : gM → Int32 → Int32 → gR}  (hs12 : ∀ (M : gM) (a1 : Int32) (a2 : Int32) , gW p l e rm_X8_nextTime s m args below meth c 4 Z 1 0 0 M 12 [(0, .ref (zad Z 0)), (1, .int a1), (2, .int a2)] [] (self12 M a1 a2)) (M : gM) (a1 : Int32) (a2 : Int32) : gW p l e rm_X8_nextTime s m args below meth c 4 Z 1 0 0 M 12 [(0, .ref (zad Z 0)), (1, .int a1), (2, .int a2)] [] (f_X8_nextTime_lb12  self12 M a1 a2) := by
  unfold f_X8_nextTime_lb12
  refine g_iload_n hC 2 dX8_nextTime_12 rfl rfl ?_
  refine g_sipush hC (v := 1000) dX8_nextTime_13 (by decide) ?_
  refine g_icmp_gt (tgt := 78) hC dX8_nextTime_16 (by decide) (fun _ => ?_) (fun _ => ?_)
  · refine g_iconst hC (v := (-1)) dX8_nextTime_78 (by decide) ?_
    exact g_iret hC rfl (by decide) dX8_nextTime_79
  · refine g_aload_n hC 0 dX8_nextTime_19 rfl rfl ?_
    refine gf_X8_12 hC dX8_nextTime_20 ?_
    refine g_iload_n hC 2 dX8_nextTime_23 rfl rfl ?_
    refine g_callVi (n := 1) hC [.int a2] 1 0 (by decide) rfl rfl (fun hne => c_X0_isFree hC.2.2.2.2.2.2.2.1 Z M a2 hne) lk_X8_94 mw_X0_isFree.1 mw_X0_isFree.2.1 mw_X0_isFree.2.2.1 mw_X0_isFree.2.2.2 ⟨rfl, by decide, by decide, by decide +kernel⟩ rfl rfl ⟨by decide, by decide⟩ rfl rfl (Nat.le_of_ble_eq_true rfl) (by decide) (by decide) (by decide) dX8_nextTime_24 (fun x6 M5 => ?_)
    refine g_if_eq (tgt := 33) hC dX8_nextTime_27 (by decide) (fun _ => ?_) (fun _ => ?_)
    · refine g_iconst hC (v := 0) dX8_nextTime_33 (by decide) ?_
      refine g_istore_n hC (lv1 := [(3, .int 0), (0, .ref (zad Z 0)), (1, .int a1), (2, .int a2)]) dX8_nextTime_34 rfl (by decide) rfl ?_
      refine g_sub (lv1 := [(0, .ref (zad Z 0)), (1, .int a1), (2, .int a2), (3, .int 0)]) [1, 2, 3, 0] rfl ?_
      exact g_X8_nextTime_l35 hC hs12 5000 M5 a1 a2 0
    · refine g_goto (tgt := 72) hC dX8_nextTime_30 (by decide) ?_
      refine g_iinc hC 2 (v := 1) (fun x7 => [(2, .int x7), (0, .ref (zad Z 0)), (1, .int a1)]) dX8_nextTime_72 rfl (by decide) (by decide) (fun _ => rfl) (fun x7 => ?_)
      refine g_goto (tgt := 12) hC dX8_nextTime_75 (by decide) ?_
      refine g_sub (lv1 := [(0, .ref (zad Z 0)), (1, .int a1), (2, .int x7)]) [1, 2, 0] rfl ?_
      exact hs12 M5 a1 x7
set_option maxRecDepth 20000 in
set_option maxHeartbeats 4000000 in
theorem g_X8_nextTime_l12 {p : Program} {l : Launch} {e : Env} {s : State} {m : MethodId} {args : Array Value} {below : List Frame} {meth : Method} {c : Code} {Z : gZ} (hC : gC p l s m args meth c cX8_nextTime 4 RX8 (some .int) Z)   : ∀ (n : Nat) (M : gM) (a1 : Int32) (a2 : Int32), gW p l e rm_X8_nextTime s m args below meth c 4 Z 1 0 0 M 12 [(0, .ref (zad Z 0)), (1, .int a1), (2, .int a2)] [] (f_X8_nextTime_l12  n M a1 a2)
  | 0, _, _, _ => g_stuck
  | n + 1, M, a1, a2 => g_X8_nextTime_lb12 hC  (g_X8_nextTime_l12 hC  n) M a1 a2
set_option maxRecDepth 20000 in
set_option maxHeartbeats 4000000 in
theorem c_X8_nextTime {l : Launch} (hfl : l.stackTraces = false) (Z : gZ) (M : gM) (a1 : Int32) : gMet l yX8_nextTime cX8_nextTime 4 (some .int) rm_X8_nextTime 1 0 Z M [.ref (zad Z 0), .int a1] (f_X8_nextTime M a1) := by
  refine g_enter hfl (by decide) (Nat.le_of_ble_eq_true rfl) (fun p e s m args below meth c hC => ?_)
  refine g_eq (F := f_X8_nextTime M a1) rfl ?_
  refine g_lv0 (lv1 := [(0, .ref (zad Z 0)), (1, .int a1)]) rfl ?_
  unfold f_X8_nextTime
  refine g_aload_n hC 0 dX8_nextTime_0 rfl rfl ?_
  refine gf_X8_40 hC dX8_nextTime_1 ?_
  refine gf_X8_357 hC dX8_nextTime_4 ?_
  refine g_iload_n hC 1 dX8_nextTime_7 rfl rfl ?_
  refine g_iald hC 70 (by decide) rfl dX8_nextTime_8 ?_
  refine g_iconst hC (v := 1) dX8_nextTime_9 (by decide) ?_
  refine g_iadd hC dX8_nextTime_10 ?_
  refine g_bv (fun x8 => ?_)
  refine g_istore_n hC (lv1 := [(2, .int x8), (0, .ref (zad Z 0)), (1, .int a1)]) dX8_nextTime_11 rfl (by decide) rfl ?_
  refine g_sub (lv1 := [(0, .ref (zad Z 0)), (1, .int a1), (2, .int x8)]) [1, 2, 0] rfl ?_
  exact g_X8_nextTime_l12 hC  5000 M a1 x8

-- ===== X8_continueHearing =====
def f_X8_continueHearing_b33  (M : gM) (a1 : Int32) (t0 : Int32) : gR := (if t0 = (-1) then (rThr 2 M) else (gNz 10 (gI a1 40 (bM (gset M 70 a1.toNatClampNeg (t0 / 10)) (fun M1 => (gNz 10 (gI a1 40 (bM (gset M1 71 a1.toNatClampNeg (t0 - t0 / 10 * 10)) (fun M2 => (rRet t0 M2))))))))))
def f_X8_continueHearing (M : gM) (a1 : Int32) : gR := (rb (f_X8_checkHearing M a1) (fun _ M3 => (gI a1 40 (if (M3 70 a1.toNatClampNeg) ≤ (M3 1 0) then (f_X8_continueHearing_b33  M3 a1 (-1)) else (rb (f_X8_nextTime M3 a1) (fun x6 M5 => (f_X8_continueHearing_b33  M5 a1 x6)))))))
abbrev rm_X8_continueHearing : Room := { frames := 7, cells := 2, slots := 12, locals := 111 }
set_option maxRecDepth 20000 in
set_option maxHeartbeats 4000000 in
theorem g_X8_continueHearing_b33 {p : Program} {l : Launch} {e : Env} {s : State} {m : MethodId} {args : Array Value} {below : List Frame} {meth : Method} {c : Code} {Z : gZ} (hC : gC p l s m args meth c cX8_continueHearing 3 RX8 (some .int) Z)   (M : gM) (a1 : Int32) (t0 : Int32) : gW p l e rm_X8_continueHearing s m args below meth c 3 Z 1 2 1 M 33 [(0, .ref (zad Z 0)), (1, .int a1)] [.int t0] (f_X8_continueHearing_b33  M a1 t0) := by
  unfold f_X8_continueHearing_b33
  refine g_istore_n hC (lv1 := [(2, .int t0), (0, .ref (zad Z 0)), (1, .int a1)]) dX8_continueHearing_33 rfl (by decide) rfl ?_
  refine g_iload_n hC 0 dX8_continueHearing_34 rfl rfl ?_
  refine g_iconst hC (v := (-1)) dX8_continueHearing_35 (by decide) ?_
  refine g_icmp_ne (tgt := 50) hC dX8_continueHearing_36 (by decide) (fun _ => ?_) (fun _ => ?_)
  · exact g_throwSW (text := "it cannot be continued") hC 2 (by decide) thr_c2 thr_i2 (by decide) thr_a2 thr_n2 thr_g2 (by decide) (by decide) (Nat.le_of_ble_eq_true rfl) (by decide) (by decide) (by decide) dX8_continueHearing_39 dX8_continueHearing_42 dX8_continueHearing_43 dX8_continueHearing_46 dX8_continueHearing_49
  · refine g_aload_n hC 1 dX8_continueHearing_50 rfl rfl ?_
    refine gf_X8_40 hC dX8_continueHearing_51 ?_
    refine gf_X8_357 hC dX8_continueHearing_54 ?_
    refine g_iload_n hC 2 dX8_continueHearing_57 rfl rfl ?_
    refine g_iload_n hC 0 dX8_continueHearing_58 rfl rfl ?_
    refine g_bipush hC (v := 10) dX8_continueHearing_59 (by decide) ?_
    refine g_idiv hC dX8_continueHearing_61 ?_
    refine g_iast hC 70 (by decide) rfl dX8_continueHearing_62 (fun M1 => ?_)
    refine g_aload_n hC 1 dX8_continueHearing_63 rfl rfl ?_
    refine gf_X8_40 hC dX8_continueHearing_64 ?_
    refine gf_X8_365 hC dX8_continueHearing_67 ?_
    refine g_iload_n hC 2 dX8_continueHearing_70 rfl rfl ?_
    refine g_iload_n hC 0 dX8_continueHearing_71 rfl rfl ?_
    refine g_bipush hC (v := 10) dX8_continueHearing_72 (by decide) ?_
    refine g_irem hC dX8_continueHearing_74 ?_
    refine g_iast hC 71 (by decide) rfl dX8_continueHearing_75 (fun M2 => ?_)
    refine g_iload_n hC 0 dX8_continueHearing_76 rfl rfl ?_
    exact g_iret hC rfl (by decide) dX8_continueHearing_77
set_option maxRecDepth 20000 in
set_option maxHeartbeats 4000000 in
theorem c_X8_continueHearing {l : Launch} (hfl : l.stackTraces = false) (Z : gZ) (M : gM) (a1 : Int32) : gMet l yX8_continueHearing cX8_continueHearing 3 (some .int) rm_X8_continueHearing 1 2 Z M [.ref (zad Z 0), .int a1] (f_X8_continueHearing M a1) := by
  refine g_enter hfl (by decide) (Nat.le_of_ble_eq_true rfl) (fun p e s m args below meth c hC => ?_)
  refine g_eq (F := f_X8_continueHearing M a1) rfl ?_
  refine g_lv0 (lv1 := [(0, .ref (zad Z 0)), (1, .int a1)]) rfl ?_
  unfold f_X8_continueHearing
  refine g_aload_n hC 0 dX8_continueHearing_0 rfl rfl ?_
  refine g_iload_n hC 1 dX8_continueHearing_1 rfl rfl ?_
  refine g_callVv (n := 1) hC [.int a1] 0 8 (by decide) rfl rfl (fun hne => c_X8_checkHearing hC.2.2.2.2.2.2.2.1 Z M a1 hne) lk_X8_354 mw_X8_checkHearing.1 mw_X8_checkHearing.2.1 mw_X8_checkHearing.2.2.1 mw_X8_checkHearing.2.2.2 ⟨rfl, by decide, by decide, by decide +kernel⟩ rfl rfl ⟨by decide, by decide⟩ rfl rfl (Nat.le_of_ble_eq_true rfl) (by decide) (by decide) (by decide) dX8_continueHearing_2 (fun M3 => ?_)
  refine g_aload_n hC 0 dX8_continueHearing_5 rfl rfl ?_
  refine gf_X8_40 hC dX8_continueHearing_6 ?_
  refine gf_X8_357 hC dX8_continueHearing_9 ?_
  refine g_iload_n hC 1 dX8_continueHearing_12 rfl rfl ?_
  refine g_iald hC 70 (by decide) rfl dX8_continueHearing_13 ?_
  refine g_aload_n hC 0 dX8_continueHearing_14 rfl rfl ?_
  refine gf_X8_12 hC dX8_continueHearing_15 ?_
  refine gf_X8_69 hC dX8_continueHearing_18 ?_
  refine g_icmp_le (tgt := 32) hC dX8_continueHearing_21 (by decide) (fun _ => ?_) (fun _ => ?_)
  · refine g_iconst hC (v := (-1)) dX8_continueHearing_32 (by decide) ?_
    exact g_X8_continueHearing_b33 hC  M3 a1 (-1)
  · refine g_aload_n hC 0 dX8_continueHearing_24 rfl rfl ?_
    refine g_iload_n hC 1 dX8_continueHearing_25 rfl rfl ?_
    refine g_callVi (n := 1) hC [.int a1] 0 8 (by decide) rfl rfl (fun hne => c_X8_nextTime hC.2.2.2.2.2.2.2.1 Z M3 a1 hne) lk_X8_360 mw_X8_nextTime.1 mw_X8_nextTime.2.1 mw_X8_nextTime.2.2.1 mw_X8_nextTime.2.2.2 ⟨rfl, by decide, by decide, by decide +kernel⟩ rfl rfl ⟨by decide, by decide⟩ rfl rfl (Nat.le_of_ble_eq_true rfl) (by decide) (by decide) (by decide) dX8_continueHearing_26 (fun x6 M5 => ?_)
    refine g_goto (tgt := 33) hC dX8_continueHearing_29 (by decide) ?_
    exact g_X8_continueHearing_b33 hC  M5 a1 x6

-- ===== X8_checkJuror =====
def f_X8_checkJuror (M : gM) (a1 : Int32) : gR := (if a1 < 0 then (rThr 0 M) else (if a1 < 14 then (rRet 0 M) else (rThr 0 M)))
abbrev rm_X8_checkJuror : Room := { frames := 6, cells := 1, slots := 6, locals := 90 }
set_option maxRecDepth 20000 in
set_option maxHeartbeats 4000000 in
theorem c_X8_checkJuror {l : Launch} (hfl : l.stackTraces = false) (Z : gZ) (M : gM) (a1 : Int32) : gMet l yX8_checkJuror cX8_checkJuror 2 none rm_X8_checkJuror 0 1 Z M [.ref (zad Z 0), .int a1] (f_X8_checkJuror M a1) := by
  refine g_enter hfl (by decide) (Nat.le_of_ble_eq_true rfl) (fun p e s m args below meth c hC => ?_)
  refine g_eq (F := f_X8_checkJuror M a1) rfl ?_
  refine g_lv0 (lv1 := [(0, .ref (zad Z 0)), (1, .int a1)]) rfl ?_
  unfold f_X8_checkJuror
  refine g_iload_n hC 1 dX8_checkJuror_0 rfl rfl ?_
  refine g_if_lt (tgt := 10) hC dX8_checkJuror_1 (by decide) (fun _ => ?_) (fun _ => ?_)
  · exact g_throwSW (text := "no such juror") hC 0 (by decide) thr_c0 thr_i0 (by decide) thr_a0 thr_n0 thr_g0 (by decide) (by decide) (Nat.le_of_ble_eq_true rfl) (by decide) (by decide) (by decide) dX8_checkJuror_10 dX8_checkJuror_13 dX8_checkJuror_14 dX8_checkJuror_17 dX8_checkJuror_20
  · refine g_iload_n hC 1 dX8_checkJuror_4 rfl rfl ?_
    refine g_bipush hC (v := 14) dX8_checkJuror_5 (by decide) ?_
    refine g_icmp_lt (tgt := 21) hC dX8_checkJuror_7 (by decide) (fun _ => ?_) (fun _ => ?_)
    · exact g_vret hC rfl (by decide) dX8_checkJuror_21
    · exact g_throwSW (text := "no such juror") hC 0 (by decide) thr_c0 thr_i0 (by decide) thr_a0 thr_n0 thr_g0 (by decide) (by decide) (Nat.le_of_ble_eq_true rfl) (by decide) (by decide) (by decide) dX8_checkJuror_10 dX8_checkJuror_13 dX8_checkJuror_14 dX8_checkJuror_17 dX8_checkJuror_20

-- ===== X8_strike =====
def f_X8_strike (M : gM) (a1 : Int32) (a2 : Int32) (a3 : Int32) : gR := (rb (f_X8_checkCase M a1) (fun _ M1 => (rb (f_X8_checkSide M1 a2) (fun _ M3 => (rb (f_X8_checkJuror M3 a3) (fun _ M5 => (rb (f_X6_isDone M5 a1) (fun x8 M7 => (if x8 = 0 then (rb (f_X6_turn M7 a1) (fun x10 M9 => (if x10 = a2 then (rb (f_X6_isStruck M9 a1 a3) (fun x12 M11 => (if x12 = 0 then (rb (f_X6_addStrike M11 a1 a3) (fun _ M13 => (gI a1 8 (rRet (M13 72 a1.toNatClampNeg) M13)))) else (rThr 2 M11)))) else (rThr 2 M9)))) else (rThr 2 M7))))))))))
abbrev rm_X8_strike : Room := { frames := 7, cells := 4, slots := 24, locals := 111 }
set_option maxRecDepth 20000 in
set_option maxHeartbeats 4000000 in
theorem c_X8_strike {l : Launch} (hfl : l.stackTraces = false) (Z : gZ) (M : gM) (a1 : Int32) (a2 : Int32) (a3 : Int32) : gMet l yX8_strike cX8_strike 4 (some .int) rm_X8_strike 1 4 Z M [.ref (zad Z 0), .int a1, .int a2, .int a3] (f_X8_strike M a1 a2 a3) := by
  refine g_enter hfl (by decide) (Nat.le_of_ble_eq_true rfl) (fun p e s m args below meth c hC => ?_)
  refine g_eq (F := f_X8_strike M a1 a2 a3) rfl ?_
  refine g_lv0 (lv1 := [(0, .ref (zad Z 0)), (1, .int a1), (2, .int a2), (3, .int a3)]) rfl ?_
  unfold f_X8_strike
  refine g_aload_n hC 0 dX8_strike_0 rfl rfl ?_
  refine g_iload_n hC 1 dX8_strike_1 rfl rfl ?_
  refine g_callVv (n := 1) hC [.int a1] 0 8 (by decide) rfl rfl (fun hne => c_X8_checkCase hC.2.2.2.2.2.2.2.1 Z M a1 hne) lk_X8_124 mw_X8_checkCase.1 mw_X8_checkCase.2.1 mw_X8_checkCase.2.2.1 mw_X8_checkCase.2.2.2 ⟨rfl, by decide, by decide, by decide +kernel⟩ rfl rfl ⟨by decide, by decide⟩ rfl rfl (Nat.le_of_ble_eq_true rfl) (by decide) (by decide) (by decide) dX8_strike_2 (fun M1 => ?_)
  refine g_aload_n hC 0 dX8_strike_5 rfl rfl ?_
  refine g_iload_n hC 2 dX8_strike_6 rfl rfl ?_
  refine g_callVv (n := 1) hC [.int a2] 0 8 (by decide) rfl rfl (fun hne => c_X8_checkSide hC.2.2.2.2.2.2.2.1 Z M1 a2 hne) lk_X8_130 mw_X8_checkSide.1 mw_X8_checkSide.2.1 mw_X8_checkSide.2.2.1 mw_X8_checkSide.2.2.2 ⟨rfl, by decide, by decide, by decide +kernel⟩ rfl rfl ⟨by decide, by decide⟩ rfl rfl (Nat.le_of_ble_eq_true rfl) (by decide) (by decide) (by decide) dX8_strike_7 (fun M3 => ?_)
  refine g_aload_n hC 0 dX8_strike_10 rfl rfl ?_
  refine g_iload_n hC 3 dX8_strike_11 rfl rfl ?_
  refine g_callVv (n := 1) hC [.int a3] 0 8 (by decide) rfl rfl (fun hne => c_X8_checkJuror hC.2.2.2.2.2.2.2.1 Z M3 a3 hne) lk_X8_368 mw_X8_checkJuror.1 mw_X8_checkJuror.2.1 mw_X8_checkJuror.2.2.1 mw_X8_checkJuror.2.2.2 ⟨rfl, by decide, by decide, by decide +kernel⟩ rfl rfl ⟨by decide, by decide⟩ rfl rfl (Nat.le_of_ble_eq_true rfl) (by decide) (by decide) (by decide) dX8_strike_12 (fun M5 => ?_)
  refine g_aload_n hC 0 dX8_strike_15 rfl rfl ?_
  refine gf_X8_47 hC dX8_strike_16 ?_
  refine g_iload_n hC 1 dX8_strike_19 rfl rfl ?_
  refine g_callVi (n := 1) hC [.int a1] 6 6 (by decide) rfl rfl (fun hne => c_X6_isDone hC.2.2.2.2.2.2.2.1 Z M5 a1 hne) lk_X8_371 mw_X6_isDone.1 mw_X6_isDone.2.1 mw_X6_isDone.2.2.1 mw_X6_isDone.2.2.2 ⟨rfl, by decide, by decide, by decide +kernel⟩ rfl rfl ⟨by decide, by decide⟩ rfl rfl (Nat.le_of_ble_eq_true rfl) (by decide) (by decide) (by decide) dX8_strike_20 (fun x8 M7 => ?_)
  refine g_if_ne (tgt := 50) hC dX8_strike_23 (by decide) (fun _ => ?_) (fun _ => ?_)
  · refine g_aload_n hC 0 dX8_strike_26 rfl rfl ?_
    refine gf_X8_47 hC dX8_strike_27 ?_
    refine g_iload_n hC 1 dX8_strike_30 rfl rfl ?_
    refine g_callVi (n := 1) hC [.int a1] 6 6 (by decide) rfl rfl (fun hne => c_X6_turn hC.2.2.2.2.2.2.2.1 Z M7 a1 hne) lk_X8_374 mw_X6_turn.1 mw_X6_turn.2.1 mw_X6_turn.2.2.1 mw_X6_turn.2.2.2 ⟨rfl, by decide, by decide, by decide +kernel⟩ rfl rfl ⟨by decide, by decide⟩ rfl rfl (Nat.le_of_ble_eq_true rfl) (by decide) (by decide) (by decide) dX8_strike_31 (fun x10 M9 => ?_)
    refine g_iload_n hC 2 dX8_strike_34 rfl rfl ?_
    refine g_icmp_ne (tgt := 50) hC dX8_strike_35 (by decide) (fun _ => ?_) (fun _ => ?_)
    · refine g_aload_n hC 0 dX8_strike_38 rfl rfl ?_
      refine gf_X8_47 hC dX8_strike_39 ?_
      refine g_iload_n hC 1 dX8_strike_42 rfl rfl ?_
      refine g_iload_n hC 3 dX8_strike_43 rfl rfl ?_
      refine g_callVi (n := 2) hC [.int a1, .int a3] 6 6 (by decide) rfl rfl (fun hne => c_X6_isStruck hC.2.2.2.2.2.2.2.1 Z M9 a1 a3 hne) lk_X8_377 mw_X6_isStruck.1 mw_X6_isStruck.2.1 mw_X6_isStruck.2.2.1 mw_X6_isStruck.2.2.2 ⟨rfl, by decide, by decide, by decide +kernel⟩ rfl rfl ⟨by decide, by decide⟩ rfl rfl (Nat.le_of_ble_eq_true rfl) (by decide) (by decide) (by decide) dX8_strike_44 (fun x12 M11 => ?_)
      refine g_if_eq (tgt := 61) hC dX8_strike_47 (by decide) (fun _ => ?_) (fun _ => ?_)
      · refine g_aload_n hC 0 dX8_strike_61 rfl rfl ?_
        refine gf_X8_47 hC dX8_strike_62 ?_
        refine g_iload_n hC 1 dX8_strike_65 rfl rfl ?_
        refine g_iload_n hC 3 dX8_strike_66 rfl rfl ?_
        refine g_callVv (n := 2) hC [.int a1, .int a3] 6 6 (by decide) rfl rfl (fun hne => c_X6_addStrike hC.2.2.2.2.2.2.2.1 Z M11 a1 a3 hne) lk_X8_382 mw_X6_addStrike.1 mw_X6_addStrike.2.1 mw_X6_addStrike.2.2.1 mw_X6_addStrike.2.2.2 ⟨rfl, by decide, by decide, by decide +kernel⟩ rfl rfl ⟨by decide, by decide⟩ rfl rfl (Nat.le_of_ble_eq_true rfl) (by decide) (by decide) (by decide) dX8_strike_67 (fun M13 => ?_)
        refine g_aload_n hC 0 dX8_strike_70 rfl rfl ?_
        refine gf_X8_47 hC dX8_strike_71 ?_
        refine gf_X8_385 hC dX8_strike_74 ?_
        refine g_iload_n hC 1 dX8_strike_77 rfl rfl ?_
        refine g_iald hC 72 (by decide) rfl dX8_strike_78 ?_
        exact g_iret hC rfl (by decide) dX8_strike_79
      · exact g_throwSW (text := "this strike cannot be") hC 2 (by decide) thr_c2 thr_i2 (by decide) thr_a2 thr_n2 thr_g2 (by decide) (by decide) (Nat.le_of_ble_eq_true rfl) (by decide) (by decide) (by decide) dX8_strike_50 dX8_strike_53 dX8_strike_54 dX8_strike_57 dX8_strike_60
    · exact g_throwSW (text := "this strike cannot be") hC 2 (by decide) thr_c2 thr_i2 (by decide) thr_a2 thr_n2 thr_g2 (by decide) (by decide) (Nat.le_of_ble_eq_true rfl) (by decide) (by decide) (by decide) dX8_strike_50 dX8_strike_53 dX8_strike_54 dX8_strike_57 dX8_strike_60
  · exact g_throwSW (text := "this strike cannot be") hC 2 (by decide) thr_c2 thr_i2 (by decide) thr_a2 thr_n2 thr_g2 (by decide) (by decide) (Nat.le_of_ble_eq_true rfl) (by decide) (by decide) (by decide) dX8_strike_50 dX8_strike_53 dX8_strike_54 dX8_strike_57 dX8_strike_60

-- ===== X8_dismiss =====
def f_X8_dismiss (M : gM) (a1 : Int32) (a2 : Int32) : gR := (rb (f_X8_checkCase M a1) (fun _ M1 => (rb (f_X8_checkJuror M1 a2) (fun _ M3 => (rb (f_X6_placeOf M3 a1 a2) (fun x6 M5 => (rb (f_X6_nextAlternate M5 a1) (fun x8 M7 => (if x6 = (-1) then (rThr 2 M7) else (if x8 = (-1) then (rThr 2 M7) else (rb (f_X6_reseat M7 a1 x6 x8) (fun _ M9 => (rRet x8 M9)))))))))))))
abbrev rm_X8_dismiss : Room := { frames := 7, cells := 3, slots := 18, locals := 111 }
set_option maxRecDepth 20000 in
set_option maxHeartbeats 4000000 in
theorem c_X8_dismiss {l : Launch} (hfl : l.stackTraces = false) (Z : gZ) (M : gM) (a1 : Int32) (a2 : Int32) : gMet l yX8_dismiss cX8_dismiss 5 (some .int) rm_X8_dismiss 1 3 Z M [.ref (zad Z 0), .int a1, .int a2] (f_X8_dismiss M a1 a2) := by
  refine g_enter hfl (by decide) (Nat.le_of_ble_eq_true rfl) (fun p e s m args below meth c hC => ?_)
  refine g_eq (F := f_X8_dismiss M a1 a2) rfl ?_
  refine g_lv0 (lv1 := [(0, .ref (zad Z 0)), (1, .int a1), (2, .int a2)]) rfl ?_
  unfold f_X8_dismiss
  refine g_aload_n hC 0 dX8_dismiss_0 rfl rfl ?_
  refine g_iload_n hC 1 dX8_dismiss_1 rfl rfl ?_
  refine g_callVv (n := 1) hC [.int a1] 0 8 (by decide) rfl rfl (fun hne => c_X8_checkCase hC.2.2.2.2.2.2.2.1 Z M a1 hne) lk_X8_124 mw_X8_checkCase.1 mw_X8_checkCase.2.1 mw_X8_checkCase.2.2.1 mw_X8_checkCase.2.2.2 ⟨rfl, by decide, by decide, by decide +kernel⟩ rfl rfl ⟨by decide, by decide⟩ rfl rfl (Nat.le_of_ble_eq_true rfl) (by decide) (by decide) (by decide) dX8_dismiss_2 (fun M1 => ?_)
  refine g_aload_n hC 0 dX8_dismiss_5 rfl rfl ?_
  refine g_iload_n hC 2 dX8_dismiss_6 rfl rfl ?_
  refine g_callVv (n := 1) hC [.int a2] 0 8 (by decide) rfl rfl (fun hne => c_X8_checkJuror hC.2.2.2.2.2.2.2.1 Z M1 a2 hne) lk_X8_368 mw_X8_checkJuror.1 mw_X8_checkJuror.2.1 mw_X8_checkJuror.2.2.1 mw_X8_checkJuror.2.2.2 ⟨rfl, by decide, by decide, by decide +kernel⟩ rfl rfl ⟨by decide, by decide⟩ rfl rfl (Nat.le_of_ble_eq_true rfl) (by decide) (by decide) (by decide) dX8_dismiss_7 (fun M3 => ?_)
  refine g_aload_n hC 0 dX8_dismiss_10 rfl rfl ?_
  refine gf_X8_47 hC dX8_dismiss_11 ?_
  refine g_iload_n hC 1 dX8_dismiss_14 rfl rfl ?_
  refine g_iload_n hC 2 dX8_dismiss_15 rfl rfl ?_
  refine g_callVi (n := 2) hC [.int a1, .int a2] 6 6 (by decide) rfl rfl (fun hne => c_X6_placeOf hC.2.2.2.2.2.2.2.1 Z M3 a1 a2 hne) lk_X8_388 mw_X6_placeOf.1 mw_X6_placeOf.2.1 mw_X6_placeOf.2.2.1 mw_X6_placeOf.2.2.2 ⟨rfl, by decide, by decide, by decide +kernel⟩ rfl rfl ⟨by decide, by decide⟩ rfl rfl (Nat.le_of_ble_eq_true rfl) (by decide) (by decide) (by decide) dX8_dismiss_16 (fun x6 M5 => ?_)
  refine g_istore_n hC (lv1 := [(3, .int x6), (0, .ref (zad Z 0)), (1, .int a1), (2, .int a2)]) dX8_dismiss_19 rfl (by decide) rfl ?_
  refine g_aload_n hC 1 dX8_dismiss_20 rfl rfl ?_
  refine gf_X8_47 hC dX8_dismiss_21 ?_
  refine g_iload_n hC 2 dX8_dismiss_24 rfl rfl ?_
  refine g_callVi (n := 1) hC [.int a1] 6 6 (by decide) rfl rfl (fun hne => c_X6_nextAlternate hC.2.2.2.2.2.2.2.1 Z M5 a1 hne) lk_X8_391 mw_X6_nextAlternate.1 mw_X6_nextAlternate.2.1 mw_X6_nextAlternate.2.2.1 mw_X6_nextAlternate.2.2.2 ⟨rfl, by decide, by decide, by decide +kernel⟩ rfl rfl ⟨by decide, by decide⟩ rfl rfl (Nat.le_of_ble_eq_true rfl) (by decide) (by decide) (by decide) dX8_dismiss_25 (fun x8 M7 => ?_)
  refine g_istore hC (lv1 := [(4, .int x8), (3, .int x6), (0, .ref (zad Z 0)), (1, .int a1), (2, .int a2)]) dX8_dismiss_28 (by decide) rfl ?_
  refine g_iload_n hC 1 dX8_dismiss_30 rfl rfl ?_
  refine g_iconst hC (v := (-1)) dX8_dismiss_31 (by decide) ?_
  refine g_icmp_eq (tgt := 41) hC dX8_dismiss_32 (by decide) (fun _ => ?_) (fun _ => ?_)
  · exact g_throwSW (text := "no one can be seated instead") hC 2 (by decide) thr_c2 thr_i2 (by decide) thr_a2 thr_n2 thr_g2 (by decide) (by decide) (Nat.le_of_ble_eq_true rfl) (by decide) (by decide) (by decide) dX8_dismiss_41 dX8_dismiss_44 dX8_dismiss_45 dX8_dismiss_48 dX8_dismiss_51
  · refine g_iload hC 0 dX8_dismiss_35 rfl ?_
    refine g_iconst hC (v := (-1)) dX8_dismiss_37 (by decide) ?_
    refine g_icmp_ne (tgt := 52) hC dX8_dismiss_38 (by decide) (fun _ => ?_) (fun _ => ?_)
    · exact g_throwSW (text := "no one can be seated instead") hC 2 (by decide) thr_c2 thr_i2 (by decide) thr_a2 thr_n2 thr_g2 (by decide) (by decide) (Nat.le_of_ble_eq_true rfl) (by decide) (by decide) (by decide) dX8_dismiss_41 dX8_dismiss_44 dX8_dismiss_45 dX8_dismiss_48 dX8_dismiss_51
    · refine g_aload_n hC 2 dX8_dismiss_52 rfl rfl ?_
      refine gf_X8_47 hC dX8_dismiss_53 ?_
      refine g_iload_n hC 3 dX8_dismiss_56 rfl rfl ?_
      refine g_iload_n hC 1 dX8_dismiss_57 rfl rfl ?_
      refine g_iload hC 0 dX8_dismiss_58 rfl ?_
      refine g_callVv (n := 3) hC [.int a1, .int x6, .int x8] 6 6 (by decide) rfl rfl (fun hne => c_X6_reseat hC.2.2.2.2.2.2.2.1 Z M7 a1 x6 x8 hne) lk_X8_396 mw_X6_reseat.1 mw_X6_reseat.2.1 mw_X6_reseat.2.2.1 mw_X6_reseat.2.2.2 ⟨rfl, by decide, by decide, by decide +kernel⟩ rfl rfl ⟨by decide, by decide⟩ rfl rfl (Nat.le_of_ble_eq_true rfl) (by decide) (by decide) (by decide) dX8_dismiss_60 (fun M9 => ?_)
      refine g_iload hC 0 dX8_dismiss_63 rfl ?_
      exact g_iret hC rfl (by decide) dX8_dismiss_65

-- ===== X8_seat =====
def f_X8_seat (M : gM) (a1 : Int32) (a2 : Int32) : gR := (rb (f_X8_checkCase M a1) (fun _ M1 => (if a2 < 0 then (rThr 0 M1) else (if a2 ≤ 6 then (if a2 = 6 then (rb (f_X6_nextAlternate M1 a1) (fun x4 M3 => (rRet x4 M3))) else (rb (f_X6_inSeat M1 a1 a2) (fun x6 M5 => (rRet x6 M5)))) else (rThr 0 M1)))))
abbrev rm_X8_seat : Room := { frames := 7, cells := 2, slots := 12, locals := 111 }
set_option maxRecDepth 20000 in
set_option maxHeartbeats 4000000 in
theorem c_X8_seat {l : Launch} (hfl : l.stackTraces = false) (Z : gZ) (M : gM) (a1 : Int32) (a2 : Int32) : gMet l yX8_seat cX8_seat 3 (some .int) rm_X8_seat 1 2 Z M [.ref (zad Z 0), .int a1, .int a2] (f_X8_seat M a1 a2) := by
  refine g_enter hfl (by decide) (Nat.le_of_ble_eq_true rfl) (fun p e s m args below meth c hC => ?_)
  refine g_eq (F := f_X8_seat M a1 a2) rfl ?_
  refine g_lv0 (lv1 := [(0, .ref (zad Z 0)), (1, .int a1), (2, .int a2)]) rfl ?_
  unfold f_X8_seat
  refine g_aload_n hC 0 dX8_seat_0 rfl rfl ?_
  refine g_iload_n hC 1 dX8_seat_1 rfl rfl ?_
  refine g_callVv (n := 1) hC [.int a1] 0 8 (by decide) rfl rfl (fun hne => c_X8_checkCase hC.2.2.2.2.2.2.2.1 Z M a1 hne) lk_X8_124 mw_X8_checkCase.1 mw_X8_checkCase.2.1 mw_X8_checkCase.2.2.1 mw_X8_checkCase.2.2.2 ⟨rfl, by decide, by decide, by decide +kernel⟩ rfl rfl ⟨by decide, by decide⟩ rfl rfl (Nat.le_of_ble_eq_true rfl) (by decide) (by decide) (by decide) dX8_seat_2 (fun M1 => ?_)
  refine g_iload_n hC 2 dX8_seat_5 rfl rfl ?_
  refine g_if_lt (tgt := 15) hC dX8_seat_6 (by decide) (fun _ => ?_) (fun _ => ?_)
  · exact g_throwSW (text := "no such seat") hC 0 (by decide) thr_c0 thr_i0 (by decide) thr_a0 thr_n0 thr_g0 (by decide) (by decide) (Nat.le_of_ble_eq_true rfl) (by decide) (by decide) (by decide) dX8_seat_15 dX8_seat_18 dX8_seat_19 dX8_seat_22 dX8_seat_25
  · refine g_iload_n hC 2 dX8_seat_9 rfl rfl ?_
    refine g_bipush hC (v := 6) dX8_seat_10 (by decide) ?_
    refine g_icmp_le (tgt := 26) hC dX8_seat_12 (by decide) (fun _ => ?_) (fun _ => ?_)
    · refine g_iload_n hC 2 dX8_seat_26 rfl rfl ?_
      refine g_bipush hC (v := 6) dX8_seat_27 (by decide) ?_
      refine g_icmp_ne (tgt := 43) hC dX8_seat_29 (by decide) (fun _ => ?_) (fun _ => ?_)
      · refine g_aload_n hC 0 dX8_seat_32 rfl rfl ?_
        refine gf_X8_47 hC dX8_seat_33 ?_
        refine g_iload_n hC 1 dX8_seat_36 rfl rfl ?_
        refine g_callVi (n := 1) hC [.int a1] 6 6 (by decide) rfl rfl (fun hne => c_X6_nextAlternate hC.2.2.2.2.2.2.2.1 Z M1 a1 hne) lk_X8_391 mw_X6_nextAlternate.1 mw_X6_nextAlternate.2.1 mw_X6_nextAlternate.2.2.1 mw_X6_nextAlternate.2.2.2 ⟨rfl, by decide, by decide, by decide +kernel⟩ rfl rfl ⟨by decide, by decide⟩ rfl rfl (Nat.le_of_ble_eq_true rfl) (by decide) (by decide) (by decide) dX8_seat_37 (fun x4 M3 => ?_)
        refine g_goto (tgt := 52) hC dX8_seat_40 (by decide) ?_
        exact g_iret hC rfl (by decide) dX8_seat_52
      · refine g_aload_n hC 0 dX8_seat_43 rfl rfl ?_
        refine gf_X8_47 hC dX8_seat_44 ?_
        refine g_iload_n hC 1 dX8_seat_47 rfl rfl ?_
        refine g_iload_n hC 2 dX8_seat_48 rfl rfl ?_
        refine g_callVi (n := 2) hC [.int a1, .int a2] 6 6 (by decide) rfl rfl (fun hne => c_X6_inSeat hC.2.2.2.2.2.2.2.1 Z M1 a1 a2 hne) lk_X8_402 mw_X6_inSeat.1 mw_X6_inSeat.2.1 mw_X6_inSeat.2.2.1 mw_X6_inSeat.2.2.2 ⟨rfl, by decide, by decide, by decide +kernel⟩ rfl rfl ⟨by decide, by decide⟩ rfl rfl (Nat.le_of_ble_eq_true rfl) (by decide) (by decide) (by decide) dX8_seat_49 (fun x6 M5 => ?_)
        exact g_iret hC rfl (by decide) dX8_seat_52
    · exact g_throwSW (text := "no such seat") hC 0 (by decide) thr_c0 thr_i0 (by decide) thr_a0 thr_n0 thr_g0 (by decide) (by decide) (Nat.le_of_ble_eq_true rfl) (by decide) (by decide) (by decide) dX8_seat_15 dX8_seat_18 dX8_seat_19 dX8_seat_22 dX8_seat_25

-- ===== X8_exhibit =====
def f_X8_exhibit (M : gM) (a1 : Int32) (a2 : Int32) : gR := (rb (f_X8_checkCase M a1) (fun _ M1 => (rb (f_X8_checkPerson M1 a2) (fun _ M3 => (if (M3 7 0) < 12 then (rb (f_X4_add M3 a2) (fun x6 M5 => (rRet x6 M5))) else (rThr 2 M3))))))
abbrev rm_X8_exhibit : Room := { frames := 7, cells := 3, slots := 18, locals := 111 }
set_option maxRecDepth 20000 in
set_option maxHeartbeats 4000000 in
theorem c_X8_exhibit {l : Launch} (hfl : l.stackTraces = false) (Z : gZ) (M : gM) (a1 : Int32) (a2 : Int32) : gMet l yX8_exhibit cX8_exhibit 3 (some .int) rm_X8_exhibit 1 3 Z M [.ref (zad Z 0), .int a1, .int a2] (f_X8_exhibit M a1 a2) := by
  refine g_enter hfl (by decide) (Nat.le_of_ble_eq_true rfl) (fun p e s m args below meth c hC => ?_)
  refine g_eq (F := f_X8_exhibit M a1 a2) rfl ?_
  refine g_lv0 (lv1 := [(0, .ref (zad Z 0)), (1, .int a1), (2, .int a2)]) rfl ?_
  unfold f_X8_exhibit
  refine g_aload_n hC 0 dX8_exhibit_0 rfl rfl ?_
  refine g_iload_n hC 1 dX8_exhibit_1 rfl rfl ?_
  refine g_callVv (n := 1) hC [.int a1] 0 8 (by decide) rfl rfl (fun hne => c_X8_checkCase hC.2.2.2.2.2.2.2.1 Z M a1 hne) lk_X8_124 mw_X8_checkCase.1 mw_X8_checkCase.2.1 mw_X8_checkCase.2.2.1 mw_X8_checkCase.2.2.2 ⟨rfl, by decide, by decide, by decide +kernel⟩ rfl rfl ⟨by decide, by decide⟩ rfl rfl (Nat.le_of_ble_eq_true rfl) (by decide) (by decide) (by decide) dX8_exhibit_2 (fun M1 => ?_)
  refine g_aload_n hC 0 dX8_exhibit_5 rfl rfl ?_
  refine g_iload_n hC 2 dX8_exhibit_6 rfl rfl ?_
  refine g_callVv (n := 1) hC [.int a2] 0 8 (by decide) rfl rfl (fun hne => c_X8_checkPerson hC.2.2.2.2.2.2.2.1 Z M1 a2 hne) lk_X8_127 mw_X8_checkPerson.1 mw_X8_checkPerson.2.1 mw_X8_checkPerson.2.2.1 mw_X8_checkPerson.2.2.2 ⟨rfl, by decide, by decide, by decide +kernel⟩ rfl rfl ⟨by decide, by decide⟩ rfl rfl (Nat.le_of_ble_eq_true rfl) (by decide) (by decide) (by decide) dX8_exhibit_7 (fun M3 => ?_)
  refine g_aload_n hC 0 dX8_exhibit_10 rfl rfl ?_
  refine gf_X8_54 hC dX8_exhibit_11 ?_
  refine gf_X8_405 hC dX8_exhibit_14 ?_
  refine g_bipush hC (v := 12) dX8_exhibit_17 (by decide) ?_
  refine g_icmp_lt (tgt := 33) hC dX8_exhibit_19 (by decide) (fun _ => ?_) (fun _ => ?_)
  · refine g_aload_n hC 0 dX8_exhibit_33 rfl rfl ?_
    refine gf_X8_54 hC dX8_exhibit_34 ?_
    refine g_iload_n hC 2 dX8_exhibit_37 rfl rfl ?_
    refine g_callVi (n := 1) hC [.int a2] 7 4 (by decide) rfl rfl (fun hne => c_X4_add hC.2.2.2.2.2.2.2.1 Z M3 a2 hne) lk_X8_408 mw_X4_add.1 mw_X4_add.2.1 mw_X4_add.2.2.1 mw_X4_add.2.2.2 ⟨rfl, by decide, by decide, by decide +kernel⟩ rfl rfl ⟨by decide, by decide⟩ rfl rfl (Nat.le_of_ble_eq_true rfl) (by decide) (by decide) (by decide) dX8_exhibit_38 (fun x6 M5 => ?_)
    exact g_iret hC rfl (by decide) dX8_exhibit_41
  · exact g_throwSW (text := "too many exhibits") hC 2 (by decide) thr_c2 thr_i2 (by decide) thr_a2 thr_n2 thr_g2 (by decide) (by decide) (Nat.le_of_ble_eq_true rfl) (by decide) (by decide) (by decide) dX8_exhibit_22 dX8_exhibit_25 dX8_exhibit_26 dX8_exhibit_29 dX8_exhibit_32

-- ===== X8_checkExhibit =====
def f_X8_checkExhibit (M : gM) (a1 : Int32) : gR := (if a1 < 0 then (rThr 0 M) else (if a1 < (M 7 0) then (rRet 0 M) else (rThr 0 M)))
abbrev rm_X8_checkExhibit : Room := { frames := 6, cells := 1, slots := 6, locals := 90 }
set_option maxRecDepth 20000 in
set_option maxHeartbeats 4000000 in
theorem c_X8_checkExhibit {l : Launch} (hfl : l.stackTraces = false) (Z : gZ) (M : gM) (a1 : Int32) : gMet l yX8_checkExhibit cX8_checkExhibit 2 none rm_X8_checkExhibit 0 1 Z M [.ref (zad Z 0), .int a1] (f_X8_checkExhibit M a1) := by
  refine g_enter hfl (by decide) (Nat.le_of_ble_eq_true rfl) (fun p e s m args below meth c hC => ?_)
  refine g_eq (F := f_X8_checkExhibit M a1) rfl ?_
  refine g_lv0 (lv1 := [(0, .ref (zad Z 0)), (1, .int a1)]) rfl ?_
  unfold f_X8_checkExhibit
  refine g_iload_n hC 1 dX8_checkExhibit_0 rfl rfl ?_
  refine g_if_lt (tgt := 15) hC dX8_checkExhibit_1 (by decide) (fun _ => ?_) (fun _ => ?_)
  · exact g_throwSW (text := "no such exhibit") hC 0 (by decide) thr_c0 thr_i0 (by decide) thr_a0 thr_n0 thr_g0 (by decide) (by decide) (Nat.le_of_ble_eq_true rfl) (by decide) (by decide) (by decide) dX8_checkExhibit_15 dX8_checkExhibit_18 dX8_checkExhibit_19 dX8_checkExhibit_22 dX8_checkExhibit_25
  · refine g_iload_n hC 1 dX8_checkExhibit_4 rfl rfl ?_
    refine g_aload_n hC 0 dX8_checkExhibit_5 rfl rfl ?_
    refine gf_X8_54 hC dX8_checkExhibit_6 ?_
    refine gf_X8_405 hC dX8_checkExhibit_9 ?_
    refine g_icmp_lt (tgt := 26) hC dX8_checkExhibit_12 (by decide) (fun _ => ?_) (fun _ => ?_)
    · exact g_vret hC rfl (by decide) dX8_checkExhibit_26
    · exact g_throwSW (text := "no such exhibit") hC 0 (by decide) thr_c0 thr_i0 (by decide) thr_a0 thr_n0 thr_g0 (by decide) (by decide) (Nat.le_of_ble_eq_true rfl) (by decide) (by decide) (by decide) dX8_checkExhibit_15 dX8_checkExhibit_18 dX8_checkExhibit_19 dX8_checkExhibit_22 dX8_checkExhibit_25

-- ===== X8_hand =====
def f_X8_hand_b38  (M : gM) (a1 : Int32) (a3 : Int32)  : gR := (gI a1 12 (bM (gset M 84 a1.toNatClampNeg a3) (fun M1 => (gI a1 12 (if (M1 85 a1.toNatClampNeg) = 0 then (rRet 1 M1) else (rRet 0 M1))))))
def f_X8_hand (M : gM) (a1 : Int32) (a2 : Int32) (a3 : Int32) : gR := (rb (f_X8_checkExhibit M a1) (fun _ M2 => (rb (f_X8_checkPerson M2 a2) (fun _ M4 => (rb (f_X8_checkPerson M4 a3) (fun _ M6 => (gI a1 12 (if (M6 84 a1.toNatClampNeg) = a2 then (f_X8_hand_b38  M6 a1 a3 ) else (gZ01 1 (gI a1 12 (bM (gset M6 85 a1.toNatClampNeg 1) (fun M8 => (f_X8_hand_b38  M8 a1 a3 )))))))))))))
abbrev rm_X8_hand : Room := { frames := 7, cells := 3, slots := 18, locals := 111 }
set_option maxRecDepth 20000 in
set_option maxHeartbeats 4000000 in
theorem g_X8_hand_b38 {p : Program} {l : Launch} {e : Env} {s : State} {m : MethodId} {args : Array Value} {below : List Frame} {meth : Method} {c : Code} {Z : gZ} (hC : gC p l s m args meth c cX8_hand 4 RX8 (some .boolean) Z)   (M : gM) (a1 : Int32) (a3 : Int32)  : gW p l e rm_X8_hand s m args below meth c 4 Z 1 3 3 M 38 [(0, .ref (zad Z 0)), (1, .int a1), (3, .int a3)] [] (f_X8_hand_b38  M a1 a3 ) := by
  unfold f_X8_hand_b38
  refine g_aload_n hC 0 dX8_hand_38 rfl rfl ?_
  refine gf_X8_54 hC dX8_hand_39 ?_
  refine gf_X8_412 hC dX8_hand_42 ?_
  refine g_iload_n hC 1 dX8_hand_45 rfl rfl ?_
  refine g_iload_n hC 2 dX8_hand_46 rfl rfl ?_
  refine g_iast hC 84 (by decide) rfl dX8_hand_47 (fun M1 => ?_)
  refine g_aload_n hC 0 dX8_hand_48 rfl rfl ?_
  refine gf_X8_54 hC dX8_hand_49 ?_
  refine gf_X8_415 hC dX8_hand_52 ?_
  refine g_iload_n hC 1 dX8_hand_55 rfl rfl ?_
  refine g_zald hC 85 (by decide) rfl dX8_hand_56 ?_
  refine g_if_ne (tgt := 64) hC dX8_hand_57 (by decide) (fun _ => ?_) (fun _ => ?_)
  · refine g_iconst hC (v := 1) dX8_hand_60 (by decide) ?_
    refine g_goto (tgt := 65) hC dX8_hand_61 (by decide) ?_
    exact g_zret1 hC rfl (by decide) dX8_hand_65
  · refine g_iconst hC (v := 0) dX8_hand_64 (by decide) ?_
    exact g_zret0 hC rfl (by decide) dX8_hand_65
set_option maxRecDepth 20000 in
set_option maxHeartbeats 4000000 in
theorem c_X8_hand {l : Launch} (hfl : l.stackTraces = false) (Z : gZ) (M : gM) (a1 : Int32) (a2 : Int32) (a3 : Int32) : gMet l yX8_hand cX8_hand 4 (some .boolean) rm_X8_hand 1 3 Z M [.ref (zad Z 0), .int a1, .int a2, .int a3] (f_X8_hand M a1 a2 a3) := by
  refine g_enter hfl (by decide) (Nat.le_of_ble_eq_true rfl) (fun p e s m args below meth c hC => ?_)
  refine g_eq (F := f_X8_hand M a1 a2 a3) rfl ?_
  refine g_lv0 (lv1 := [(0, .ref (zad Z 0)), (1, .int a1), (2, .int a2), (3, .int a3)]) rfl ?_
  unfold f_X8_hand
  refine g_aload_n hC 0 dX8_hand_0 rfl rfl ?_
  refine g_iload_n hC 1 dX8_hand_1 rfl rfl ?_
  refine g_callVv (n := 1) hC [.int a1] 0 8 (by decide) rfl rfl (fun hne => c_X8_checkExhibit hC.2.2.2.2.2.2.2.1 Z M a1 hne) lk_X8_409 mw_X8_checkExhibit.1 mw_X8_checkExhibit.2.1 mw_X8_checkExhibit.2.2.1 mw_X8_checkExhibit.2.2.2 ⟨rfl, by decide, by decide, by decide +kernel⟩ rfl rfl ⟨by decide, by decide⟩ rfl rfl (Nat.le_of_ble_eq_true rfl) (by decide) (by decide) (by decide) dX8_hand_2 (fun M2 => ?_)
  refine g_aload_n hC 0 dX8_hand_5 rfl rfl ?_
  refine g_iload_n hC 2 dX8_hand_6 rfl rfl ?_
  refine g_callVv (n := 1) hC [.int a2] 0 8 (by decide) rfl rfl (fun hne => c_X8_checkPerson hC.2.2.2.2.2.2.2.1 Z M2 a2 hne) lk_X8_127 mw_X8_checkPerson.1 mw_X8_checkPerson.2.1 mw_X8_checkPerson.2.2.1 mw_X8_checkPerson.2.2.2 ⟨rfl, by decide, by decide, by decide +kernel⟩ rfl rfl ⟨by decide, by decide⟩ rfl rfl (Nat.le_of_ble_eq_true rfl) (by decide) (by decide) (by decide) dX8_hand_7 (fun M4 => ?_)
  refine g_aload_n hC 0 dX8_hand_10 rfl rfl ?_
  refine g_iload_n hC 3 dX8_hand_11 rfl rfl ?_
  refine g_callVv (n := 1) hC [.int a3] 0 8 (by decide) rfl rfl (fun hne => c_X8_checkPerson hC.2.2.2.2.2.2.2.1 Z M4 a3 hne) lk_X8_127 mw_X8_checkPerson.1 mw_X8_checkPerson.2.1 mw_X8_checkPerson.2.2.1 mw_X8_checkPerson.2.2.2 ⟨rfl, by decide, by decide, by decide +kernel⟩ rfl rfl ⟨by decide, by decide⟩ rfl rfl (Nat.le_of_ble_eq_true rfl) (by decide) (by decide) (by decide) dX8_hand_12 (fun M6 => ?_)
  refine g_aload_n hC 0 dX8_hand_15 rfl rfl ?_
  refine gf_X8_54 hC dX8_hand_16 ?_
  refine gf_X8_412 hC dX8_hand_19 ?_
  refine g_iload_n hC 1 dX8_hand_22 rfl rfl ?_
  refine g_iald hC 84 (by decide) rfl dX8_hand_23 ?_
  refine g_iload_n hC 2 dX8_hand_24 rfl rfl ?_
  refine g_icmp_eq (tgt := 38) hC dX8_hand_25 (by decide) (fun _ => ?_) (fun _ => ?_)
  · refine g_sub (lv1 := [(0, .ref (zad Z 0)), (1, .int a1), (3, .int a3)]) [0, 1, 3] rfl ?_
    exact g_X8_hand_b38 hC  M6 a1 a3 
  · refine g_aload_n hC 0 dX8_hand_28 rfl rfl ?_
    refine gf_X8_54 hC dX8_hand_29 ?_
    refine gf_X8_415 hC dX8_hand_32 ?_
    refine g_iload_n hC 1 dX8_hand_35 rfl rfl ?_
    refine g_iconst hC (v := 1) dX8_hand_36 (by decide) ?_
    refine g_zast hC 85 (by decide) rfl dX8_hand_37 (fun M8 => ?_)
    refine g_sub (lv1 := [(0, .ref (zad Z 0)), (1, .int a1), (3, .int a3)]) [0, 1, 3] rfl ?_
    exact g_X8_hand_b38 hC  M8 a1 a3 

-- ===== X8_object =====
def f_X8_object (M : gM) (a1 : Int32) (a2 : Int32) : gR := (rb (f_X8_checkExhibit M a1) (fun _ M1 => (rb (f_X8_checkSide M1 a2) (fun _ M3 => (gI a1 12 (gI a2 2 (if (M3 86 (a1.toNatClampNeg * 2 + a2.toNatClampNeg)) = 0 then (gI a1 12 (gI a2 2 (bM (gset M3 86 (a1.toNatClampNeg * 2 + a2.toNatClampNeg) 1) (fun M7 => (rRet 0 M7))))) else (rThr 2 M3))))))))
abbrev rm_X8_object : Room := { frames := 7, cells := 3, slots := 18, locals := 111 }
set_option maxRecDepth 20000 in
set_option maxHeartbeats 4000000 in
theorem c_X8_object {l : Launch} (hfl : l.stackTraces = false) (Z : gZ) (M : gM) (a1 : Int32) (a2 : Int32) : gMet l yX8_object cX8_object 3 none rm_X8_object 0 3 Z M [.ref (zad Z 0), .int a1, .int a2] (f_X8_object M a1 a2) := by
  refine g_enter hfl (by decide) (Nat.le_of_ble_eq_true rfl) (fun p e s m args below meth c hC => ?_)
  refine g_eq (F := f_X8_object M a1 a2) rfl ?_
  refine g_lv0 (lv1 := [(0, .ref (zad Z 0)), (1, .int a1), (2, .int a2)]) rfl ?_
  unfold f_X8_object
  refine g_aload_n hC 0 dX8_object_0 rfl rfl ?_
  refine g_iload_n hC 1 dX8_object_1 rfl rfl ?_
  refine g_callVv (n := 1) hC [.int a1] 0 8 (by decide) rfl rfl (fun hne => c_X8_checkExhibit hC.2.2.2.2.2.2.2.1 Z M a1 hne) lk_X8_409 mw_X8_checkExhibit.1 mw_X8_checkExhibit.2.1 mw_X8_checkExhibit.2.2.1 mw_X8_checkExhibit.2.2.2 ⟨rfl, by decide, by decide, by decide +kernel⟩ rfl rfl ⟨by decide, by decide⟩ rfl rfl (Nat.le_of_ble_eq_true rfl) (by decide) (by decide) (by decide) dX8_object_2 (fun M1 => ?_)
  refine g_aload_n hC 0 dX8_object_5 rfl rfl ?_
  refine g_iload_n hC 2 dX8_object_6 rfl rfl ?_
  refine g_callVv (n := 1) hC [.int a2] 0 8 (by decide) rfl rfl (fun hne => c_X8_checkSide hC.2.2.2.2.2.2.2.1 Z M1 a2 hne) lk_X8_130 mw_X8_checkSide.1 mw_X8_checkSide.2.1 mw_X8_checkSide.2.2.1 mw_X8_checkSide.2.2.2 ⟨rfl, by decide, by decide, by decide +kernel⟩ rfl rfl ⟨by decide, by decide⟩ rfl rfl (Nat.le_of_ble_eq_true rfl) (by decide) (by decide) (by decide) dX8_object_7 (fun M3 => ?_)
  refine g_aload_n hC 0 dX8_object_10 rfl rfl ?_
  refine gf_X8_54 hC dX8_object_11 ?_
  refine gf_X8_418 hC dX8_object_14 ?_
  refine g_iload_n hC 1 dX8_object_17 rfl rfl ?_
  refine g_aald hC 86 (by decide) rfl dX8_object_18 (fun hr5 => ?_)
  refine g_iload_n hC 2 dX8_object_19 rfl rfl ?_
  refine g_raldv hC 87 86 12 2 grid_86 hr5 dX8_object_20 ?_
  refine g_if_eq (tgt := 35) hC dX8_object_21 (by decide) (fun _ => ?_) (fun _ => ?_)
  · refine g_aload_n hC 0 dX8_object_35 rfl rfl ?_
    refine gf_X8_54 hC dX8_object_36 ?_
    refine gf_X8_418 hC dX8_object_39 ?_
    refine g_iload_n hC 1 dX8_object_42 rfl rfl ?_
    refine g_aald hC 86 (by decide) rfl dX8_object_43 (fun hr6 => ?_)
    refine g_iload_n hC 2 dX8_object_44 rfl rfl ?_
    refine g_iconst hC (v := 1) dX8_object_45 (by decide) ?_
    refine g_rastv hC 87 86 12 2 grid_86 hr6 dX8_object_46 (fun M7 => ?_)
    exact g_vret hC rfl (by decide) dX8_object_47
  · exact g_throwSW (text := "the side has objected") hC 2 (by decide) thr_c2 thr_i2 (by decide) thr_a2 thr_n2 thr_g2 (by decide) (by decide) (Nat.le_of_ble_eq_true rfl) (by decide) (by decide) (by decide) dX8_object_24 dX8_object_27 dX8_object_28 dX8_object_31 dX8_object_34

-- ===== X8_sustain =====
def f_X8_sustain (M : gM) (a1 : Int32) (a2 : Int32) (a3 : Int32) : gR := (rb (f_X8_checkExhibit M a1) (fun _ M1 => (rb (f_X8_checkSide M1 a2) (fun _ M3 => (gI a1 12 (gI a2 2 (if (M3 86 (a1.toNatClampNeg * 2 + a2.toNatClampNeg)) = 1 then (gI a1 12 (if a3 = 0 then (gI a2 2 (bM (gset M3 86 (a1.toNatClampNeg * 2 + a2.toNatClampNeg) 3) (fun M7 => (rRet 0 M7)))) else (gI a2 2 (bM (gset M3 86 (a1.toNatClampNeg * 2 + a2.toNatClampNeg) 2) (fun M8 => (rRet 0 M8)))))) else (rThr 2 M3))))))))
abbrev rm_X8_sustain : Room := { frames := 7, cells := 3, slots := 18, locals := 111 }
set_option maxRecDepth 20000 in
set_option maxHeartbeats 4000000 in
theorem c_X8_sustain {l : Launch} (hfl : l.stackTraces = false) (Z : gZ) (M : gM) (a1 : Int32) (a2 : Int32) (a3 : Int32) : gMet l yX8_sustain cX8_sustain 4 none rm_X8_sustain 0 3 Z M [.ref (zad Z 0), .int a1, .int a2, .int a3] (f_X8_sustain M a1 a2 a3) := by
  refine g_enter hfl (by decide) (Nat.le_of_ble_eq_true rfl) (fun p e s m args below meth c hC => ?_)
  refine g_eq (F := f_X8_sustain M a1 a2 a3) rfl ?_
  refine g_lv0 (lv1 := [(0, .ref (zad Z 0)), (1, .int a1), (2, .int a2), (3, .int a3)]) rfl ?_
  unfold f_X8_sustain
  refine g_aload_n hC 0 dX8_sustain_0 rfl rfl ?_
  refine g_iload_n hC 1 dX8_sustain_1 rfl rfl ?_
  refine g_callVv (n := 1) hC [.int a1] 0 8 (by decide) rfl rfl (fun hne => c_X8_checkExhibit hC.2.2.2.2.2.2.2.1 Z M a1 hne) lk_X8_409 mw_X8_checkExhibit.1 mw_X8_checkExhibit.2.1 mw_X8_checkExhibit.2.2.1 mw_X8_checkExhibit.2.2.2 ⟨rfl, by decide, by decide, by decide +kernel⟩ rfl rfl ⟨by decide, by decide⟩ rfl rfl (Nat.le_of_ble_eq_true rfl) (by decide) (by decide) (by decide) dX8_sustain_2 (fun M1 => ?_)
  refine g_aload_n hC 0 dX8_sustain_5 rfl rfl ?_
  refine g_iload_n hC 2 dX8_sustain_6 rfl rfl ?_
  refine g_callVv (n := 1) hC [.int a2] 0 8 (by decide) rfl rfl (fun hne => c_X8_checkSide hC.2.2.2.2.2.2.2.1 Z M1 a2 hne) lk_X8_130 mw_X8_checkSide.1 mw_X8_checkSide.2.1 mw_X8_checkSide.2.2.1 mw_X8_checkSide.2.2.2 ⟨rfl, by decide, by decide, by decide +kernel⟩ rfl rfl ⟨by decide, by decide⟩ rfl rfl (Nat.le_of_ble_eq_true rfl) (by decide) (by decide) (by decide) dX8_sustain_7 (fun M3 => ?_)
  refine g_aload_n hC 0 dX8_sustain_10 rfl rfl ?_
  refine gf_X8_54 hC dX8_sustain_11 ?_
  refine gf_X8_418 hC dX8_sustain_14 ?_
  refine g_iload_n hC 1 dX8_sustain_17 rfl rfl ?_
  refine g_aald hC 86 (by decide) rfl dX8_sustain_18 (fun hr5 => ?_)
  refine g_iload_n hC 2 dX8_sustain_19 rfl rfl ?_
  refine g_raldv hC 87 86 12 2 grid_86 hr5 dX8_sustain_20 ?_
  refine g_iconst hC (v := 1) dX8_sustain_21 (by decide) ?_
  refine g_icmp_eq (tgt := 36) hC dX8_sustain_22 (by decide) (fun _ => ?_) (fun _ => ?_)
  · refine g_aload_n hC 0 dX8_sustain_36 rfl rfl ?_
    refine gf_X8_54 hC dX8_sustain_37 ?_
    refine gf_X8_418 hC dX8_sustain_40 ?_
    refine g_iload_n hC 1 dX8_sustain_43 rfl rfl ?_
    refine g_aald hC 86 (by decide) rfl dX8_sustain_44 (fun hr6 => ?_)
    refine g_iload_n hC 2 dX8_sustain_45 rfl rfl ?_
    refine g_iload_n hC 3 dX8_sustain_46 rfl rfl ?_
    refine g_if_eq (tgt := 54) hC dX8_sustain_47 (by decide) (fun _ => ?_) (fun _ => ?_)
    · refine g_iconst hC (v := 3) dX8_sustain_54 (by decide) ?_
      refine g_rastv hC 87 86 12 2 grid_86 hr6 dX8_sustain_55 (fun M7 => ?_)
      exact g_vret hC rfl (by decide) dX8_sustain_56
    · refine g_iconst hC (v := 2) dX8_sustain_50 (by decide) ?_
      refine g_goto (tgt := 55) hC dX8_sustain_51 (by decide) ?_
      refine g_rastv hC 87 86 12 2 grid_86 hr6 dX8_sustain_55 (fun M8 => ?_)
      exact g_vret hC rfl (by decide) dX8_sustain_56
  · exact g_throwSW (text := "no objection waits") hC 2 (by decide) thr_c2 thr_i2 (by decide) thr_a2 thr_n2 thr_g2 (by decide) (by decide) (Nat.le_of_ble_eq_true rfl) (by decide) (by decide) (by decide) dX8_sustain_25 dX8_sustain_28 dX8_sustain_29 dX8_sustain_32 dX8_sustain_35

-- ===== X8_isAdmitted =====
def f_X8_isAdmitted (M : gM) (a1 : Int32) : gR := (rb (f_X8_checkExhibit M a1) (fun _ M1 => (gI a1 12 (if (M1 85 a1.toNatClampNeg) = 0 then (rb (f_X4_isOpposed M1 a1) (fun x4 M3 => (if x4 = 0 then (rRet 1 M3) else (rRet 0 M3)))) else (rRet 0 M1)))))
abbrev rm_X8_isAdmitted : Room := { frames := 7, cells := 1, slots := 6, locals := 111 }
set_option maxRecDepth 20000 in
set_option maxHeartbeats 4000000 in
theorem c_X8_isAdmitted {l : Launch} (hfl : l.stackTraces = false) (Z : gZ) (M : gM) (a1 : Int32) : gMet l yX8_isAdmitted cX8_isAdmitted 2 (some .boolean) rm_X8_isAdmitted 1 1 Z M [.ref (zad Z 0), .int a1] (f_X8_isAdmitted M a1) := by
  refine g_enter hfl (by decide) (Nat.le_of_ble_eq_true rfl) (fun p e s m args below meth c hC => ?_)
  refine g_eq (F := f_X8_isAdmitted M a1) rfl ?_
  refine g_lv0 (lv1 := [(0, .ref (zad Z 0)), (1, .int a1)]) rfl ?_
  unfold f_X8_isAdmitted
  refine g_aload_n hC 0 dX8_isAdmitted_0 rfl rfl ?_
  refine g_iload_n hC 1 dX8_isAdmitted_1 rfl rfl ?_
  refine g_callVv (n := 1) hC [.int a1] 0 8 (by decide) rfl rfl (fun hne => c_X8_checkExhibit hC.2.2.2.2.2.2.2.1 Z M a1 hne) lk_X8_409 mw_X8_checkExhibit.1 mw_X8_checkExhibit.2.1 mw_X8_checkExhibit.2.2.1 mw_X8_checkExhibit.2.2.2 ⟨rfl, by decide, by decide, by decide +kernel⟩ rfl rfl ⟨by decide, by decide⟩ rfl rfl (Nat.le_of_ble_eq_true rfl) (by decide) (by decide) (by decide) dX8_isAdmitted_2 (fun M1 => ?_)
  refine g_aload_n hC 0 dX8_isAdmitted_5 rfl rfl ?_
  refine gf_X8_54 hC dX8_isAdmitted_6 ?_
  refine gf_X8_415 hC dX8_isAdmitted_9 ?_
  refine g_iload_n hC 1 dX8_isAdmitted_12 rfl rfl ?_
  refine g_zald hC 85 (by decide) rfl dX8_isAdmitted_13 ?_
  refine g_if_ne (tgt := 32) hC dX8_isAdmitted_14 (by decide) (fun _ => ?_) (fun _ => ?_)
  · refine g_aload_n hC 0 dX8_isAdmitted_17 rfl rfl ?_
    refine gf_X8_54 hC dX8_isAdmitted_18 ?_
    refine g_iload_n hC 1 dX8_isAdmitted_21 rfl rfl ?_
    refine g_callVi (n := 1) hC [.int a1] 7 4 (by decide) rfl rfl (fun hne => c_X4_isOpposed hC.2.2.2.2.2.2.2.1 Z M1 a1 hne) lk_X8_425 mw_X4_isOpposed.1 mw_X4_isOpposed.2.1 mw_X4_isOpposed.2.2.1 mw_X4_isOpposed.2.2.2 ⟨rfl, by decide, by decide, by decide +kernel⟩ rfl rfl ⟨by decide, by decide⟩ rfl rfl (Nat.le_of_ble_eq_true rfl) (by decide) (by decide) (by decide) dX8_isAdmitted_22 (fun x4 M3 => ?_)
    refine g_if_ne (tgt := 32) hC dX8_isAdmitted_25 (by decide) (fun _ => ?_) (fun _ => ?_)
    · refine g_iconst hC (v := 1) dX8_isAdmitted_28 (by decide) ?_
      refine g_goto (tgt := 33) hC dX8_isAdmitted_29 (by decide) ?_
      exact g_zret1 hC rfl (by decide) dX8_isAdmitted_33
    · refine g_iconst hC (v := 0) dX8_isAdmitted_32 (by decide) ?_
      exact g_zret0 hC rfl (by decide) dX8_isAdmitted_33
  · refine g_iconst hC (v := 0) dX8_isAdmitted_32 (by decide) ?_
    exact g_zret0 hC rfl (by decide) dX8_isAdmitted_33

-- ===== X8_seal =====
def f_X8_seal_b29  (M : gM) (a1 : Int32) (a2 : Int32) (t0 : Int32) : gR := (if t0 = 0 then (gZ01 t0 (rRet t0 M)) else (rb (f_X7_add M a1 (M 1 0) a2) (fun _ M1 => (gZ01 t0 (rRet t0 M1)))))
def f_X8_seal (M : gM) (a1 : Int32) (a2 : Int32) : gR := (rb (f_X8_checkEntry M a1) (fun _ M3 => (rb (f_X7_isSealed M3 a1 (M3 1 0)) (fun x6 M5 => (if x6 = a2 then (f_X8_seal_b29  M5 a1 a2 0) else (f_X8_seal_b29  M5 a1 a2 1))))))
abbrev rm_X8_seal : Room := { frames := 7, cells := 1, slots := 6, locals := 111 }
set_option maxRecDepth 20000 in
set_option maxHeartbeats 4000000 in
theorem g_X8_seal_b29 {p : Program} {l : Launch} {e : Env} {s : State} {m : MethodId} {args : Array Value} {below : List Frame} {meth : Method} {c : Code} {Z : gZ} (hC : gC p l s m args meth c cX8_seal 4 RX8 (some .boolean) Z)   (M : gM) (a1 : Int32) (a2 : Int32) (t0 : Int32) : gW p l e rm_X8_seal s m args below meth c 4 Z 1 1 1 M 29 [(0, .ref (zad Z 0)), (1, .int a1), (2, .int a2)] [.int t0] (f_X8_seal_b29  M a1 a2 t0) := by
  unfold f_X8_seal_b29
  refine g_istore_n hC (lv1 := [(3, .int t0), (0, .ref (zad Z 0)), (1, .int a1), (2, .int a2)]) dX8_seal_29 rfl (by decide) rfl ?_
  refine g_iload_n hC 0 dX8_seal_30 rfl rfl ?_
  refine g_if_eq (tgt := 50) hC dX8_seal_31 (by decide) (fun _ => ?_) (fun _ => ?_)
  · refine g_iload_n hC 0 dX8_seal_50 rfl rfl ?_
    exact g_zret hC rfl (by decide) dX8_seal_51
  · refine g_aload_n hC 1 dX8_seal_34 rfl rfl ?_
    refine gf_X8_61 hC dX8_seal_35 ?_
    refine g_iload_n hC 2 dX8_seal_38 rfl rfl ?_
    refine g_aload_n hC 1 dX8_seal_39 rfl rfl ?_
    refine gf_X8_12 hC dX8_seal_40 ?_
    refine gf_X8_69 hC dX8_seal_43 ?_
    refine g_iload_n hC 3 dX8_seal_46 rfl rfl ?_
    refine g_callVv (n := 3) hC [.int a1, .int (M 1 0), .int a2] 8 7 (by decide) rfl rfl (fun hne => c_X7_add hC.2.2.2.2.2.2.2.1 Z M a1 (M 1 0) a2 hne) lk_X8_431 mw_X7_add.1 mw_X7_add.2.1 mw_X7_add.2.2.1 mw_X7_add.2.2.2 ⟨rfl, by decide, by decide, by decide +kernel⟩ rfl rfl ⟨by decide, by decide⟩ rfl rfl (Nat.le_of_ble_eq_true rfl) (by decide) (by decide) (by decide) dX8_seal_47 (fun M1 => ?_)
    refine g_iload_n hC 0 dX8_seal_50 rfl rfl ?_
    exact g_zret hC rfl (by decide) dX8_seal_51
set_option maxRecDepth 20000 in
set_option maxHeartbeats 4000000 in
theorem c_X8_seal {l : Launch} (hfl : l.stackTraces = false) (Z : gZ) (M : gM) (a1 : Int32) (a2 : Int32) : gMet l yX8_seal cX8_seal 4 (some .boolean) rm_X8_seal 1 1 Z M [.ref (zad Z 0), .int a1, .int a2] (f_X8_seal M a1 a2) := by
  refine g_enter hfl (by decide) (Nat.le_of_ble_eq_true rfl) (fun p e s m args below meth c hC => ?_)
  refine g_eq (F := f_X8_seal M a1 a2) rfl ?_
  refine g_lv0 (lv1 := [(0, .ref (zad Z 0)), (1, .int a1), (2, .int a2)]) rfl ?_
  unfold f_X8_seal
  refine g_aload_n hC 0 dX8_seal_0 rfl rfl ?_
  refine g_iload_n hC 1 dX8_seal_1 rfl rfl ?_
  refine g_callVv (n := 1) hC [.int a1] 0 8 (by decide) rfl rfl (fun hne => c_X8_checkEntry hC.2.2.2.2.2.2.2.1 Z M a1 hne) lk_X8_298 mw_X8_checkEntry.1 mw_X8_checkEntry.2.1 mw_X8_checkEntry.2.2.1 mw_X8_checkEntry.2.2.2 ⟨rfl, by decide, by decide, by decide +kernel⟩ rfl rfl ⟨by decide, by decide⟩ rfl rfl (Nat.le_of_ble_eq_true rfl) (by decide) (by decide) (by decide) dX8_seal_2 (fun M3 => ?_)
  refine g_aload_n hC 0 dX8_seal_5 rfl rfl ?_
  refine gf_X8_61 hC dX8_seal_6 ?_
  refine g_iload_n hC 1 dX8_seal_9 rfl rfl ?_
  refine g_aload_n hC 0 dX8_seal_10 rfl rfl ?_
  refine gf_X8_12 hC dX8_seal_11 ?_
  refine gf_X8_69 hC dX8_seal_14 ?_
  refine g_callVi (n := 2) hC [.int a1, .int (M3 1 0)] 8 7 (by decide) rfl rfl (fun hne => c_X7_isSealed hC.2.2.2.2.2.2.2.1 Z M3 a1 (M3 1 0) hne) lk_X8_428 mw_X7_isSealed.1 mw_X7_isSealed.2.1 mw_X7_isSealed.2.2.1 mw_X7_isSealed.2.2.2 ⟨rfl, by decide, by decide, by decide +kernel⟩ rfl rfl ⟨by decide, by decide⟩ rfl rfl (Nat.le_of_ble_eq_true rfl) (by decide) (by decide) (by decide) dX8_seal_17 (fun x6 M5 => ?_)
  refine g_iload_n hC 2 dX8_seal_20 rfl rfl ?_
  refine g_icmp_eq (tgt := 28) hC dX8_seal_21 (by decide) (fun _ => ?_) (fun _ => ?_)
  · refine g_iconst hC (v := 0) dX8_seal_28 (by decide) ?_
    exact g_X8_seal_b29 hC  M5 a1 a2 0
  · refine g_iconst hC (v := 1) dX8_seal_24 (by decide) ?_
    refine g_goto (tgt := 29) hC dX8_seal_25 (by decide) ?_
    exact g_X8_seal_b29 hC  M5 a1 a2 1

-- ===== X8_caseOfEntry =====
def f_X8_caseOfEntry (M : gM) (a1 : Int32) : gR := (gI a1 160 (bV (M 57 a1.toNatClampNeg) (fun x1 => (rb (f_X3_isOfCase M a1) (fun x3 M2 => (if x3 = 0 then (gI x1 24 (rRet (M2 47 x1.toNatClampNeg) M2)) else (rRet x1 M2)))))))
abbrev rm_X8_caseOfEntry : Room := { frames := 1, cells := 0, slots := 0, locals := 21 }
set_option maxRecDepth 20000 in
set_option maxHeartbeats 4000000 in
theorem c_X8_caseOfEntry {l : Launch} (hfl : l.stackTraces = false) (Z : gZ) (M : gM) (a1 : Int32) : gMet l yX8_caseOfEntry cX8_caseOfEntry 3 (some .int) rm_X8_caseOfEntry 1 0 Z M [.ref (zad Z 0), .int a1] (f_X8_caseOfEntry M a1) := by
  refine g_enter hfl (by decide) (Nat.le_of_ble_eq_true rfl) (fun p e s m args below meth c hC => ?_)
  refine g_eq (F := f_X8_caseOfEntry M a1) rfl ?_
  refine g_lv0 (lv1 := [(0, .ref (zad Z 0)), (1, .int a1)]) rfl ?_
  unfold f_X8_caseOfEntry
  refine g_aload_n hC 0 dX8_caseOfEntry_0 rfl rfl ?_
  refine gf_X8_33 hC dX8_caseOfEntry_1 ?_
  refine gf_X8_232 hC dX8_caseOfEntry_4 ?_
  refine g_iload_n hC 1 dX8_caseOfEntry_7 rfl rfl ?_
  refine g_iald hC 57 (by decide) rfl dX8_caseOfEntry_8 ?_
  refine g_bv (fun x1 => ?_)
  refine g_istore_n hC (lv1 := [(2, .int x1), (0, .ref (zad Z 0)), (1, .int a1)]) dX8_caseOfEntry_9 rfl (by decide) rfl ?_
  refine g_aload_n hC 1 dX8_caseOfEntry_10 rfl rfl ?_
  refine gf_X8_33 hC dX8_caseOfEntry_11 ?_
  refine g_iload_n hC 2 dX8_caseOfEntry_14 rfl rfl ?_
  refine g_callVi (n := 1) hC [.int a1] 4 3 (by decide) rfl rfl (fun hne => c_X3_isOfCase hC.2.2.2.2.2.2.2.1 Z M a1 hne) lk_X8_513 mw_X3_isOfCase.1 mw_X3_isOfCase.2.1 mw_X3_isOfCase.2.2.1 mw_X3_isOfCase.2.2.2 ⟨rfl, by decide, by decide, by decide +kernel⟩ rfl rfl ⟨by decide, by decide⟩ rfl rfl (Nat.le_of_ble_eq_true rfl) (by decide) (by decide) (by decide) dX8_caseOfEntry_15 (fun x3 M2 => ?_)
  refine g_if_eq (tgt := 25) hC dX8_caseOfEntry_18 (by decide) (fun _ => ?_) (fun _ => ?_)
  · refine g_aload_n hC 1 dX8_caseOfEntry_25 rfl rfl ?_
    refine gf_X8_26 hC dX8_caseOfEntry_26 ?_
    refine gf_X8_177 hC dX8_caseOfEntry_29 ?_
    refine g_iload_n hC 0 dX8_caseOfEntry_32 rfl rfl ?_
    refine g_iald hC 47 (by decide) rfl dX8_caseOfEntry_33 ?_
    exact g_iret hC rfl (by decide) dX8_caseOfEntry_34
  · refine g_iload_n hC 0 dX8_caseOfEntry_21 rfl rfl ?_
    refine g_goto (tgt := 34) hC dX8_caseOfEntry_22 (by decide) ?_
    exact g_iret hC rfl (by decide) dX8_caseOfEntry_34

-- ===== X8_maySee =====
def f_X8_maySee (M : gM) (a1 : Int32) (a2 : Int32) (a3 : Int32) : gR := (rb (f_X8_checkEntry M a1) (fun _ M1 => (rb (f_X8_checkPerson M1 a2) (fun _ M3 => (if a3 < 0 then (rThr 1 M3) else (if a3 ≤ (M3 1 0) then (rb (f_X7_isSealed M3 a1 a3) (fun x6 M5 => (if x6 = 0 then (gI a1 160 (if a3 < (M5 56 a1.toNatClampNeg) then (rRet 0 M5) else (rRet 1 M5))) else (rb (f_X8_caseOfEntry M5 a1) (fun x8 M7 => (rb (f_X1_wasParty M7 x8 a2 a3) (fun x10 M9 => (gZ01 x10 (rRet x10 M9))))))))) else (rThr 1 M3)))))))
abbrev rm_X8_maySee : Room := { frames := 7, cells := 3, slots := 18, locals := 111 }
set_option maxRecDepth 20000 in
set_option maxHeartbeats 4000000 in
theorem c_X8_maySee {l : Launch} (hfl : l.stackTraces = false) (Z : gZ) (M : gM) (a1 : Int32) (a2 : Int32) (a3 : Int32) : gMet l yX8_maySee cX8_maySee 4 (some .boolean) rm_X8_maySee 1 3 Z M [.ref (zad Z 0), .int a1, .int a2, .int a3] (f_X8_maySee M a1 a2 a3) := by
  refine g_enter hfl (by decide) (Nat.le_of_ble_eq_true rfl) (fun p e s m args below meth c hC => ?_)
  refine g_eq (F := f_X8_maySee M a1 a2 a3) rfl ?_
  refine g_lv0 (lv1 := [(0, .ref (zad Z 0)), (1, .int a1), (2, .int a2), (3, .int a3)]) rfl ?_
  unfold f_X8_maySee
  refine g_aload_n hC 0 dX8_maySee_0 rfl rfl ?_
  refine g_iload_n hC 1 dX8_maySee_1 rfl rfl ?_
  refine g_callVv (n := 1) hC [.int a1] 0 8 (by decide) rfl rfl (fun hne => c_X8_checkEntry hC.2.2.2.2.2.2.2.1 Z M a1 hne) lk_X8_298 mw_X8_checkEntry.1 mw_X8_checkEntry.2.1 mw_X8_checkEntry.2.2.1 mw_X8_checkEntry.2.2.2 ⟨rfl, by decide, by decide, by decide +kernel⟩ rfl rfl ⟨by decide, by decide⟩ rfl rfl (Nat.le_of_ble_eq_true rfl) (by decide) (by decide) (by decide) dX8_maySee_2 (fun M1 => ?_)
  refine g_aload_n hC 0 dX8_maySee_5 rfl rfl ?_
  refine g_iload_n hC 2 dX8_maySee_6 rfl rfl ?_
  refine g_callVv (n := 1) hC [.int a2] 0 8 (by decide) rfl rfl (fun hne => c_X8_checkPerson hC.2.2.2.2.2.2.2.1 Z M1 a2 hne) lk_X8_127 mw_X8_checkPerson.1 mw_X8_checkPerson.2.1 mw_X8_checkPerson.2.2.1 mw_X8_checkPerson.2.2.2 ⟨rfl, by decide, by decide, by decide +kernel⟩ rfl rfl ⟨by decide, by decide⟩ rfl rfl (Nat.le_of_ble_eq_true rfl) (by decide) (by decide) (by decide) dX8_maySee_7 (fun M3 => ?_)
  refine g_iload_n hC 3 dX8_maySee_10 rfl rfl ?_
  refine g_if_lt (tgt := 25) hC dX8_maySee_11 (by decide) (fun _ => ?_) (fun _ => ?_)
  · exact g_throwS (text := "day out of range") hC 1 (by decide) thr_c1 thr_i1 (by decide) thr_a1 thr_n1 thr_g1 (by decide) (by decide) (Nat.le_of_ble_eq_true rfl) (by decide) (by decide) (by decide) dX8_maySee_25 dX8_maySee_28 dX8_maySee_29 dX8_maySee_31 dX8_maySee_34
  · refine g_iload_n hC 3 dX8_maySee_14 rfl rfl ?_
    refine g_aload_n hC 0 dX8_maySee_15 rfl rfl ?_
    refine gf_X8_12 hC dX8_maySee_16 ?_
    refine gf_X8_69 hC dX8_maySee_19 ?_
    refine g_icmp_le (tgt := 35) hC dX8_maySee_22 (by decide) (fun _ => ?_) (fun _ => ?_)
    · refine g_aload_n hC 0 dX8_maySee_35 rfl rfl ?_
      refine gf_X8_61 hC dX8_maySee_36 ?_
      refine g_iload_n hC 1 dX8_maySee_39 rfl rfl ?_
      refine g_iload_n hC 3 dX8_maySee_40 rfl rfl ?_
      refine g_callVi (n := 2) hC [.int a1, .int a3] 8 7 (by decide) rfl rfl (fun hne => c_X7_isSealed hC.2.2.2.2.2.2.2.1 Z M3 a1 a3 hne) lk_X8_428 mw_X7_isSealed.1 mw_X7_isSealed.2.1 mw_X7_isSealed.2.2.1 mw_X7_isSealed.2.2.2 ⟨rfl, by decide, by decide, by decide +kernel⟩ rfl rfl ⟨by decide, by decide⟩ rfl rfl (Nat.le_of_ble_eq_true rfl) (by decide) (by decide) (by decide) dX8_maySee_41 (fun x6 M5 => ?_)
      refine g_if_eq (tgt := 62) hC dX8_maySee_44 (by decide) (fun _ => ?_) (fun _ => ?_)
      · refine g_iload_n hC 3 dX8_maySee_62 rfl rfl ?_
        refine g_aload_n hC 0 dX8_maySee_63 rfl rfl ?_
        refine gf_X8_33 hC dX8_maySee_64 ?_
        refine gf_X8_440 hC dX8_maySee_67 ?_
        refine g_iload_n hC 1 dX8_maySee_70 rfl rfl ?_
        refine g_iald hC 56 (by decide) rfl dX8_maySee_71 ?_
        refine g_icmp_lt (tgt := 79) hC dX8_maySee_72 (by decide) (fun _ => ?_) (fun _ => ?_)
        · refine g_iconst hC (v := 0) dX8_maySee_79 (by decide) ?_
          exact g_zret0 hC rfl (by decide) dX8_maySee_80
        · refine g_iconst hC (v := 1) dX8_maySee_75 (by decide) ?_
          refine g_goto (tgt := 80) hC dX8_maySee_76 (by decide) ?_
          exact g_zret1 hC rfl (by decide) dX8_maySee_80
      · refine g_aload_n hC 0 dX8_maySee_47 rfl rfl ?_
        refine gf_X8_19 hC dX8_maySee_48 ?_
        refine g_aload_n hC 0 dX8_maySee_51 rfl rfl ?_
        refine g_iload_n hC 1 dX8_maySee_52 rfl rfl ?_
        refine g_callVi (n := 1) hC [.int a1] 0 8 (by decide) rfl rfl (fun hne => c_X8_caseOfEntry hC.2.2.2.2.2.2.2.1 Z M5 a1 hne) lk_X8_434 mw_X8_caseOfEntry.1 mw_X8_caseOfEntry.2.1 mw_X8_caseOfEntry.2.2.1 mw_X8_caseOfEntry.2.2.2 ⟨rfl, by decide, by decide, by decide +kernel⟩ rfl rfl ⟨by decide, by decide⟩ rfl rfl (Nat.le_of_ble_eq_true rfl) (by decide) (by decide) (by decide) dX8_maySee_53 (fun x8 M7 => ?_)
        refine g_iload_n hC 2 dX8_maySee_56 rfl rfl ?_
        refine g_iload_n hC 3 dX8_maySee_57 rfl rfl ?_
        refine g_callVi (n := 3) hC [.int x8, .int a2, .int a3] 2 1 (by decide) rfl rfl (fun hne => c_X1_wasParty hC.2.2.2.2.2.2.2.1 Z M7 x8 a2 a3 hne) lk_X8_437 mw_X1_wasParty.1 mw_X1_wasParty.2.1 mw_X1_wasParty.2.2.1 mw_X1_wasParty.2.2.2 ⟨rfl, by decide, by decide, by decide +kernel⟩ rfl rfl ⟨by decide, by decide⟩ rfl rfl (Nat.le_of_ble_eq_true rfl) (by decide) (by decide) (by decide) dX8_maySee_58 (fun x10 M9 => ?_)
        exact g_zret hC rfl (by decide) dX8_maySee_61
    · exact g_throwS (text := "day out of range") hC 1 (by decide) thr_c1 thr_i1 (by decide) thr_a1 thr_n1 thr_g1 (by decide) (by decide) (Nat.le_of_ble_eq_true rfl) (by decide) (by decide) (by decide) dX8_maySee_25 dX8_maySee_28 dX8_maySee_29 dX8_maySee_31 dX8_maySee_34

-- ===== X8_certify =====
def f_X8_certify (M : gM) (a1 : Int32) : gR := (rb (f_X8_checkClaim M a1) (fun _ M1 => (gI a1 24 (if (M1 54 a1.toNatClampNeg) = 0 then (gI a1 24 (if (M1 51 a1.toNatClampNeg) = 0 then (gI a1 24 (gI a1 24 (bM (gset M1 54 a1.toNatClampNeg (1 <<< ((M1 48 a1.toNatClampNeg) &&& 31))) (fun M3 => (rRet 0 M3))))) else (rThr 2 M1))) else (rThr 2 M1)))))
abbrev rm_X8_certify : Room := { frames := 7, cells := 2, slots := 12, locals := 111 }
set_option maxRecDepth 20000 in
set_option maxHeartbeats 4000000 in
theorem c_X8_certify {l : Launch} (hfl : l.stackTraces = false) (Z : gZ) (M : gM) (a1 : Int32) : gMet l yX8_certify cX8_certify 2 none rm_X8_certify 0 2 Z M [.ref (zad Z 0), .int a1] (f_X8_certify M a1) := by
  refine g_enter hfl (by decide) (Nat.le_of_ble_eq_true rfl) (fun p e s m args below meth c hC => ?_)
  refine g_eq (F := f_X8_certify M a1) rfl ?_
  refine g_lv0 (lv1 := [(0, .ref (zad Z 0)), (1, .int a1)]) rfl ?_
  unfold f_X8_certify
  refine g_aload_n hC 0 dX8_certify_0 rfl rfl ?_
  refine g_iload_n hC 1 dX8_certify_1 rfl rfl ?_
  refine g_callVv (n := 1) hC [.int a1] 0 8 (by decide) rfl rfl (fun hne => c_X8_checkClaim hC.2.2.2.2.2.2.2.1 Z M a1 hne) lk_X8_169 mw_X8_checkClaim.1 mw_X8_checkClaim.2.1 mw_X8_checkClaim.2.2.1 mw_X8_checkClaim.2.2.2 ⟨rfl, by decide, by decide, by decide +kernel⟩ rfl rfl ⟨by decide, by decide⟩ rfl rfl (Nat.le_of_ble_eq_true rfl) (by decide) (by decide) (by decide) dX8_certify_2 (fun M1 => ?_)
  refine g_aload_n hC 0 dX8_certify_5 rfl rfl ?_
  refine gf_X8_26 hC dX8_certify_6 ?_
  refine gf_X8_441 hC dX8_certify_9 ?_
  refine g_iload_n hC 1 dX8_certify_12 rfl rfl ?_
  refine g_iald hC 54 (by decide) rfl dX8_certify_13 ?_
  refine g_if_ne (tgt := 29) hC dX8_certify_14 (by decide) (fun _ => ?_) (fun _ => ?_)
  · refine g_aload_n hC 0 dX8_certify_17 rfl rfl ?_
    refine gf_X8_26 hC dX8_certify_18 ?_
    refine gf_X8_195 hC dX8_certify_21 ?_
    refine g_iload_n hC 1 dX8_certify_24 rfl rfl ?_
    refine g_iald hC 51 (by decide) rfl dX8_certify_25 ?_
    refine g_if_eq (tgt := 40) hC dX8_certify_26 (by decide) (fun _ => ?_) (fun _ => ?_)
    · refine g_aload_n hC 0 dX8_certify_40 rfl rfl ?_
      refine gf_X8_26 hC dX8_certify_41 ?_
      refine gf_X8_441 hC dX8_certify_44 ?_
      refine g_iload_n hC 1 dX8_certify_47 rfl rfl ?_
      refine g_iconst hC (v := 1) dX8_certify_48 (by decide) ?_
      refine g_aload_n hC 0 dX8_certify_49 rfl rfl ?_
      refine gf_X8_26 hC dX8_certify_50 ?_
      refine gf_X8_180 hC dX8_certify_53 ?_
      refine g_iload_n hC 1 dX8_certify_56 rfl rfl ?_
      refine g_iald hC 48 (by decide) rfl dX8_certify_57 ?_
      refine g_ishl hC dX8_certify_58 ?_
      refine g_iast hC 54 (by decide) rfl dX8_certify_59 (fun M3 => ?_)
      exact g_vret hC rfl (by decide) dX8_certify_60
    · exact g_throwSW (text := "it cannot be made a class") hC 2 (by decide) thr_c2 thr_i2 (by decide) thr_a2 thr_n2 thr_g2 (by decide) (by decide) (Nat.le_of_ble_eq_true rfl) (by decide) (by decide) (by decide) dX8_certify_29 dX8_certify_32 dX8_certify_33 dX8_certify_36 dX8_certify_39
  · exact g_throwSW (text := "it cannot be made a class") hC 2 (by decide) thr_c2 thr_i2 (by decide) thr_a2 thr_n2 thr_g2 (by decide) (by decide) (Nat.le_of_ble_eq_true rfl) (by decide) (by decide) (by decide) dX8_certify_29 dX8_certify_32 dX8_certify_33 dX8_certify_36 dX8_certify_39

-- ===== X8_member =====
def f_X8_member_b32  (M : gM) (a1 : Int32) (a2 : Int32) (a3 : Int32) (t0 : Int32) : gR := (gI a1 24 (if (M 54 a1.toNatClampNeg) = 0 then (rThr 2 M) else (gI a1 24 (if (M 51 a1.toNatClampNeg) = 0 then (if t0 = 0 then (rb (f_X2_setMember M a1 a2 a3) (fun _ M1 => (rb (f_X2_memberCount M1 a1) (fun x4 M3 => (rRet x4 M3))))) else (rThr 2 M)) else (rThr 2 M)))))
def f_X8_member_b31  (M : gM) (a1 : Int32) (a2 : Int32) (a3 : Int32)  : gR := (f_X8_member_b32  M a1 a2 a3 0)
def f_X8_member (M : gM) (a1 : Int32) (a2 : Int32) (a3 : Int32) : gR := (rb (f_X8_checkClaim M a1) (fun _ M5 => (rb (f_X8_checkPerson M5 a2) (fun _ M7 => (if a3 = 0 then (gI a1 24 (if a2 = (M7 48 a1.toNatClampNeg) then (f_X8_member_b32  M7 a1 a2 a3 1) else (f_X8_member_b31  M7 a1 a2 a3 ))) else (f_X8_member_b31  M7 a1 a2 a3 ))))))
abbrev rm_X8_member : Room := { frames := 7, cells := 3, slots := 18, locals := 111 }
set_option maxRecDepth 20000 in
set_option maxHeartbeats 4000000 in
theorem g_X8_member_b32 {p : Program} {l : Launch} {e : Env} {s : State} {m : MethodId} {args : Array Value} {below : List Frame} {meth : Method} {c : Code} {Z : gZ} (hC : gC p l s m args meth c cX8_member 5 RX8 (some .int) Z)   (M : gM) (a1 : Int32) (a2 : Int32) (a3 : Int32) (t0 : Int32) : gW p l e rm_X8_member s m args below meth c 5 Z 1 3 2 M 32 [(0, .ref (zad Z 0)), (1, .int a1), (2, .int a2), (3, .int a3)] [.int t0] (f_X8_member_b32  M a1 a2 a3 t0) := by
  unfold f_X8_member_b32
  refine g_istore hC (lv1 := [(4, .int t0), (0, .ref (zad Z 0)), (1, .int a1), (2, .int a2), (3, .int a3)]) dX8_member_32 (by decide) rfl ?_
  refine g_aload_n hC 1 dX8_member_34 rfl rfl ?_
  refine gf_X8_26 hC dX8_member_35 ?_
  refine gf_X8_441 hC dX8_member_38 ?_
  refine g_iload_n hC 2 dX8_member_41 rfl rfl ?_
  refine g_iald hC 54 (by decide) rfl dX8_member_42 ?_
  refine g_if_eq (tgt := 63) hC dX8_member_43 (by decide) (fun _ => ?_) (fun _ => ?_)
  · exact g_throwSW (text := "membership cannot change") hC 2 (by decide) thr_c2 thr_i2 (by decide) thr_a2 thr_n2 thr_g2 (by decide) (by decide) (Nat.le_of_ble_eq_true rfl) (by decide) (by decide) (by decide) dX8_member_63 dX8_member_66 dX8_member_67 dX8_member_70 dX8_member_73
  · refine g_aload_n hC 1 dX8_member_46 rfl rfl ?_
    refine gf_X8_26 hC dX8_member_47 ?_
    refine gf_X8_195 hC dX8_member_50 ?_
    refine g_iload_n hC 2 dX8_member_53 rfl rfl ?_
    refine g_iald hC 51 (by decide) rfl dX8_member_54 ?_
    refine g_if_ne (tgt := 63) hC dX8_member_55 (by decide) (fun _ => ?_) (fun _ => ?_)
    · refine g_iload hC 0 dX8_member_58 rfl ?_
      refine g_if_eq (tgt := 74) hC dX8_member_60 (by decide) (fun _ => ?_) (fun _ => ?_)
      · refine g_aload_n hC 1 dX8_member_74 rfl rfl ?_
        refine gf_X8_26 hC dX8_member_75 ?_
        refine g_iload_n hC 2 dX8_member_78 rfl rfl ?_
        refine g_iload_n hC 3 dX8_member_79 rfl rfl ?_
        refine g_iload_n hC 4 dX8_member_80 rfl rfl ?_
        refine g_callVv (n := 3) hC [.int a1, .int a2, .int a3] 3 2 (by decide) rfl rfl (fun hne => c_X2_setMember hC.2.2.2.2.2.2.2.1 Z M a1 a2 a3 hne) lk_X8_448 mw_X2_setMember.1 mw_X2_setMember.2.1 mw_X2_setMember.2.2.1 mw_X2_setMember.2.2.2 ⟨rfl, by decide, by decide, by decide +kernel⟩ rfl rfl ⟨by decide, by decide⟩ rfl rfl (Nat.le_of_ble_eq_true rfl) (by decide) (by decide) (by decide) dX8_member_81 (fun M1 => ?_)
        refine g_aload_n hC 1 dX8_member_84 rfl rfl ?_
        refine gf_X8_26 hC dX8_member_85 ?_
        refine g_iload_n hC 2 dX8_member_88 rfl rfl ?_
        refine g_callVi (n := 1) hC [.int a1] 3 2 (by decide) rfl rfl (fun hne => c_X2_memberCount hC.2.2.2.2.2.2.2.1 Z M1 a1 hne) lk_X8_451 mw_X2_memberCount.1 mw_X2_memberCount.2.1 mw_X2_memberCount.2.2.1 mw_X2_memberCount.2.2.2 ⟨rfl, by decide, by decide, by decide +kernel⟩ rfl rfl ⟨by decide, by decide⟩ rfl rfl (Nat.le_of_ble_eq_true rfl) (by decide) (by decide) (by decide) dX8_member_89 (fun x4 M3 => ?_)
        exact g_iret hC rfl (by decide) dX8_member_92
      · exact g_throwSW (text := "membership cannot change") hC 2 (by decide) thr_c2 thr_i2 (by decide) thr_a2 thr_n2 thr_g2 (by decide) (by decide) (Nat.le_of_ble_eq_true rfl) (by decide) (by decide) (by decide) dX8_member_63 dX8_member_66 dX8_member_67 dX8_member_70 dX8_member_73
    · exact g_throwSW (text := "membership cannot change") hC 2 (by decide) thr_c2 thr_i2 (by decide) thr_a2 thr_n2 thr_g2 (by decide) (by decide) (Nat.le_of_ble_eq_true rfl) (by decide) (by decide) (by decide) dX8_member_63 dX8_member_66 dX8_member_67 dX8_member_70 dX8_member_73
set_option maxRecDepth 20000 in
set_option maxHeartbeats 4000000 in
theorem g_X8_member_b31 {p : Program} {l : Launch} {e : Env} {s : State} {m : MethodId} {args : Array Value} {below : List Frame} {meth : Method} {c : Code} {Z : gZ} (hC : gC p l s m args meth c cX8_member 5 RX8 (some .int) Z)   (M : gM) (a1 : Int32) (a2 : Int32) (a3 : Int32)  : gW p l e rm_X8_member s m args below meth c 5 Z 1 3 2 M 31 [(0, .ref (zad Z 0)), (1, .int a1), (2, .int a2), (3, .int a3)] [] (f_X8_member_b31  M a1 a2 a3 ) := by
  unfold f_X8_member_b31
  refine g_iconst hC (v := 0) dX8_member_31 (by decide) ?_
  exact g_X8_member_b32 hC  M a1 a2 a3 0
set_option maxRecDepth 20000 in
set_option maxHeartbeats 4000000 in
theorem c_X8_member {l : Launch} (hfl : l.stackTraces = false) (Z : gZ) (M : gM) (a1 : Int32) (a2 : Int32) (a3 : Int32) : gMet l yX8_member cX8_member 5 (some .int) rm_X8_member 1 3 Z M [.ref (zad Z 0), .int a1, .int a2, .int a3] (f_X8_member M a1 a2 a3) := by
  refine g_enter hfl (by decide) (Nat.le_of_ble_eq_true rfl) (fun p e s m args below meth c hC => ?_)
  refine g_eq (F := f_X8_member M a1 a2 a3) rfl ?_
  refine g_lv0 (lv1 := [(0, .ref (zad Z 0)), (1, .int a1), (2, .int a2), (3, .int a3)]) rfl ?_
  unfold f_X8_member
  refine g_aload_n hC 0 dX8_member_0 rfl rfl ?_
  refine g_iload_n hC 1 dX8_member_1 rfl rfl ?_
  refine g_callVv (n := 1) hC [.int a1] 0 8 (by decide) rfl rfl (fun hne => c_X8_checkClaim hC.2.2.2.2.2.2.2.1 Z M a1 hne) lk_X8_169 mw_X8_checkClaim.1 mw_X8_checkClaim.2.1 mw_X8_checkClaim.2.2.1 mw_X8_checkClaim.2.2.2 ⟨rfl, by decide, by decide, by decide +kernel⟩ rfl rfl ⟨by decide, by decide⟩ rfl rfl (Nat.le_of_ble_eq_true rfl) (by decide) (by decide) (by decide) dX8_member_2 (fun M5 => ?_)
  refine g_aload_n hC 0 dX8_member_5 rfl rfl ?_
  refine g_iload_n hC 2 dX8_member_6 rfl rfl ?_
  refine g_callVv (n := 1) hC [.int a2] 0 8 (by decide) rfl rfl (fun hne => c_X8_checkPerson hC.2.2.2.2.2.2.2.1 Z M5 a2 hne) lk_X8_127 mw_X8_checkPerson.1 mw_X8_checkPerson.2.1 mw_X8_checkPerson.2.2.1 mw_X8_checkPerson.2.2.2 ⟨rfl, by decide, by decide, by decide +kernel⟩ rfl rfl ⟨by decide, by decide⟩ rfl rfl (Nat.le_of_ble_eq_true rfl) (by decide) (by decide) (by decide) dX8_member_7 (fun M7 => ?_)
  refine g_iload_n hC 3 dX8_member_10 rfl rfl ?_
  refine g_if_ne (tgt := 31) hC dX8_member_11 (by decide) (fun _ => ?_) (fun _ => ?_)
  · refine g_iload_n hC 2 dX8_member_14 rfl rfl ?_
    refine g_aload_n hC 0 dX8_member_15 rfl rfl ?_
    refine gf_X8_26 hC dX8_member_16 ?_
    refine gf_X8_180 hC dX8_member_19 ?_
    refine g_iload_n hC 1 dX8_member_22 rfl rfl ?_
    refine g_iald hC 48 (by decide) rfl dX8_member_23 ?_
    refine g_icmp_ne (tgt := 31) hC dX8_member_24 (by decide) (fun _ => ?_) (fun _ => ?_)
    · refine g_iconst hC (v := 1) dX8_member_27 (by decide) ?_
      refine g_goto (tgt := 32) hC dX8_member_28 (by decide) ?_
      exact g_X8_member_b32 hC  M7 a1 a2 a3 1
    · exact g_X8_member_b31 hC  M7 a1 a2 a3
  · exact g_X8_member_b31 hC  M7 a1 a2 a3

-- ===== X8_share =====
def f_X8_share (M : gM) (a1 : Int32) (a2 : Int32) : gR := (rb (f_X8_checkClaim M a1) (fun _ M1 => (rb (f_X8_checkPerson M1 a2) (fun _ M3 => (rb (f_X2_memberCount M3 a1) (fun x6 M5 => (if x6 = 0 then (rRet 0 M5) else (rb (f_X2_isMember M5 a1 a2) (fun x8 M7 => (if x8 = 0 then (rRet 0 M7) else (gI a1 24 (gNz x6 (rRet ((M7 53 a1.toNatClampNeg) / x6) M7)))))))))))))
abbrev rm_X8_share : Room := { frames := 7, cells := 2, slots := 12, locals := 111 }
set_option maxRecDepth 20000 in
set_option maxHeartbeats 4000000 in
theorem c_X8_share {l : Launch} (hfl : l.stackTraces = false) (Z : gZ) (M : gM) (a1 : Int32) (a2 : Int32) : gMet l yX8_share cX8_share 4 (some .int) rm_X8_share 1 2 Z M [.ref (zad Z 0), .int a1, .int a2] (f_X8_share M a1 a2) := by
  refine g_enter hfl (by decide) (Nat.le_of_ble_eq_true rfl) (fun p e s m args below meth c hC => ?_)
  refine g_eq (F := f_X8_share M a1 a2) rfl ?_
  refine g_lv0 (lv1 := [(0, .ref (zad Z 0)), (1, .int a1), (2, .int a2)]) rfl ?_
  unfold f_X8_share
  refine g_aload_n hC 0 dX8_share_0 rfl rfl ?_
  refine g_iload_n hC 1 dX8_share_1 rfl rfl ?_
  refine g_callVv (n := 1) hC [.int a1] 0 8 (by decide) rfl rfl (fun hne => c_X8_checkClaim hC.2.2.2.2.2.2.2.1 Z M a1 hne) lk_X8_169 mw_X8_checkClaim.1 mw_X8_checkClaim.2.1 mw_X8_checkClaim.2.2.1 mw_X8_checkClaim.2.2.2 ⟨rfl, by decide, by decide, by decide +kernel⟩ rfl rfl ⟨by decide, by decide⟩ rfl rfl (Nat.le_of_ble_eq_true rfl) (by decide) (by decide) (by decide) dX8_share_2 (fun M1 => ?_)
  refine g_aload_n hC 0 dX8_share_5 rfl rfl ?_
  refine g_iload_n hC 2 dX8_share_6 rfl rfl ?_
  refine g_callVv (n := 1) hC [.int a2] 0 8 (by decide) rfl rfl (fun hne => c_X8_checkPerson hC.2.2.2.2.2.2.2.1 Z M1 a2 hne) lk_X8_127 mw_X8_checkPerson.1 mw_X8_checkPerson.2.1 mw_X8_checkPerson.2.2.1 mw_X8_checkPerson.2.2.2 ⟨rfl, by decide, by decide, by decide +kernel⟩ rfl rfl ⟨by decide, by decide⟩ rfl rfl (Nat.le_of_ble_eq_true rfl) (by decide) (by decide) (by decide) dX8_share_7 (fun M3 => ?_)
  refine g_aload_n hC 0 dX8_share_10 rfl rfl ?_
  refine gf_X8_26 hC dX8_share_11 ?_
  refine g_iload_n hC 1 dX8_share_14 rfl rfl ?_
  refine g_callVi (n := 1) hC [.int a1] 3 2 (by decide) rfl rfl (fun hne => c_X2_memberCount hC.2.2.2.2.2.2.2.1 Z M3 a1 hne) lk_X8_451 mw_X2_memberCount.1 mw_X2_memberCount.2.1 mw_X2_memberCount.2.2.1 mw_X2_memberCount.2.2.2 ⟨rfl, by decide, by decide, by decide +kernel⟩ rfl rfl ⟨by decide, by decide⟩ rfl rfl (Nat.le_of_ble_eq_true rfl) (by decide) (by decide) (by decide) dX8_share_15 (fun x6 M5 => ?_)
  refine g_istore_n hC (lv1 := [(3, .int x6), (0, .ref (zad Z 0)), (1, .int a1), (2, .int a2)]) dX8_share_18 rfl (by decide) rfl ?_
  refine g_iload_n hC 0 dX8_share_19 rfl rfl ?_
  refine g_if_eq (tgt := 35) hC dX8_share_20 (by decide) (fun _ => ?_) (fun _ => ?_)
  · refine g_iconst hC (v := 0) dX8_share_35 (by decide) ?_
    exact g_iret hC rfl (by decide) dX8_share_36
  · refine g_aload_n hC 1 dX8_share_23 rfl rfl ?_
    refine gf_X8_26 hC dX8_share_24 ?_
    refine g_iload_n hC 2 dX8_share_27 rfl rfl ?_
    refine g_iload_n hC 3 dX8_share_28 rfl rfl ?_
    refine g_callVi (n := 2) hC [.int a1, .int a2] 3 2 (by decide) rfl rfl (fun hne => c_X2_isMember hC.2.2.2.2.2.2.2.1 Z M5 a1 a2 hne) lk_X8_454 mw_X2_isMember.1 mw_X2_isMember.2.1 mw_X2_isMember.2.2.1 mw_X2_isMember.2.2.2 ⟨rfl, by decide, by decide, by decide +kernel⟩ rfl rfl ⟨by decide, by decide⟩ rfl rfl (Nat.le_of_ble_eq_true rfl) (by decide) (by decide) (by decide) dX8_share_29 (fun x8 M7 => ?_)
    refine g_if_ne (tgt := 37) hC dX8_share_32 (by decide) (fun _ => ?_) (fun _ => ?_)
    · refine g_iconst hC (v := 0) dX8_share_35 (by decide) ?_
      exact g_iret hC rfl (by decide) dX8_share_36
    · refine g_aload_n hC 1 dX8_share_37 rfl rfl ?_
      refine gf_X8_26 hC dX8_share_38 ?_
      refine gf_X8_267 hC dX8_share_41 ?_
      refine g_iload_n hC 2 dX8_share_44 rfl rfl ?_
      refine g_iald hC 53 (by decide) rfl dX8_share_45 ?_
      refine g_iload_n hC 0 dX8_share_46 rfl rfl ?_
      refine g_idiv hC dX8_share_47 ?_
      exact g_iret hC rfl (by decide) dX8_share_48

-- ===== X8_today =====
def f_X8_today (M : gM)  : gR := (rRet (M 1 0) M)
abbrev rm_X8_today : Room := { frames := 0, cells := 0, slots := 0, locals := 0 }
set_option maxRecDepth 20000 in
set_option maxHeartbeats 4000000 in
theorem c_X8_today {l : Launch} (hfl : l.stackTraces = false) (Z : gZ) (M : gM)  : gMet l yX8_today cX8_today 1 (some .int) rm_X8_today 1 0 Z M [.ref (zad Z 0)] (f_X8_today M ) := by
  refine g_enter hfl (by decide) (Nat.le_of_ble_eq_true rfl) (fun p e s m args below meth c hC => ?_)
  refine g_eq (F := f_X8_today M ) rfl ?_
  refine g_lv0 (lv1 := [(0, .ref (zad Z 0))]) rfl ?_
  unfold f_X8_today
  refine g_aload_n hC 0 dX8_today_0 rfl rfl ?_
  refine gf_X8_12 hC dX8_today_1 ?_
  refine gf_X8_69 hC dX8_today_4 ?_
  exact g_iret hC rfl (by decide) dX8_today_7

-- ===== X8_entries =====
def f_X8_entries (M : gM)  : gR := (rRet (M 4 0) M)
abbrev rm_X8_entries : Room := { frames := 0, cells := 0, slots := 0, locals := 0 }
set_option maxRecDepth 20000 in
set_option maxHeartbeats 4000000 in
theorem c_X8_entries {l : Launch} (hfl : l.stackTraces = false) (Z : gZ) (M : gM)  : gMet l yX8_entries cX8_entries 1 (some .int) rm_X8_entries 1 0 Z M [.ref (zad Z 0)] (f_X8_entries M ) := by
  refine g_enter hfl (by decide) (Nat.le_of_ble_eq_true rfl) (fun p e s m args below meth c hC => ?_)
  refine g_eq (F := f_X8_entries M ) rfl ?_
  refine g_lv0 (lv1 := [(0, .ref (zad Z 0))]) rfl ?_
  unfold f_X8_entries
  refine g_aload_n hC 0 dX8_entries_0 rfl rfl ?_
  refine gf_X8_33 hC dX8_entries_1 ?_
  refine gf_X8_457 hC dX8_entries_4 ?_
  exact g_iret hC rfl (by decide) dX8_entries_7

-- ===== X8_entryAt =====
def f_X8_entryAt (M : gM) (a1 : Int32) (a2 : Int32) : gR := (rb (f_X8_checkEntry M a1) (fun _ M1 => (if a2 = 0 then (gI a1 160 (rRet (M1 55 a1.toNatClampNeg) M1)) else (if a2 = 1 then (gI a1 160 (rRet (M1 56 a1.toNatClampNeg) M1)) else (if a2 = 2 then (gI a1 160 (rRet (M1 57 a1.toNatClampNeg) M1)) else (if a2 = 3 then (gI a1 160 (rRet (M1 58 a1.toNatClampNeg) M1)) else (if a2 = 4 then (gI a1 160 (rRet (M1 59 a1.toNatClampNeg) M1)) else (rThr 0 M1))))))))
abbrev rm_X8_entryAt : Room := { frames := 7, cells := 2, slots := 12, locals := 111 }
set_option maxRecDepth 20000 in
set_option maxHeartbeats 4000000 in
theorem c_X8_entryAt {l : Launch} (hfl : l.stackTraces = false) (Z : gZ) (M : gM) (a1 : Int32) (a2 : Int32) : gMet l yX8_entryAt cX8_entryAt 3 (some .int) rm_X8_entryAt 1 2 Z M [.ref (zad Z 0), .int a1, .int a2] (f_X8_entryAt M a1 a2) := by
  refine g_enter hfl (by decide) (Nat.le_of_ble_eq_true rfl) (fun p e s m args below meth c hC => ?_)
  refine g_eq (F := f_X8_entryAt M a1 a2) rfl ?_
  refine g_lv0 (lv1 := [(0, .ref (zad Z 0)), (1, .int a1), (2, .int a2)]) rfl ?_
  unfold f_X8_entryAt
  refine g_aload_n hC 0 dX8_entryAt_0 rfl rfl ?_
  refine g_iload_n hC 1 dX8_entryAt_1 rfl rfl ?_
  refine g_callVv (n := 1) hC [.int a1] 0 8 (by decide) rfl rfl (fun hne => c_X8_checkEntry hC.2.2.2.2.2.2.2.1 Z M a1 hne) lk_X8_298 mw_X8_checkEntry.1 mw_X8_checkEntry.2.1 mw_X8_checkEntry.2.2.1 mw_X8_checkEntry.2.2.2 ⟨rfl, by decide, by decide, by decide +kernel⟩ rfl rfl ⟨by decide, by decide⟩ rfl rfl (Nat.le_of_ble_eq_true rfl) (by decide) (by decide) (by decide) dX8_entryAt_2 (fun M1 => ?_)
  refine g_iload_n hC 2 dX8_entryAt_5 rfl rfl ?_
  refine g_if (fun hx0 => ?_) (fun hx0 => ?_)
  · refine g_swIn (tgt := 40) hC 0 hx0 dX8_entryAt_6 (by decide) (by decide) rfl (by decide) ?_
    refine g_aload_n hC 0 dX8_entryAt_40 rfl rfl ?_
    refine gf_X8_33 hC dX8_entryAt_41 ?_
    refine gf_X8_301 hC dX8_entryAt_44 ?_
    refine g_iload_n hC 1 dX8_entryAt_47 rfl rfl ?_
    refine g_iald hC 55 (by decide) rfl dX8_entryAt_48 ?_
    exact g_iret hC rfl (by decide) dX8_entryAt_49
  · skip
    refine g_if (fun hx1 => ?_) (fun hx1 => ?_)
    · refine g_swIn (tgt := 50) hC 1 hx1 dX8_entryAt_6 (by decide) (by decide) rfl (by decide) ?_
      refine g_aload_n hC 0 dX8_entryAt_50 rfl rfl ?_
      refine gf_X8_33 hC dX8_entryAt_51 ?_
      refine gf_X8_440 hC dX8_entryAt_54 ?_
      refine g_iload_n hC 1 dX8_entryAt_57 rfl rfl ?_
      refine g_iald hC 56 (by decide) rfl dX8_entryAt_58 ?_
      exact g_iret hC rfl (by decide) dX8_entryAt_59
    · skip
      refine g_if (fun hx2 => ?_) (fun hx2 => ?_)
      · refine g_swIn (tgt := 60) hC 2 hx2 dX8_entryAt_6 (by decide) (by decide) rfl (by decide) ?_
        refine g_aload_n hC 0 dX8_entryAt_60 rfl rfl ?_
        refine gf_X8_33 hC dX8_entryAt_61 ?_
        refine gf_X8_232 hC dX8_entryAt_64 ?_
        refine g_iload_n hC 1 dX8_entryAt_67 rfl rfl ?_
        refine g_iald hC 57 (by decide) rfl dX8_entryAt_68 ?_
        exact g_iret hC rfl (by decide) dX8_entryAt_69
      · skip
        refine g_if (fun hx3 => ?_) (fun hx3 => ?_)
        · refine g_swIn (tgt := 70) hC 3 hx3 dX8_entryAt_6 (by decide) (by decide) rfl (by decide) ?_
          refine g_aload_n hC 0 dX8_entryAt_70 rfl rfl ?_
          refine gf_X8_33 hC dX8_entryAt_71 ?_
          refine gf_X8_458 hC dX8_entryAt_74 ?_
          refine g_iload_n hC 1 dX8_entryAt_77 rfl rfl ?_
          refine g_iald hC 58 (by decide) rfl dX8_entryAt_78 ?_
          exact g_iret hC rfl (by decide) dX8_entryAt_79
        · skip
          refine g_if (fun hx4 => ?_) (fun hx4 => ?_)
          · refine g_swIn (tgt := 80) hC 4 hx4 dX8_entryAt_6 (by decide) (by decide) rfl (by decide) ?_
            refine g_aload_n hC 0 dX8_entryAt_80 rfl rfl ?_
            refine gf_X8_33 hC dX8_entryAt_81 ?_
            refine gf_X8_461 hC dX8_entryAt_84 ?_
            refine g_iload_n hC 1 dX8_entryAt_87 rfl rfl ?_
            refine g_iald hC 59 (by decide) rfl dX8_entryAt_88 ?_
            exact g_iret hC rfl (by decide) dX8_entryAt_89
          · skip
            refine g_swOut (tgt := 90) hC (gSwOut a2 0 5 (by decide) (by decide) (fun j hj => by
              match j, hj with
              | 0, _ => exact hx0
              | 1, _ => exact hx1
              | 2, _ => exact hx2
              | 3, _ => exact hx3
              | 4, _ => exact hx4
              | n + 5, h => exact absurd h (by omega))) dX8_entryAt_6 (by decide) ?_
            exact g_throwSW (text := "no such part") hC 0 (by decide) thr_c0 thr_i0 (by decide) thr_a0 thr_n0 thr_g0 (by decide) (by decide) (Nat.le_of_ble_eq_true rfl) (by decide) (by decide) (by decide) dX8_entryAt_90 dX8_entryAt_93 dX8_entryAt_94 dX8_entryAt_97 dX8_entryAt_100

-- ===== X8_counts =====
def f_X8_counts (M : gM) (a1 : Int32) : gR := (rb (f_X8_checkEntry M a1) (fun _ M1 => (rb (f_X8_isCounting M1 a1) (fun x4 M3 => (gZ01 x4 (rRet x4 M3))))))
abbrev rm_X8_counts : Room := { frames := 7, cells := 1, slots := 6, locals := 111 }
set_option maxRecDepth 20000 in
set_option maxHeartbeats 4000000 in
theorem c_X8_counts {l : Launch} (hfl : l.stackTraces = false) (Z : gZ) (M : gM) (a1 : Int32) : gMet l yX8_counts cX8_counts 2 (some .boolean) rm_X8_counts 1 1 Z M [.ref (zad Z 0), .int a1] (f_X8_counts M a1) := by
  refine g_enter hfl (by decide) (Nat.le_of_ble_eq_true rfl) (fun p e s m args below meth c hC => ?_)
  refine g_eq (F := f_X8_counts M a1) rfl ?_
  refine g_lv0 (lv1 := [(0, .ref (zad Z 0)), (1, .int a1)]) rfl ?_
  unfold f_X8_counts
  refine g_aload_n hC 0 dX8_counts_0 rfl rfl ?_
  refine g_iload_n hC 1 dX8_counts_1 rfl rfl ?_
  refine g_callVv (n := 1) hC [.int a1] 0 8 (by decide) rfl rfl (fun hne => c_X8_checkEntry hC.2.2.2.2.2.2.2.1 Z M a1 hne) lk_X8_298 mw_X8_checkEntry.1 mw_X8_checkEntry.2.1 mw_X8_checkEntry.2.2.1 mw_X8_checkEntry.2.2.2 ⟨rfl, by decide, by decide, by decide +kernel⟩ rfl rfl ⟨by decide, by decide⟩ rfl rfl (Nat.le_of_ble_eq_true rfl) (by decide) (by decide) (by decide) dX8_counts_2 (fun M1 => ?_)
  refine g_aload_n hC 0 dX8_counts_5 rfl rfl ?_
  refine g_iload_n hC 1 dX8_counts_6 rfl rfl ?_
  refine g_callVi (n := 1) hC [.int a1] 0 8 (by decide) rfl rfl (fun hne => c_X8_isCounting hC.2.2.2.2.2.2.2.1 Z M1 a1 hne) lk_X8_466 mw_X8_isCounting.1 mw_X8_isCounting.2.1 mw_X8_isCounting.2.2.1 mw_X8_isCounting.2.2.2 ⟨rfl, by decide, by decide, by decide +kernel⟩ rfl rfl ⟨by decide, by decide⟩ rfl rfl (Nat.le_of_ble_eq_true rfl) (by decide) (by decide) (by decide) dX8_counts_7 (fun x4 M3 => ?_)
  exact g_zret hC rfl (by decide) dX8_counts_10

-- ===== X8_stateOf =====
def f_X8_stateOf (M : gM) (a1 : Int32) : gR := (rb (f_X8_checkClaim M a1) (fun _ M1 => (gI a1 24 (rRet (M1 51 a1.toNatClampNeg) M1))))
abbrev rm_X8_stateOf : Room := { frames := 7, cells := 1, slots := 6, locals := 111 }
set_option maxRecDepth 20000 in
set_option maxHeartbeats 4000000 in
theorem c_X8_stateOf {l : Launch} (hfl : l.stackTraces = false) (Z : gZ) (M : gM) (a1 : Int32) : gMet l yX8_stateOf cX8_stateOf 2 (some .int) rm_X8_stateOf 1 1 Z M [.ref (zad Z 0), .int a1] (f_X8_stateOf M a1) := by
  refine g_enter hfl (by decide) (Nat.le_of_ble_eq_true rfl) (fun p e s m args below meth c hC => ?_)
  refine g_eq (F := f_X8_stateOf M a1) rfl ?_
  refine g_lv0 (lv1 := [(0, .ref (zad Z 0)), (1, .int a1)]) rfl ?_
  unfold f_X8_stateOf
  refine g_aload_n hC 0 dX8_stateOf_0 rfl rfl ?_
  refine g_iload_n hC 1 dX8_stateOf_1 rfl rfl ?_
  refine g_callVv (n := 1) hC [.int a1] 0 8 (by decide) rfl rfl (fun hne => c_X8_checkClaim hC.2.2.2.2.2.2.2.1 Z M a1 hne) lk_X8_169 mw_X8_checkClaim.1 mw_X8_checkClaim.2.1 mw_X8_checkClaim.2.2.1 mw_X8_checkClaim.2.2.2 ⟨rfl, by decide, by decide, by decide +kernel⟩ rfl rfl ⟨by decide, by decide⟩ rfl rfl (Nat.le_of_ble_eq_true rfl) (by decide) (by decide) (by decide) dX8_stateOf_2 (fun M1 => ?_)
  refine g_aload_n hC 0 dX8_stateOf_5 rfl rfl ?_
  refine gf_X8_26 hC dX8_stateOf_6 ?_
  refine gf_X8_195 hC dX8_stateOf_9 ?_
  refine g_iload_n hC 1 dX8_stateOf_12 rfl rfl ?_
  refine g_iald hC 51 (by decide) rfl dX8_stateOf_13 ?_
  exact g_iret hC rfl (by decide) dX8_stateOf_14

-- ===== X8_stateByDocket =====
def f_X8_stateByDocket_b136 (self18 : gM → Int32 → Int32 → Int32 → Int32 → Int32 → Int32 → gR) (M : gM) (a1 : Int32) (a5 : Int32) (a6 : Int32) (a7 : Int32) (t0 : Int32) : gR := (gI a6 160 (bV (M 56 a6.toNatClampNeg) (fun x1 => (bV (a6 + 1) (fun x2 => (self18 M a1 t0 a7 x1 a5 x2))))))
def f_X8_stateByDocket_lb18  (self18 : gM → Int32 → Int32 → Int32 → Int32 → Int32 → Int32 → gR) (M : gM) (a1 : Int32) (a2 : Int32) (a3 : Int32) (a4 : Int32) (a5 : Int32) (a6 : Int32) : gR := (if (M 4 0) ≤ a6 then (rRet a2 M) else (rb (f_X3_isOfClaim M a6 a1) (fun x4 M3 => (if x4 = 0 then (bV (a6 + 1) (fun x5 => (self18 M3 a1 a2 a3 a4 a5 x5))) else (gI a6 160 (bV (M3 58 a6.toNatClampNeg) (fun x6 => (gI a6 160 (if (M3 55 a6.toNatClampNeg) = 4 then (if x6 = 0 then (bV (a6 + 1) (fun x7 => (self18 M3 a1 1 a3 a4 a5 x7))) else (bV (a6 + 1) (fun x8 => (self18 M3 a1 a2 a3 a4 a5 x8)))) else (if (M3 55 a6.toNatClampNeg) = 5 then (if x6 = 0 then (f_X8_stateByDocket_b136 self18 M3 a1 a5 a6 x6 1) else (f_X8_stateByDocket_b136 self18 M3 a1 a5 a6 x6 2)) else (if (M3 55 a6.toNatClampNeg) = 6 then (bV (a6 + 1) (fun x9 => (self18 M3 a1 0 a3 a4 a5 x9))) else (if (M3 55 a6.toNatClampNeg) = 7 then (bV (a6 + 1) (fun x10 => (self18 M3 a1 3 a3 a4 a5 x10))) else (if (M3 55 a6.toNatClampNeg) = 8 then (rb (f_X8_stateByDecision M3 x6) (fun x12 M11 => (bV (a6 + 1) (fun x13 => (self18 M11 a1 x12 a3 a4 a5 x13))))) else (if (M3 55 a6.toNatClampNeg) = 9 then (bV (a6 + 1) (fun x14 => (self18 M3 a1 4 a3 a4 a5 x14))) else (if (M3 55 a6.toNatClampNeg) = 10 then (bV (a5 + x6) (fun x15 => (gI a6 160 (rb (f_X8_owed M3 a3 a4 (M3 56 a6.toNatClampNeg)) (fun x17 M16 => (if x17 = x15 then (bV (a6 + 1) (fun x18 => (self18 M16 a1 5 a3 a4 x15 x18))) else (bV (a6 + 1) (fun x19 => (self18 M16 a1 a2 a3 a4 x15 x19))))))))) else (bV (a6 + 1) (fun x20 => (self18 M3 a1 a2 a3 a4 a5 x20))))))))))))))))))
def f_X8_stateByDocket_l18  : Nat → gM → Int32 → Int32 → Int32 → Int32 → Int32 → Int32 → gR
  | 0, _, _, _, _, _, _, _ => rStuck
  | n + 1, M, a1, a2, a3, a4, a5, a6 => f_X8_stateByDocket_lb18  (f_X8_stateByDocket_l18  n) M a1 a2 a3 a4 a5 a6
def f_X8_stateByDocket (M : gM) (a1 : Int32) : gR := (rb (f_X8_checkClaim M a1) (fun _ M21 => (f_X8_stateByDocket_l18  5000 M21 a1 0 0 0 0 0)))
abbrev rm_X8_stateByDocket : Room := { frames := 7, cells := 1, slots := 6, locals := 111 }
set_option maxRecDepth 20000 in
set_option maxHeartbeats 4000000 in
theorem g_X8_stateByDocket_b136 {p : Program} {l : Launch} {e : Env} {s : State} {m : MethodId} {args : Array Value} {below : List Frame} {meth : Method} {c : Code} {Z : gZ} (hC : gC p l s m args meth c cX8_stateByDocket 8 RX8 (some .int) Z) {self18 : gM → Int32 → Int32 → Int32 → Int32 → Int32 → Int32 → gR} (hs18 : ∀ (M : gM) (a1 : Int32) (a2 : Int32) (a3 : Int32) (a4 : Int32) (a5 : Int32) (a6 : Int32) , gW p l e rm_X8_stateByDocket s m args below meth c 8 Z 1 1 1 M 18 [(0, .ref (zad Z 0)), (1, .int a1), (2, .int a2), (3, .int a3), (4, .int a4), (5, .int a5), (6, .int a6)] [] (self18 M a1 a2 a3 a4 a5 a6)) (M : gM) (a1 : Int32) (a5 : Int32) (a6 : Int32) (a7 : Int32) (t0 : Int32) : gW p l e rm_X8_stateByDocket s m args below meth c 8 Z 1 1 1 M 136 [(0, .ref (zad Z 0)), (1, .int a1), (5, .int a5), (6, .int a6), (7, .int a7)] [.int t0] (f_X8_stateByDocket_b136 self18 M a1 a5 a6 a7 t0) := by
  unfold f_X8_stateByDocket_b136
  refine g_istore_n hC (lv1 := [(2, .int t0), (0, .ref (zad Z 0)), (1, .int a1), (5, .int a5), (6, .int a6), (7, .int a7)]) dX8_stateByDocket_136 rfl (by decide) rfl ?_
  refine g_iload hC 5 dX8_stateByDocket_137 rfl ?_
  refine g_istore_n hC (lv1 := [(3, .int a7), (2, .int t0), (0, .ref (zad Z 0)), (1, .int a1), (5, .int a5), (6, .int a6), (7, .int a7)]) dX8_stateByDocket_139 rfl (by decide) rfl ?_
  refine g_aload_n hC 2 dX8_stateByDocket_140 rfl rfl ?_
  refine gf_X8_33 hC dX8_stateByDocket_141 ?_
  refine gf_X8_440 hC dX8_stateByDocket_144 ?_
  refine g_iload hC 5 dX8_stateByDocket_147 rfl ?_
  refine g_iald hC 56 (by decide) rfl dX8_stateByDocket_149 ?_
  refine g_bv (fun x1 => ?_)
  refine g_istore hC (lv1 := [(4, .int x1), (3, .int a7), (2, .int t0), (0, .ref (zad Z 0)), (1, .int a1), (5, .int a5), (6, .int a6), (7, .int a7)]) dX8_stateByDocket_150 (by decide) rfl ?_
  refine g_goto (tgt := 216) hC dX8_stateByDocket_152 (by decide) ?_
  refine g_iinc hC 6 (v := 1) (fun x2 => [(6, .int x2), (4, .int x1), (3, .int a7), (2, .int t0), (0, .ref (zad Z 0)), (1, .int a1), (5, .int a5), (7, .int a7)]) dX8_stateByDocket_216 rfl (by decide) (by decide) (fun _ => rfl) (fun x2 => ?_)
  refine g_goto (tgt := 18) hC dX8_stateByDocket_219 (by decide) ?_
  refine g_sub (lv1 := [(0, .ref (zad Z 0)), (1, .int a1), (2, .int t0), (3, .int a7), (4, .int x1), (5, .int a5), (6, .int x2)]) [4, 5, 3, 2, 1, 6, 0] rfl ?_
  exact hs18 M a1 t0 a7 x1 a5 x2
set_option maxRecDepth 20000 in
set_option maxHeartbeats 4000000 in
theorem g_X8_stateByDocket_lb18 {p : Program} {l : Launch} {e : Env} {s : State} {m : MethodId} {args : Array Value} {below : List Frame} {meth : Method} {c : Code} {Z : gZ} (hC : gC p l s m args meth c cX8_stateByDocket 8 RX8 (some .int) Z)  {self18 : gM → Int32 → Int32 → Int32 → Int32 → Int32 → Int32 → gR}  (hs18 : ∀ (M : gM) (a1 : Int32) (a2 : Int32) (a3 : Int32) (a4 : Int32) (a5 : Int32) (a6 : Int32) , gW p l e rm_X8_stateByDocket s m args below meth c 8 Z 1 1 1 M 18 [(0, .ref (zad Z 0)), (1, .int a1), (2, .int a2), (3, .int a3), (4, .int a4), (5, .int a5), (6, .int a6)] [] (self18 M a1 a2 a3 a4 a5 a6)) (M : gM) (a1 : Int32) (a2 : Int32) (a3 : Int32) (a4 : Int32) (a5 : Int32) (a6 : Int32) : gW p l e rm_X8_stateByDocket s m args below meth c 8 Z 1 1 1 M 18 [(0, .ref (zad Z 0)), (1, .int a1), (2, .int a2), (3, .int a3), (4, .int a4), (5, .int a5), (6, .int a6)] [] (f_X8_stateByDocket_lb18  self18 M a1 a2 a3 a4 a5 a6) := by
  unfold f_X8_stateByDocket_lb18
  refine g_iload hC 6 dX8_stateByDocket_18 rfl ?_
  refine g_aload_n hC 0 dX8_stateByDocket_20 rfl rfl ?_
  refine gf_X8_33 hC dX8_stateByDocket_21 ?_
  refine gf_X8_457 hC dX8_stateByDocket_24 ?_
  refine g_icmp_ge (tgt := 222) hC dX8_stateByDocket_27 (by decide) (fun _ => ?_) (fun _ => ?_)
  · refine g_iload_n hC 2 dX8_stateByDocket_222 rfl rfl ?_
    exact g_iret hC rfl (by decide) dX8_stateByDocket_223
  · refine g_aload_n hC 0 dX8_stateByDocket_30 rfl rfl ?_
    refine gf_X8_33 hC dX8_stateByDocket_31 ?_
    refine g_iload hC 6 dX8_stateByDocket_34 rfl ?_
    refine g_iload_n hC 1 dX8_stateByDocket_36 rfl rfl ?_
    refine g_callVi (n := 2) hC [.int a6, .int a1] 4 3 (by decide) rfl rfl (fun hne => c_X3_isOfClaim hC.2.2.2.2.2.2.2.1 Z M a6 a1 hne) lk_X8_469 mw_X3_isOfClaim.1 mw_X3_isOfClaim.2.1 mw_X3_isOfClaim.2.2.1 mw_X3_isOfClaim.2.2.2 ⟨rfl, by decide, by decide, by decide +kernel⟩ rfl rfl ⟨by decide, by decide⟩ rfl rfl (Nat.le_of_ble_eq_true rfl) (by decide) (by decide) (by decide) dX8_stateByDocket_37 (fun x4 M3 => ?_)
    refine g_if_ne (tgt := 46) hC dX8_stateByDocket_40 (by decide) (fun _ => ?_) (fun _ => ?_)
    · refine g_goto (tgt := 216) hC dX8_stateByDocket_43 (by decide) ?_
      refine g_iinc hC 6 (v := 1) (fun x5 => [(6, .int x5), (0, .ref (zad Z 0)), (1, .int a1), (2, .int a2), (3, .int a3), (4, .int a4), (5, .int a5)]) dX8_stateByDocket_216 rfl (by decide) (by decide) (fun _ => rfl) (fun x5 => ?_)
      refine g_goto (tgt := 18) hC dX8_stateByDocket_219 (by decide) ?_
      refine g_sub (lv1 := [(0, .ref (zad Z 0)), (1, .int a1), (2, .int a2), (3, .int a3), (4, .int a4), (5, .int a5), (6, .int x5)]) [1, 2, 3, 4, 5, 6, 0] rfl ?_
      exact hs18 M3 a1 a2 a3 a4 a5 x5
    · refine g_aload_n hC 0 dX8_stateByDocket_46 rfl rfl ?_
      refine gf_X8_33 hC dX8_stateByDocket_47 ?_
      refine gf_X8_458 hC dX8_stateByDocket_50 ?_
      refine g_iload hC 6 dX8_stateByDocket_53 rfl ?_
      refine g_iald hC 58 (by decide) rfl dX8_stateByDocket_55 ?_
      refine g_bv (fun x6 => ?_)
      refine g_istore hC (lv1 := [(7, .int x6), (0, .ref (zad Z 0)), (1, .int a1), (2, .int a2), (3, .int a3), (4, .int a4), (5, .int a5), (6, .int a6)]) dX8_stateByDocket_56 (by decide) rfl ?_
      refine g_aload_n hC 1 dX8_stateByDocket_58 rfl rfl ?_
      refine gf_X8_33 hC dX8_stateByDocket_59 ?_
      refine gf_X8_301 hC dX8_stateByDocket_62 ?_
      refine g_iload hC 7 dX8_stateByDocket_65 rfl ?_
      refine g_iald hC 55 (by decide) rfl dX8_stateByDocket_67 ?_
      refine g_if (fun hx0 => ?_) (fun hx0 => ?_)
      · refine g_swIn (tgt := 112) hC 4 hx0 dX8_stateByDocket_68 (by decide) (by decide) rfl (by decide) ?_
        refine g_iload hC 0 dX8_stateByDocket_112 rfl ?_
        refine g_if_ne (tgt := 121) hC dX8_stateByDocket_114 (by decide) (fun _ => ?_) (fun _ => ?_)
        · refine g_iconst hC (v := 1) dX8_stateByDocket_117 (by decide) ?_
          refine g_goto (tgt := 122) hC dX8_stateByDocket_118 (by decide) ?_
          refine g_istore_n hC (lv1 := [(2, .int 1), (7, .int x6), (0, .ref (zad Z 0)), (1, .int a1), (3, .int a3), (4, .int a4), (5, .int a5), (6, .int a6)]) dX8_stateByDocket_122 rfl (by decide) rfl ?_
          refine g_goto (tgt := 216) hC dX8_stateByDocket_123 (by decide) ?_
          refine g_iinc hC 7 (v := 1) (fun x7 => [(6, .int x7), (2, .int 1), (7, .int x6), (0, .ref (zad Z 0)), (1, .int a1), (3, .int a3), (4, .int a4), (5, .int a5)]) dX8_stateByDocket_216 rfl (by decide) (by decide) (fun _ => rfl) (fun x7 => ?_)
          refine g_goto (tgt := 18) hC dX8_stateByDocket_219 (by decide) ?_
          refine g_sub (lv1 := [(0, .ref (zad Z 0)), (1, .int a1), (2, .int 1), (3, .int a3), (4, .int a4), (5, .int a5), (6, .int x7)]) [3, 4, 1, 5, 6, 7, 0] rfl ?_
          exact hs18 M3 a1 1 a3 a4 a5 x7
        · refine g_iload_n hC 3 dX8_stateByDocket_121 rfl rfl ?_
          refine g_istore_n hC (lv1 := [(2, .int a2), (7, .int x6), (0, .ref (zad Z 0)), (1, .int a1), (3, .int a3), (4, .int a4), (5, .int a5), (6, .int a6)]) dX8_stateByDocket_122 rfl (by decide) rfl ?_
          refine g_goto (tgt := 216) hC dX8_stateByDocket_123 (by decide) ?_
          refine g_iinc hC 7 (v := 1) (fun x8 => [(6, .int x8), (2, .int a2), (7, .int x6), (0, .ref (zad Z 0)), (1, .int a1), (3, .int a3), (4, .int a4), (5, .int a5)]) dX8_stateByDocket_216 rfl (by decide) (by decide) (fun _ => rfl) (fun x8 => ?_)
          refine g_goto (tgt := 18) hC dX8_stateByDocket_219 (by decide) ?_
          refine g_sub (lv1 := [(0, .ref (zad Z 0)), (1, .int a1), (2, .int a2), (3, .int a3), (4, .int a4), (5, .int a5), (6, .int x8)]) [3, 4, 1, 5, 6, 7, 0] rfl ?_
          exact hs18 M3 a1 a2 a3 a4 a5 x8
      · skip
        refine g_if (fun hx1 => ?_) (fun hx1 => ?_)
        · refine g_swIn (tgt := 126) hC 5 hx1 dX8_stateByDocket_68 (by decide) (by decide) rfl (by decide) ?_
          refine g_iload hC 0 dX8_stateByDocket_126 rfl ?_
          refine g_if_ne (tgt := 135) hC dX8_stateByDocket_128 (by decide) (fun _ => ?_) (fun _ => ?_)
          · refine g_iconst hC (v := 1) dX8_stateByDocket_131 (by decide) ?_
            refine g_goto (tgt := 136) hC dX8_stateByDocket_132 (by decide) ?_
            refine g_sub (lv1 := [(0, .ref (zad Z 0)), (1, .int a1), (5, .int a5), (6, .int a6), (7, .int x6)]) [1, 2, 6, 7, 0] rfl ?_
            exact g_X8_stateByDocket_b136 hC hs18 M3 a1 a5 a6 x6 1
          · refine g_iconst hC (v := 2) dX8_stateByDocket_135 (by decide) ?_
            refine g_sub (lv1 := [(0, .ref (zad Z 0)), (1, .int a1), (5, .int a5), (6, .int a6), (7, .int x6)]) [1, 2, 6, 7, 0] rfl ?_
            exact g_X8_stateByDocket_b136 hC hs18 M3 a1 a5 a6 x6 2
        · skip
          refine g_if (fun hx2 => ?_) (fun hx2 => ?_)
          · refine g_swIn (tgt := 155) hC 6 hx2 dX8_stateByDocket_68 (by decide) (by decide) rfl (by decide) ?_
            refine g_iconst hC (v := 0) dX8_stateByDocket_155 (by decide) ?_
            refine g_istore_n hC (lv1 := [(2, .int 0), (7, .int x6), (0, .ref (zad Z 0)), (1, .int a1), (3, .int a3), (4, .int a4), (5, .int a5), (6, .int a6)]) dX8_stateByDocket_156 rfl (by decide) rfl ?_
            refine g_goto (tgt := 216) hC dX8_stateByDocket_157 (by decide) ?_
            refine g_iinc hC 7 (v := 1) (fun x9 => [(6, .int x9), (2, .int 0), (7, .int x6), (0, .ref (zad Z 0)), (1, .int a1), (3, .int a3), (4, .int a4), (5, .int a5)]) dX8_stateByDocket_216 rfl (by decide) (by decide) (fun _ => rfl) (fun x9 => ?_)
            refine g_goto (tgt := 18) hC dX8_stateByDocket_219 (by decide) ?_
            refine g_sub (lv1 := [(0, .ref (zad Z 0)), (1, .int a1), (2, .int 0), (3, .int a3), (4, .int a4), (5, .int a5), (6, .int x9)]) [3, 4, 1, 5, 6, 7, 0] rfl ?_
            exact hs18 M3 a1 0 a3 a4 a5 x9
          · skip
            refine g_if (fun hx3 => ?_) (fun hx3 => ?_)
            · refine g_swIn (tgt := 160) hC 7 hx3 dX8_stateByDocket_68 (by decide) (by decide) rfl (by decide) ?_
              refine g_iconst hC (v := 3) dX8_stateByDocket_160 (by decide) ?_
              refine g_istore_n hC (lv1 := [(2, .int 3), (7, .int x6), (0, .ref (zad Z 0)), (1, .int a1), (3, .int a3), (4, .int a4), (5, .int a5), (6, .int a6)]) dX8_stateByDocket_161 rfl (by decide) rfl ?_
              refine g_goto (tgt := 216) hC dX8_stateByDocket_162 (by decide) ?_
              refine g_iinc hC 7 (v := 1) (fun x10 => [(6, .int x10), (2, .int 3), (7, .int x6), (0, .ref (zad Z 0)), (1, .int a1), (3, .int a3), (4, .int a4), (5, .int a5)]) dX8_stateByDocket_216 rfl (by decide) (by decide) (fun _ => rfl) (fun x10 => ?_)
              refine g_goto (tgt := 18) hC dX8_stateByDocket_219 (by decide) ?_
              refine g_sub (lv1 := [(0, .ref (zad Z 0)), (1, .int a1), (2, .int 3), (3, .int a3), (4, .int a4), (5, .int a5), (6, .int x10)]) [3, 4, 1, 5, 6, 7, 0] rfl ?_
              exact hs18 M3 a1 3 a3 a4 a5 x10
            · skip
              refine g_if (fun hx4 => ?_) (fun hx4 => ?_)
              · refine g_swIn (tgt := 165) hC 8 hx4 dX8_stateByDocket_68 (by decide) (by decide) rfl (by decide) ?_
                refine g_iload hC 0 dX8_stateByDocket_165 rfl ?_
                refine g_callSi (n := 1) hC [.int x6] (fun hne => c_X8_stateByDecision hC.2.2.2.2.2.2.2.1 Z M3 x6 hne) lk_X8_284 mw_X8_stateByDecision.1 mw_X8_stateByDecision.2.1 mw_X8_stateByDecision.2.2 ⟨by decide, by decide, by decide +kernel⟩ rfl rfl ⟨by decide, by decide⟩ rfl rfl (Nat.le_of_ble_eq_true rfl) (by decide) (by decide) (by decide) dX8_stateByDocket_167 (fun x12 M11 => ?_)
                refine g_istore_n hC (lv1 := [(2, .int x12), (7, .int x6), (0, .ref (zad Z 0)), (1, .int a1), (3, .int a3), (4, .int a4), (5, .int a5), (6, .int a6)]) dX8_stateByDocket_170 rfl (by decide) rfl ?_
                refine g_goto (tgt := 216) hC dX8_stateByDocket_171 (by decide) ?_
                refine g_iinc hC 7 (v := 1) (fun x13 => [(6, .int x13), (2, .int x12), (7, .int x6), (0, .ref (zad Z 0)), (1, .int a1), (3, .int a3), (4, .int a4), (5, .int a5)]) dX8_stateByDocket_216 rfl (by decide) (by decide) (fun _ => rfl) (fun x13 => ?_)
                refine g_goto (tgt := 18) hC dX8_stateByDocket_219 (by decide) ?_
                refine g_sub (lv1 := [(0, .ref (zad Z 0)), (1, .int a1), (2, .int x12), (3, .int a3), (4, .int a4), (5, .int a5), (6, .int x13)]) [3, 4, 1, 5, 6, 7, 0] rfl ?_
                exact hs18 M11 a1 x12 a3 a4 a5 x13
              · skip
                refine g_if (fun hx5 => ?_) (fun hx5 => ?_)
                · refine g_swIn (tgt := 174) hC 9 hx5 dX8_stateByDocket_68 (by decide) (by decide) rfl (by decide) ?_
                  refine g_iconst hC (v := 4) dX8_stateByDocket_174 (by decide) ?_
                  refine g_istore_n hC (lv1 := [(2, .int 4), (7, .int x6), (0, .ref (zad Z 0)), (1, .int a1), (3, .int a3), (4, .int a4), (5, .int a5), (6, .int a6)]) dX8_stateByDocket_175 rfl (by decide) rfl ?_
                  refine g_goto (tgt := 216) hC dX8_stateByDocket_176 (by decide) ?_
                  refine g_iinc hC 7 (v := 1) (fun x14 => [(6, .int x14), (2, .int 4), (7, .int x6), (0, .ref (zad Z 0)), (1, .int a1), (3, .int a3), (4, .int a4), (5, .int a5)]) dX8_stateByDocket_216 rfl (by decide) (by decide) (fun _ => rfl) (fun x14 => ?_)
                  refine g_goto (tgt := 18) hC dX8_stateByDocket_219 (by decide) ?_
                  refine g_sub (lv1 := [(0, .ref (zad Z 0)), (1, .int a1), (2, .int 4), (3, .int a3), (4, .int a4), (5, .int a5), (6, .int x14)]) [3, 4, 1, 5, 6, 7, 0] rfl ?_
                  exact hs18 M3 a1 4 a3 a4 a5 x14
                · skip
                  refine g_if (fun hx6 => ?_) (fun hx6 => ?_)
                  · refine g_swIn (tgt := 179) hC 10 hx6 dX8_stateByDocket_68 (by decide) (by decide) rfl (by decide) ?_
                    refine g_iload hC 6 dX8_stateByDocket_179 rfl ?_
                    refine g_iload hC 0 dX8_stateByDocket_181 rfl ?_
                    refine g_iadd hC dX8_stateByDocket_183 ?_
                    refine g_bv (fun x15 => ?_)
                    refine g_istore hC (lv1 := [(5, .int x15), (7, .int x6), (0, .ref (zad Z 0)), (1, .int a1), (2, .int a2), (3, .int a3), (4, .int a4), (6, .int a6)]) dX8_stateByDocket_184 (by decide) rfl ?_
                    refine g_iload_n hC 5 dX8_stateByDocket_186 rfl rfl ?_
                    refine g_iload hC 6 dX8_stateByDocket_187 rfl ?_
                    refine g_aload_n hC 2 dX8_stateByDocket_189 rfl rfl ?_
                    refine gf_X8_33 hC dX8_stateByDocket_190 ?_
                    refine gf_X8_440 hC dX8_stateByDocket_193 ?_
                    refine g_iload hC 7 dX8_stateByDocket_196 rfl ?_
                    refine g_iald hC 56 (by decide) rfl dX8_stateByDocket_198 ?_
                    refine g_callSi (n := 3) hC [.int a3, .int a4, .int (M3 56 a6.toNatClampNeg)] (fun hne => c_X8_owed hC.2.2.2.2.2.2.2.1 Z M3 a3 a4 (M3 56 a6.toNatClampNeg) hne) lk_X8_472 mw_X8_owed.1 mw_X8_owed.2.1 mw_X8_owed.2.2 ⟨by decide, by decide, by decide +kernel⟩ rfl rfl ⟨by decide, by decide⟩ rfl rfl (Nat.le_of_ble_eq_true rfl) (by decide) (by decide) (by decide) dX8_stateByDocket_199 (fun x17 M16 => ?_)
                    refine g_iload hC 0 dX8_stateByDocket_202 rfl ?_
                    refine g_icmp_ne (tgt := 211) hC dX8_stateByDocket_204 (by decide) (fun _ => ?_) (fun _ => ?_)
                    · refine g_iconst hC (v := 5) dX8_stateByDocket_207 (by decide) ?_
                      refine g_goto (tgt := 212) hC dX8_stateByDocket_208 (by decide) ?_
                      refine g_istore_n hC (lv1 := [(2, .int 5), (5, .int x15), (7, .int x6), (0, .ref (zad Z 0)), (1, .int a1), (3, .int a3), (4, .int a4), (6, .int a6)]) dX8_stateByDocket_212 rfl (by decide) rfl ?_
                      refine g_goto (tgt := 216) hC dX8_stateByDocket_213 (by decide) ?_
                      refine g_iinc hC 7 (v := 1) (fun x18 => [(6, .int x18), (2, .int 5), (5, .int x15), (7, .int x6), (0, .ref (zad Z 0)), (1, .int a1), (3, .int a3), (4, .int a4)]) dX8_stateByDocket_216 rfl (by decide) (by decide) (fun _ => rfl) (fun x18 => ?_)
                      refine g_goto (tgt := 18) hC dX8_stateByDocket_219 (by decide) ?_
                      refine g_sub (lv1 := [(0, .ref (zad Z 0)), (1, .int a1), (2, .int 5), (3, .int a3), (4, .int a4), (5, .int x15), (6, .int x18)]) [4, 5, 1, 6, 7, 2, 0] rfl ?_
                      exact hs18 M16 a1 5 a3 a4 x15 x18
                    · refine g_iload_n hC 4 dX8_stateByDocket_211 rfl rfl ?_
                      refine g_istore_n hC (lv1 := [(2, .int a2), (5, .int x15), (7, .int x6), (0, .ref (zad Z 0)), (1, .int a1), (3, .int a3), (4, .int a4), (6, .int a6)]) dX8_stateByDocket_212 rfl (by decide) rfl ?_
                      refine g_goto (tgt := 216) hC dX8_stateByDocket_213 (by decide) ?_
                      refine g_iinc hC 7 (v := 1) (fun x19 => [(6, .int x19), (2, .int a2), (5, .int x15), (7, .int x6), (0, .ref (zad Z 0)), (1, .int a1), (3, .int a3), (4, .int a4)]) dX8_stateByDocket_216 rfl (by decide) (by decide) (fun _ => rfl) (fun x19 => ?_)
                      refine g_goto (tgt := 18) hC dX8_stateByDocket_219 (by decide) ?_
                      refine g_sub (lv1 := [(0, .ref (zad Z 0)), (1, .int a1), (2, .int a2), (3, .int a3), (4, .int a4), (5, .int x15), (6, .int x19)]) [4, 5, 1, 6, 7, 2, 0] rfl ?_
                      exact hs18 M16 a1 a2 a3 a4 x15 x19
                  · skip
                    refine g_swOut (tgt := 216) hC (gSwOut (M3 55 a6.toNatClampNeg) 4 7 (by decide) (by decide) (fun j hj => by
                      match j, hj with
                      | 0, _ => exact hx0
                      | 1, _ => exact hx1
                      | 2, _ => exact hx2
                      | 3, _ => exact hx3
                      | 4, _ => exact hx4
                      | 5, _ => exact hx5
                      | 6, _ => exact hx6
                      | n + 7, h => exact absurd h (by omega))) dX8_stateByDocket_68 (by decide) ?_
                    refine g_iinc hC 7 (v := 1) (fun x20 => [(6, .int x20), (7, .int x6), (0, .ref (zad Z 0)), (1, .int a1), (2, .int a2), (3, .int a3), (4, .int a4), (5, .int a5)]) dX8_stateByDocket_216 rfl (by decide) (by decide) (fun _ => rfl) (fun x20 => ?_)
                    refine g_goto (tgt := 18) hC dX8_stateByDocket_219 (by decide) ?_
                    refine g_sub (lv1 := [(0, .ref (zad Z 0)), (1, .int a1), (2, .int a2), (3, .int a3), (4, .int a4), (5, .int a5), (6, .int x20)]) [2, 3, 4, 5, 6, 7, 0] rfl ?_
                    exact hs18 M3 a1 a2 a3 a4 a5 x20
set_option maxRecDepth 20000 in
set_option maxHeartbeats 4000000 in
theorem g_X8_stateByDocket_l18 {p : Program} {l : Launch} {e : Env} {s : State} {m : MethodId} {args : Array Value} {below : List Frame} {meth : Method} {c : Code} {Z : gZ} (hC : gC p l s m args meth c cX8_stateByDocket 8 RX8 (some .int) Z)   : ∀ (n : Nat) (M : gM) (a1 : Int32) (a2 : Int32) (a3 : Int32) (a4 : Int32) (a5 : Int32) (a6 : Int32), gW p l e rm_X8_stateByDocket s m args below meth c 8 Z 1 1 1 M 18 [(0, .ref (zad Z 0)), (1, .int a1), (2, .int a2), (3, .int a3), (4, .int a4), (5, .int a5), (6, .int a6)] [] (f_X8_stateByDocket_l18  n M a1 a2 a3 a4 a5 a6)
  | 0, _, _, _, _, _, _, _ => g_stuck
  | n + 1, M, a1, a2, a3, a4, a5, a6 => g_X8_stateByDocket_lb18 hC  (g_X8_stateByDocket_l18 hC  n) M a1 a2 a3 a4 a5 a6
set_option maxRecDepth 20000 in
set_option maxHeartbeats 4000000 in
theorem c_X8_stateByDocket {l : Launch} (hfl : l.stackTraces = false) (Z : gZ) (M : gM) (a1 : Int32) : gMet l yX8_stateByDocket cX8_stateByDocket 8 (some .int) rm_X8_stateByDocket 1 1 Z M [.ref (zad Z 0), .int a1] (f_X8_stateByDocket M a1) := by
  refine g_enter hfl (by decide) (Nat.le_of_ble_eq_true rfl) (fun p e s m args below meth c hC => ?_)
  refine g_eq (F := f_X8_stateByDocket M a1) rfl ?_
  refine g_lv0 (lv1 := [(0, .ref (zad Z 0)), (1, .int a1)]) rfl ?_
  unfold f_X8_stateByDocket
  refine g_aload_n hC 0 dX8_stateByDocket_0 rfl rfl ?_
  refine g_iload_n hC 1 dX8_stateByDocket_1 rfl rfl ?_
  refine g_callVv (n := 1) hC [.int a1] 0 8 (by decide) rfl rfl (fun hne => c_X8_checkClaim hC.2.2.2.2.2.2.2.1 Z M a1 hne) lk_X8_169 mw_X8_checkClaim.1 mw_X8_checkClaim.2.1 mw_X8_checkClaim.2.2.1 mw_X8_checkClaim.2.2.2 ⟨rfl, by decide, by decide, by decide +kernel⟩ rfl rfl ⟨by decide, by decide⟩ rfl rfl (Nat.le_of_ble_eq_true rfl) (by decide) (by decide) (by decide) dX8_stateByDocket_2 (fun M21 => ?_)
  refine g_iconst hC (v := 0) dX8_stateByDocket_5 (by decide) ?_
  refine g_istore_n hC (lv1 := [(2, .int 0), (0, .ref (zad Z 0)), (1, .int a1)]) dX8_stateByDocket_6 rfl (by decide) rfl ?_
  refine g_iconst hC (v := 0) dX8_stateByDocket_7 (by decide) ?_
  refine g_istore_n hC (lv1 := [(3, .int 0), (2, .int 0), (0, .ref (zad Z 0)), (1, .int a1)]) dX8_stateByDocket_8 rfl (by decide) rfl ?_
  refine g_iconst hC (v := 0) dX8_stateByDocket_9 (by decide) ?_
  refine g_istore hC (lv1 := [(4, .int 0), (3, .int 0), (2, .int 0), (0, .ref (zad Z 0)), (1, .int a1)]) dX8_stateByDocket_10 (by decide) rfl ?_
  refine g_iconst hC (v := 0) dX8_stateByDocket_12 (by decide) ?_
  refine g_istore hC (lv1 := [(5, .int 0), (4, .int 0), (3, .int 0), (2, .int 0), (0, .ref (zad Z 0)), (1, .int a1)]) dX8_stateByDocket_13 (by decide) rfl ?_
  refine g_iconst hC (v := 0) dX8_stateByDocket_15 (by decide) ?_
  refine g_istore hC (lv1 := [(6, .int 0), (5, .int 0), (4, .int 0), (3, .int 0), (2, .int 0), (0, .ref (zad Z 0)), (1, .int a1)]) dX8_stateByDocket_16 (by decide) rfl ?_
  refine g_sub (lv1 := [(0, .ref (zad Z 0)), (1, .int a1), (2, .int 0), (3, .int 0), (4, .int 0), (5, .int 0), (6, .int 0)]) [5, 6, 4, 3, 2, 1, 0] rfl ?_
  exact g_X8_stateByDocket_l18 hC  5000 M21 a1 0 0 0 0 0
