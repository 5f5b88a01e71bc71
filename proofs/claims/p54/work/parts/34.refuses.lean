-- ===== L_refuses =====
def f_L_refuses_b649 (M : gM) (a2 : Int32) (a3 : Int32) (t0 : Int32) : gR := (if t0 = 0 then (gZ01 0 (rRet 0 M)) else (rbN (f_X8_entries M ) (fun x2 M1 => (if x2 = a2 then (rbN (f_X8_today M1 ) (fun x4 M3 => (if x4 = a3 then (gZ01 1 (rRet 1 M3)) else (gZ01 0 (rRet 0 M3))))) else (gZ01 0 (rRet 0 M1))))))
def f_L_refuses_b648 (M : gM) (a2 : Int32) (a3 : Int32) : gR := (f_L_refuses_b649 M a2 a3 0)
def f_L_refuses_b462 (M : gM) (a1 : Int32) (a2 : Int32) (a3 : Int32) (t0 : Int32) : gR := (if t0 = 0 then (f_L_refuses_b648 M a2 a3) else (qb (f_W_exhibit M 0 16) (fun x2 M1 => (if x2 = (-9000000000000000001) then (qb (f_W_hand M1 12 0 0) (fun x4 M3 => (if x4 = (-9000000000000000001) then (qb (f_W_object M3 12 0) (fun x6 M5 => (if x6 = (-9000000000000000001) then (qb (f_W_sustain M5 0 2 1) (fun x8 M7 => (if x8 = (-9000000000000000001) then (qb (f_W_admitted M7 12) (fun x10 M9 => (if x10 = (-9000000000000000001) then (qb (f_W_seal M9 a2 1) (fun x12 M11 => (if x12 = (-9000000000000000001) then (qb (f_W_maySee M11 a2 0 0) (fun x14 M13 => (if x14 = (-9000000000000000001) then (qb (f_W_certify M13 a1) (fun x16 M15 => (if x16 = (-9000000000000000001) then (qb (f_W_member M15 a1 0 1) (fun x18 M17 => (if x18 = (-9000000000000000001) then (qb (f_W_share M17 0 16) (fun x20 M19 => (if x20 = (-9000000000000000001) then (qb (f_W_due M19 4 0) (fun x22 M21 => (if x22 = (-9000000000000000001) then (qb (f_W_dueByDays M21 (-1) 0) (fun x24 M23 => (if x24 = (-9000000000000000001) then (qb (f_W_answered M23 a1) (fun x26 M25 => (if x26 = (-9000000000000000001) then (f_L_refuses_b649 M25 a2 a3 1) else (f_L_refuses_b648 M25 a2 a3)))) else (f_L_refuses_b648 M23 a2 a3)))) else (f_L_refuses_b648 M21 a2 a3)))) else (f_L_refuses_b648 M19 a2 a3)))) else (f_L_refuses_b648 M17 a2 a3)))) else (f_L_refuses_b648 M15 a2 a3)))) else (f_L_refuses_b648 M13 a2 a3)))) else (f_L_refuses_b648 M11 a2 a3)))) else (f_L_refuses_b648 M9 a2 a3)))) else (f_L_refuses_b648 M7 a2 a3)))) else (f_L_refuses_b648 M5 a2 a3)))) else (f_L_refuses_b648 M3 a2 a3)))) else (f_L_refuses_b648 M1 a2 a3)))))
def f_L_refuses_b461 (M : gM) (a1 : Int32) (a2 : Int32) (a3 : Int32) : gR := (f_L_refuses_b462 M a1 a2 a3 0)
def f_L_refuses_b238 (M : gM) (a1 : Int32) (a2 : Int32) (a3 : Int32) (t0 : Int32) : gR := (if t0 = 0 then (f_L_refuses_b461 M a1 a2 a3) else (qb (f_W_vacate M a1) (fun x2 M1 => (if x2 = (-9000000000000000001) then (qb (f_W_appeal M1 (-1)) (fun x4 M3 => (if x4 = (-9000000000000000001) then (qb (f_W_decide M3 a1 3 0) (fun x6 M5 => (if x6 = (-9000000000000000001) then (qb (f_W_settle M5 a1) (fun x8 M7 => (if x8 = (-9000000000000000001) then (qb (f_W_pay M7 a1 0) (fun x10 M9 => (if x10 = (-9000000000000000001) then (qb (f_W_stay M9 8 1) (fun x12 M11 => (if x12 = (-9000000000000000001) then (qb (f_W_defect M11 a2) (fun x14 M13 => (if x14 = (-9000000000000000001) then (qb (f_W_cure M13 (-1)) (fun x16 M15 => (if x16 = (-9000000000000000001) then (qb (f_W_extend M15 3 0 1) (fun x18 M17 => (if x18 = (-9000000000000000001) then (qb (f_W_extend M17 0 a1 0) (fun x20 M19 => (if x20 = (-9000000000000000001) then (qb (f_W_hearing M19 8 0 0) (fun x22 M21 => (if x22 = (-9000000000000000001) then (qb (f_W_goesOn M21 40) (fun x24 M23 => (if x24 = (-9000000000000000001) then (qb (f_W_hearingAt M23 40) (fun x26 M25 => (if x26 = (-9000000000000000001) then (qb (f_W_strike M25 0 2 0) (fun x28 M27 => (if x28 = (-9000000000000000001) then (qb (f_W_dismiss M27 0 14) (fun x30 M29 => (if x30 = (-9000000000000000001) then (qb (f_W_seat M29 0 7) (fun x32 M31 => (if x32 = (-9000000000000000001) then (f_L_refuses_b462 M31 a1 a2 a3 1) else (f_L_refuses_b461 M31 a1 a2 a3)))) else (f_L_refuses_b461 M29 a1 a2 a3)))) else (f_L_refuses_b461 M27 a1 a2 a3)))) else (f_L_refuses_b461 M25 a1 a2 a3)))) else (f_L_refuses_b461 M23 a1 a2 a3)))) else (f_L_refuses_b461 M21 a1 a2 a3)))) else (f_L_refuses_b461 M19 a1 a2 a3)))) else (f_L_refuses_b461 M17 a1 a2 a3)))) else (f_L_refuses_b461 M15 a1 a2 a3)))) else (f_L_refuses_b461 M13 a1 a2 a3)))) else (f_L_refuses_b461 M11 a1 a2 a3)))) else (f_L_refuses_b461 M9 a1 a2 a3)))) else (f_L_refuses_b461 M7 a1 a2 a3)))) else (f_L_refuses_b461 M5 a1 a2 a3)))) else (f_L_refuses_b461 M3 a1 a2 a3)))) else (f_L_refuses_b461 M1 a1 a2 a3)))))
def f_L_refuses_b237 (M : gM) (a1 : Int32) (a2 : Int32) (a3 : Int32) : gR := (f_L_refuses_b238 M a1 a2 a3 0)
def f_L_refuses (M : gM) (a1 : Int32) : gR := (rbN (f_X8_entries M ) (fun x2 M1 => (rbN (f_X8_today M1 ) (fun x4 M3 => (qb (f_W_pass M3 0) (fun x6 M5 => (if x6 = (-9000000000000000002) then (qb (f_W_pass M5 61) (fun x8 M7 => (if x8 = (-9000000000000000002) then (qb (f_W_holiday M7 (-1)) (fun x10 M9 => (if x10 = (-9000000000000000002) then (qb (f_W_holiday M9 x4) (fun x12 M11 => (if x12 = (-9000000000000000003) then (qb (f_W_setRule M11 5 0 1) (fun x14 M13 => (if x14 = (-9000000000000000001) then (qb (f_W_setRule M13 0 61 1) (fun x16 M15 => (if x16 = (-9000000000000000002) then (qb (f_W_open M15 3) (fun x18 M17 => (if x18 = (-9000000000000000001) then (qb (f_W_join M17 8 0 0) (fun x20 M19 => (if x20 = (-9000000000000000001) then (qb (f_W_lead M19 (-1) 0) (fun x22 M21 => (if x22 = (-9000000000000000001) then (qb (f_W_claim M21 0 16 0 0) (fun x24 M23 => (if x24 = (-9000000000000000001) then (qb (f_W_sever M23 a1) (fun x26 M25 => (if x26 = (-9000000000000000001) then (qb (f_W_serve M25 a1 0) (fun x28 M27 => (if x28 = (-9000000000000000001) then (qb (f_W_answer M27 (-1)) (fun x30 M29 => (if x30 = (-9000000000000000001) then (qb (f_W_motion M29 a1) (fun x32 M31 => (if x32 = (-9000000000000000001) then (qb (f_W_respond M31 x2) (fun x34 M33 => (if x34 = (-9000000000000000001) then (qb (f_W_ruling M33 x2 (-2)) (fun x36 M35 => (if x36 = (-9000000000000000001) then (qb (f_W_judge M35 a1 (-2)) (fun x38 M37 => (if x38 = (-9000000000000000001) then (f_L_refuses_b238 M37 a1 x2 x4 1) else (f_L_refuses_b237 M37 a1 x2 x4)))) else (f_L_refuses_b237 M35 a1 x2 x4)))) else (f_L_refuses_b237 M33 a1 x2 x4)))) else (f_L_refuses_b237 M31 a1 x2 x4)))) else (f_L_refuses_b237 M29 a1 x2 x4)))) else (f_L_refuses_b237 M27 a1 x2 x4)))) else (f_L_refuses_b237 M25 a1 x2 x4)))) else (f_L_refuses_b237 M23 a1 x2 x4)))) else (f_L_refuses_b237 M21 a1 x2 x4)))) else (f_L_refuses_b237 M19 a1 x2 x4)))) else (f_L_refuses_b237 M17 a1 x2 x4)))) else (f_L_refuses_b237 M15 a1 x2 x4)))) else (f_L_refuses_b237 M13 a1 x2 x4)))) else (f_L_refuses_b237 M11 a1 x2 x4)))) else (f_L_refuses_b237 M9 a1 x2 x4)))) else (f_L_refuses_b237 M7 a1 x2 x4)))) else (f_L_refuses_b237 M5 a1 x2 x4))))))))
abbrev rm_L_refuses : Room := { frames := 11, cells := 105, slots := 630, locals := 203 }
set_option maxRecDepth 20000 in
set_option maxHeartbeats 4000000 in
theorem g_L_refuses_b649 {p : Program} {l : Launch} {e : Env} {s : State} {m : MethodId} {args : Array Value} {below : List Frame} {meth : Method} {c : Code} {Z : gZ} (hfl : l.stackTraces = false) (hC : gD p s m args c cL_refuses 5 RL Z) (hNc : gNc s) (hlk : meth.locks = false) (hrt : meth.sig.returnType = some .boolean) (M : gM) (a2 : Int32) (a3 : Int32) (t0 : Int32) : gY p l e rm_L_refuses s m args below meth c 5 Z (fun F => vx_MQ below (gQc 1 Z F) (gXc Z F) args s 105 (6 * 105) (zA Z)) 105 M 649 [(0, .ref (zad Z 0)), (2, .int a2), (3, .int a3)] [.int t0] (f_L_refuses_b649 M a2 a3 t0) := by
  unfold f_L_refuses_b649
  refine h_istore hC (lv1 := [(4, .int t0), (0, .ref (zad Z 0)), (2, .int a2), (3, .int a3)]) dL_refuses_649 (by decide) rfl ?_
  refine h_iload hC 0 dL_refuses_651 rfl ?_
  refine h_if_eq (tgt := 676) hC dL_refuses_653 (by decide) (fun _ => ?_) (fun _ => ?_)
  · refine h_iconst hC (v := 0) dL_refuses_676 (by decide) ?_
    exact h_zret hC hlk hrt (Nat.le_of_ble_eq_true rfl) dL_refuses_677
  · refine h_aload_n hC 1 dL_refuses_656 rfl rfl ?_
    refine h_callN (n := 0) hC [] 0 8 (by decide) rfl rfl (c_X8_entries hfl Z M ) lk_L_206 mw_X8_entries.1 mw_X8_entries.2.1 mw_X8_entries.2.2.1 mw_X8_entries.2.2.2 ⟨rfl, by decide, by decide, by decide +kernel⟩ rfl rfl ⟨by decide, by decide⟩ rfl rfl (Nat.le_of_ble_eq_true rfl) (Nat.le_of_ble_eq_true rfl) (Nat.le_of_ble_eq_true rfl) dL_refuses_657 (fun x2 M1 => ?_)
    refine h_iload_n hC 2 dL_refuses_660 rfl rfl ?_
    refine h_icmp_ne (tgt := 676) hC dL_refuses_661 (by decide) (fun _ => ?_) (fun _ => ?_)
    · refine h_aload_n hC 1 dL_refuses_664 rfl rfl ?_
      refine h_callN (n := 0) hC [] 0 8 (by decide) rfl rfl (c_X8_today hfl Z M1 ) lk_L_214 mw_X8_today.1 mw_X8_today.2.1 mw_X8_today.2.2.1 mw_X8_today.2.2.2 ⟨rfl, by decide, by decide, by decide +kernel⟩ rfl rfl ⟨by decide, by decide⟩ rfl rfl (Nat.le_of_ble_eq_true rfl) (Nat.le_of_ble_eq_true rfl) (Nat.le_of_ble_eq_true rfl) dL_refuses_665 (fun x4 M3 => ?_)
      refine h_iload_n hC 3 dL_refuses_668 rfl rfl ?_
      refine h_icmp_ne (tgt := 676) hC dL_refuses_669 (by decide) (fun _ => ?_) (fun _ => ?_)
      · refine h_iconst hC (v := 1) dL_refuses_672 (by decide) ?_
        refine h_goto (tgt := 677) hC dL_refuses_673 (by decide) ?_
        exact h_zret hC hlk hrt (Nat.le_of_ble_eq_true rfl) dL_refuses_677
      · refine h_iconst hC (v := 0) dL_refuses_676 (by decide) ?_
        exact h_zret hC hlk hrt (Nat.le_of_ble_eq_true rfl) dL_refuses_677
    · refine h_iconst hC (v := 0) dL_refuses_676 (by decide) ?_
      exact h_zret hC hlk hrt (Nat.le_of_ble_eq_true rfl) dL_refuses_677
set_option maxRecDepth 20000 in
set_option maxHeartbeats 4000000 in
theorem g_L_refuses_b648 {p : Program} {l : Launch} {e : Env} {s : State} {m : MethodId} {args : Array Value} {below : List Frame} {meth : Method} {c : Code} {Z : gZ} (hfl : l.stackTraces = false) (hC : gD p s m args c cL_refuses 5 RL Z) (hNc : gNc s) (hlk : meth.locks = false) (hrt : meth.sig.returnType = some .boolean) (M : gM) (a2 : Int32) (a3 : Int32) : gY p l e rm_L_refuses s m args below meth c 5 Z (fun F => vx_MQ below (gQc 1 Z F) (gXc Z F) args s 105 (6 * 105) (zA Z)) 105 M 648 [(0, .ref (zad Z 0)), (2, .int a2), (3, .int a3)] [] (f_L_refuses_b648 M a2 a3) := by
  unfold f_L_refuses_b648
  refine h_iconst hC (v := 0) dL_refuses_648 (by decide) ?_
  exact g_L_refuses_b649 hfl hC hNc hlk hrt M a2 a3 0
set_option maxRecDepth 20000 in
set_option maxHeartbeats 4000000 in
theorem g_L_refuses_b462 {p : Program} {l : Launch} {e : Env} {s : State} {m : MethodId} {args : Array Value} {below : List Frame} {meth : Method} {c : Code} {Z : gZ} (hfl : l.stackTraces = false) (hC : gD p s m args c cL_refuses 5 RL Z) (hNc : gNc s) (hlk : meth.locks = false) (hrt : meth.sig.returnType = some .boolean) (M : gM) (a1 : Int32) (a2 : Int32) (a3 : Int32) (t0 : Int32) : gY p l e rm_L_refuses s m args below meth c 5 Z (fun F => vx_MQ below (gQc 1 Z F) (gXc Z F) args s 105 (6 * 105) (zA Z)) 76 M 462 [(0, .ref (zad Z 0)), (1, .int a1), (2, .int a2), (3, .int a3)] [.int t0] (f_L_refuses_b462 M a1 a2 a3 t0) := by
  unfold f_L_refuses_b462
  refine h_istore hC (lv1 := [(4, .int t0), (0, .ref (zad Z 0)), (1, .int a1), (2, .int a2), (3, .int a3)]) dL_refuses_462 (by decide) rfl ?_
  refine h_iload hC 0 dL_refuses_464 rfl ?_
  refine h_if_eq (tgt := 648) hC dL_refuses_466 (by decide) (fun _ => ?_) (fun _ => ?_)
  · refine h_sub (lv1 := [(0, .ref (zad Z 0)), (2, .int a2), (3, .int a3)]) [1, 3, 4] rfl ?_
    refine h_widen (k1 := 105) (Nat.le_of_ble_eq_true rfl) ?_
    exact g_L_refuses_b648 hfl hC hNc hlk hrt M a2 a3
  · refine h_aload_n hC 1 dL_refuses_469 rfl rfl ?_
    refine h_iconst hC (v := 0) dL_refuses_470 (by decide) ?_
    refine h_bipush hC (v := 16) dL_refuses_471 (by decide) ?_
    refine h_callW (n := 3) hC [.ref (zad Z 0), .int 0, .int 16] hNc (c_L_exhibit hfl Z M 0 16) lk_L_288 mw_L_exhibit.1 mw_L_exhibit.2.1 mw_L_exhibit.2.2 ⟨by decide, by decide, by decide +kernel⟩ rfl rfl ⟨by decide, by decide⟩ rfl rfl (Nat.le_of_ble_eq_true rfl) (Nat.le_of_ble_eq_true rfl) (Nat.le_of_ble_eq_true rfl) dL_refuses_473 (fun x2 M1 => ?_)
    refine h_ldc2 hC (v := (-9000000000000000001)) lc_L_33 dL_refuses_476 ?_
    refine h_lcmp_ne (tgt := 648) hC dL_refuses_479 dL_refuses_480 (by decide) (fun _ => ?_) (fun _ => ?_)
    · refine h_aload_n hC 1 dL_refuses_483 rfl rfl ?_
      refine h_bipush hC (v := 12) dL_refuses_484 (by decide) ?_
      refine h_iconst hC (v := 0) dL_refuses_486 (by decide) ?_
      refine h_iconst hC (v := 0) dL_refuses_487 (by decide) ?_
      refine h_callW (n := 4) hC [.ref (zad Z 0), .int 12, .int 0, .int 0] hNc (c_L_hand hfl Z M1 12 0 0) lk_L_290 mw_L_hand.1 mw_L_hand.2.1 mw_L_hand.2.2 ⟨by decide, by decide, by decide +kernel⟩ rfl rfl ⟨by decide, by decide⟩ rfl rfl (Nat.le_of_ble_eq_true rfl) (Nat.le_of_ble_eq_true rfl) (Nat.le_of_ble_eq_true rfl) dL_refuses_488 (fun x4 M3 => ?_)
      refine h_ldc2 hC (v := (-9000000000000000001)) lc_L_33 dL_refuses_491 ?_
      refine h_lcmp_ne (tgt := 648) hC dL_refuses_494 dL_refuses_495 (by decide) (fun _ => ?_) (fun _ => ?_)
      · refine h_aload_n hC 1 dL_refuses_498 rfl rfl ?_
        refine h_bipush hC (v := 12) dL_refuses_499 (by decide) ?_
        refine h_iconst hC (v := 0) dL_refuses_501 (by decide) ?_
        refine h_callW (n := 3) hC [.ref (zad Z 0), .int 12, .int 0] hNc (c_L_object hfl Z M3 12 0) lk_L_292 mw_L_object.1 mw_L_object.2.1 mw_L_object.2.2 ⟨by decide, by decide, by decide +kernel⟩ rfl rfl ⟨by decide, by decide⟩ rfl rfl (Nat.le_of_ble_eq_true rfl) (Nat.le_of_ble_eq_true rfl) (Nat.le_of_ble_eq_true rfl) dL_refuses_502 (fun x6 M5 => ?_)
        refine h_ldc2 hC (v := (-9000000000000000001)) lc_L_33 dL_refuses_505 ?_
        refine h_lcmp_ne (tgt := 648) hC dL_refuses_508 dL_refuses_509 (by decide) (fun _ => ?_) (fun _ => ?_)
        · refine h_aload_n hC 1 dL_refuses_512 rfl rfl ?_
          refine h_iconst hC (v := 0) dL_refuses_513 (by decide) ?_
          refine h_iconst hC (v := 2) dL_refuses_514 (by decide) ?_
          refine h_iconst hC (v := 1) dL_refuses_515 (by decide) ?_
          refine h_callW (n := 4) hC [.ref (zad Z 0), .int 0, .int 2, .int 1] hNc (c_L_sustain hfl Z M5 0 2 1) lk_L_294 mw_L_sustain.1 mw_L_sustain.2.1 mw_L_sustain.2.2 ⟨by decide, by decide, by decide +kernel⟩ rfl rfl ⟨by decide, by decide⟩ rfl rfl (Nat.le_of_ble_eq_true rfl) (Nat.le_of_ble_eq_true rfl) (Nat.le_of_ble_eq_true rfl) dL_refuses_516 (fun x8 M7 => ?_)
          refine h_ldc2 hC (v := (-9000000000000000001)) lc_L_33 dL_refuses_519 ?_
          refine h_lcmp_ne (tgt := 648) hC dL_refuses_522 dL_refuses_523 (by decide) (fun _ => ?_) (fun _ => ?_)
          · refine h_aload_n hC 1 dL_refuses_526 rfl rfl ?_
            refine h_bipush hC (v := 12) dL_refuses_527 (by decide) ?_
            refine h_callW (n := 2) hC [.ref (zad Z 0), .int 12] hNc (c_L_admitted hfl Z M7 12) lk_L_296 mw_L_admitted.1 mw_L_admitted.2.1 mw_L_admitted.2.2 ⟨by decide, by decide, by decide +kernel⟩ rfl rfl ⟨by decide, by decide⟩ rfl rfl (Nat.le_of_ble_eq_true rfl) (Nat.le_of_ble_eq_true rfl) (Nat.le_of_ble_eq_true rfl) dL_refuses_529 (fun x10 M9 => ?_)
            refine h_ldc2 hC (v := (-9000000000000000001)) lc_L_33 dL_refuses_532 ?_
            refine h_lcmp_ne (tgt := 648) hC dL_refuses_535 dL_refuses_536 (by decide) (fun _ => ?_) (fun _ => ?_)
            · refine h_aload_n hC 1 dL_refuses_539 rfl rfl ?_
              refine h_iload_n hC 3 dL_refuses_540 rfl rfl ?_
              refine h_iconst hC (v := 1) dL_refuses_541 (by decide) ?_
              refine h_callW (n := 3) hC [.ref (zad Z 0), .int a2, .int 1] hNc (c_L_seal hfl Z M9 a2 1) lk_L_299 mw_L_seal.1 mw_L_seal.2.1 mw_L_seal.2.2 ⟨by decide, by decide, by decide +kernel⟩ rfl rfl ⟨by decide, by decide⟩ rfl rfl (Nat.le_of_ble_eq_true rfl) (Nat.le_of_ble_eq_true rfl) (Nat.le_of_ble_eq_true rfl) dL_refuses_542 (fun x12 M11 => ?_)
              refine h_ldc2 hC (v := (-9000000000000000001)) lc_L_33 dL_refuses_545 ?_
              refine h_lcmp_ne (tgt := 648) hC dL_refuses_548 dL_refuses_549 (by decide) (fun _ => ?_) (fun _ => ?_)
              · refine h_aload_n hC 1 dL_refuses_552 rfl rfl ?_
                refine h_iload_n hC 3 dL_refuses_553 rfl rfl ?_
                refine h_iconst hC (v := 0) dL_refuses_554 (by decide) ?_
                refine h_iconst hC (v := 0) dL_refuses_555 (by decide) ?_
                refine h_callW (n := 4) hC [.ref (zad Z 0), .int a2, .int 0, .int 0] hNc (c_L_maySee hfl Z M11 a2 0 0) lk_L_221 mw_L_maySee.1 mw_L_maySee.2.1 mw_L_maySee.2.2 ⟨by decide, by decide, by decide +kernel⟩ rfl rfl ⟨by decide, by decide⟩ rfl rfl (Nat.le_of_ble_eq_true rfl) (Nat.le_of_ble_eq_true rfl) (Nat.le_of_ble_eq_true rfl) dL_refuses_556 (fun x14 M13 => ?_)
                refine h_ldc2 hC (v := (-9000000000000000001)) lc_L_33 dL_refuses_559 ?_
                refine h_lcmp_ne (tgt := 648) hC dL_refuses_562 dL_refuses_563 (by decide) (fun _ => ?_) (fun _ => ?_)
                · refine h_aload_n hC 1 dL_refuses_566 rfl rfl ?_
                  refine h_iload_n hC 2 dL_refuses_567 rfl rfl ?_
                  refine h_callW (n := 2) hC [.ref (zad Z 0), .int a1] hNc (c_L_certify hfl Z M13 a1) lk_L_301 mw_L_certify.1 mw_L_certify.2.1 mw_L_certify.2.2 ⟨by decide, by decide, by decide +kernel⟩ rfl rfl ⟨by decide, by decide⟩ rfl rfl (Nat.le_of_ble_eq_true rfl) (Nat.le_of_ble_eq_true rfl) (Nat.le_of_ble_eq_true rfl) dL_refuses_568 (fun x16 M15 => ?_)
                  refine h_ldc2 hC (v := (-9000000000000000001)) lc_L_33 dL_refuses_571 ?_
                  refine h_lcmp_ne (tgt := 648) hC dL_refuses_574 dL_refuses_575 (by decide) (fun _ => ?_) (fun _ => ?_)
                  · refine h_aload_n hC 1 dL_refuses_578 rfl rfl ?_
                    refine h_iload_n hC 2 dL_refuses_579 rfl rfl ?_
                    refine h_iconst hC (v := 0) dL_refuses_580 (by decide) ?_
                    refine h_iconst hC (v := 1) dL_refuses_581 (by decide) ?_
                    refine h_callW (n := 4) hC [.ref (zad Z 0), .int a1, .int 0, .int 1] hNc (c_L_member hfl Z M15 a1 0 1) lk_L_303 mw_L_member.1 mw_L_member.2.1 mw_L_member.2.2 ⟨by decide, by decide, by decide +kernel⟩ rfl rfl ⟨by decide, by decide⟩ rfl rfl (Nat.le_of_ble_eq_true rfl) (Nat.le_of_ble_eq_true rfl) (Nat.le_of_ble_eq_true rfl) dL_refuses_582 (fun x18 M17 => ?_)
                    refine h_ldc2 hC (v := (-9000000000000000001)) lc_L_33 dL_refuses_585 ?_
                    refine h_lcmp_ne (tgt := 648) hC dL_refuses_588 dL_refuses_589 (by decide) (fun _ => ?_) (fun _ => ?_)
                    · refine h_aload_n hC 1 dL_refuses_592 rfl rfl ?_
                      refine h_iconst hC (v := 0) dL_refuses_593 (by decide) ?_
                      refine h_bipush hC (v := 16) dL_refuses_594 (by decide) ?_
                      refine h_callW (n := 3) hC [.ref (zad Z 0), .int 0, .int 16] hNc (c_L_share hfl Z M17 0 16) lk_L_305 mw_L_share.1 mw_L_share.2.1 mw_L_share.2.2 ⟨by decide, by decide, by decide +kernel⟩ rfl rfl ⟨by decide, by decide⟩ rfl rfl (Nat.le_of_ble_eq_true rfl) (Nat.le_of_ble_eq_true rfl) (Nat.le_of_ble_eq_true rfl) dL_refuses_596 (fun x20 M19 => ?_)
                      refine h_ldc2 hC (v := (-9000000000000000001)) lc_L_33 dL_refuses_599 ?_
                      refine h_lcmp_ne (tgt := 648) hC dL_refuses_602 dL_refuses_603 (by decide) (fun _ => ?_) (fun _ => ?_)
                      · refine h_aload_n hC 1 dL_refuses_606 rfl rfl ?_
                        refine h_iconst hC (v := 4) dL_refuses_607 (by decide) ?_
                        refine h_iconst hC (v := 0) dL_refuses_608 (by decide) ?_
                        refine h_callW (n := 3) hC [.ref (zad Z 0), .int 4, .int 0] hNc (c_L_due hfl Z M19 4 0) lk_L_199 mw_L_due.1 mw_L_due.2.1 mw_L_due.2.2 ⟨by decide, by decide, by decide +kernel⟩ rfl rfl ⟨by decide, by decide⟩ rfl rfl (Nat.le_of_ble_eq_true rfl) (Nat.le_of_ble_eq_true rfl) (Nat.le_of_ble_eq_true rfl) dL_refuses_609 (fun x22 M21 => ?_)
                        refine h_ldc2 hC (v := (-9000000000000000001)) lc_L_33 dL_refuses_612 ?_
                        refine h_lcmp_ne (tgt := 648) hC dL_refuses_615 dL_refuses_616 (by decide) (fun _ => ?_) (fun _ => ?_)
                        · refine h_aload_n hC 1 dL_refuses_619 rfl rfl ?_
                          refine h_iconst hC (v := (-1)) dL_refuses_620 (by decide) ?_
                          refine h_iconst hC (v := 0) dL_refuses_621 (by decide) ?_
                          refine h_callW (n := 3) hC [.ref (zad Z 0), .int (-1), .int 0] hNc (c_L_dueByDays hfl Z M21 (-1) 0) lk_L_202 mw_L_dueByDays.1 mw_L_dueByDays.2.1 mw_L_dueByDays.2.2 ⟨by decide, by decide, by decide +kernel⟩ rfl rfl ⟨by decide, by decide⟩ rfl rfl (Nat.le_of_ble_eq_true rfl) (Nat.le_of_ble_eq_true rfl) (Nat.le_of_ble_eq_true rfl) dL_refuses_622 (fun x24 M23 => ?_)
                          refine h_ldc2 hC (v := (-9000000000000000001)) lc_L_33 dL_refuses_625 ?_
                          refine h_lcmp_ne (tgt := 648) hC dL_refuses_628 dL_refuses_629 (by decide) (fun _ => ?_) (fun _ => ?_)
                          · refine h_aload_n hC 1 dL_refuses_632 rfl rfl ?_
                            refine h_iload_n hC 2 dL_refuses_633 rfl rfl ?_
                            refine h_callW (n := 2) hC [.ref (zad Z 0), .int a1] hNc (c_L_answered hfl Z M23 a1) lk_L_307 mw_L_answered.1 mw_L_answered.2.1 mw_L_answered.2.2 ⟨by decide, by decide, by decide +kernel⟩ rfl rfl ⟨by decide, by decide⟩ rfl rfl (Nat.le_of_ble_eq_true rfl) (Nat.le_of_ble_eq_true rfl) (Nat.le_of_ble_eq_true rfl) dL_refuses_634 (fun x26 M25 => ?_)
                            refine h_ldc2 hC (v := (-9000000000000000001)) lc_L_33 dL_refuses_637 ?_
                            refine h_lcmp_ne (tgt := 648) hC dL_refuses_640 dL_refuses_641 (by decide) (fun _ => ?_) (fun _ => ?_)
                            · refine h_iconst hC (v := 1) dL_refuses_644 (by decide) ?_
                              refine h_goto (tgt := 649) hC dL_refuses_645 (by decide) ?_
                              refine h_sub (lv1 := [(0, .ref (zad Z 0)), (2, .int a2), (3, .int a3)]) [1, 3, 4] rfl ?_
                              exact g_L_refuses_b649 hfl hC hNc hlk hrt M25 a2 a3 1
                            · refine h_sub (lv1 := [(0, .ref (zad Z 0)), (2, .int a2), (3, .int a3)]) [1, 3, 4] rfl ?_
                              exact g_L_refuses_b648 hfl hC hNc hlk hrt M25 a2 a3
                          · refine h_sub (lv1 := [(0, .ref (zad Z 0)), (2, .int a2), (3, .int a3)]) [1, 3, 4] rfl ?_
                            refine h_widen (k1 := 105) (Nat.le_of_ble_eq_true rfl) ?_
                            exact g_L_refuses_b648 hfl hC hNc hlk hrt M23 a2 a3
                        · refine h_sub (lv1 := [(0, .ref (zad Z 0)), (2, .int a2), (3, .int a3)]) [1, 3, 4] rfl ?_
                          refine h_widen (k1 := 105) (Nat.le_of_ble_eq_true rfl) ?_
                          exact g_L_refuses_b648 hfl hC hNc hlk hrt M21 a2 a3
                      · refine h_sub (lv1 := [(0, .ref (zad Z 0)), (2, .int a2), (3, .int a3)]) [1, 3, 4] rfl ?_
                        refine h_widen (k1 := 105) (Nat.le_of_ble_eq_true rfl) ?_
                        exact g_L_refuses_b648 hfl hC hNc hlk hrt M19 a2 a3
                    · refine h_sub (lv1 := [(0, .ref (zad Z 0)), (2, .int a2), (3, .int a3)]) [1, 3, 4] rfl ?_
                      refine h_widen (k1 := 105) (Nat.le_of_ble_eq_true rfl) ?_
                      exact g_L_refuses_b648 hfl hC hNc hlk hrt M17 a2 a3
                  · refine h_sub (lv1 := [(0, .ref (zad Z 0)), (2, .int a2), (3, .int a3)]) [1, 3, 4] rfl ?_
                    refine h_widen (k1 := 105) (Nat.le_of_ble_eq_true rfl) ?_
                    exact g_L_refuses_b648 hfl hC hNc hlk hrt M15 a2 a3
                · refine h_sub (lv1 := [(0, .ref (zad Z 0)), (2, .int a2), (3, .int a3)]) [1, 3, 4] rfl ?_
                  refine h_widen (k1 := 105) (Nat.le_of_ble_eq_true rfl) ?_
                  exact g_L_refuses_b648 hfl hC hNc hlk hrt M13 a2 a3
              · refine h_sub (lv1 := [(0, .ref (zad Z 0)), (2, .int a2), (3, .int a3)]) [1, 3, 4] rfl ?_
                refine h_widen (k1 := 105) (Nat.le_of_ble_eq_true rfl) ?_
                exact g_L_refuses_b648 hfl hC hNc hlk hrt M11 a2 a3
            · refine h_sub (lv1 := [(0, .ref (zad Z 0)), (2, .int a2), (3, .int a3)]) [1, 3, 4] rfl ?_
              refine h_widen (k1 := 105) (Nat.le_of_ble_eq_true rfl) ?_
              exact g_L_refuses_b648 hfl hC hNc hlk hrt M9 a2 a3
          · refine h_sub (lv1 := [(0, .ref (zad Z 0)), (2, .int a2), (3, .int a3)]) [1, 3, 4] rfl ?_
            refine h_widen (k1 := 105) (Nat.le_of_ble_eq_true rfl) ?_
            exact g_L_refuses_b648 hfl hC hNc hlk hrt M7 a2 a3
        · refine h_sub (lv1 := [(0, .ref (zad Z 0)), (2, .int a2), (3, .int a3)]) [1, 3, 4] rfl ?_
          refine h_widen (k1 := 105) (Nat.le_of_ble_eq_true rfl) ?_
          exact g_L_refuses_b648 hfl hC hNc hlk hrt M5 a2 a3
      · refine h_sub (lv1 := [(0, .ref (zad Z 0)), (2, .int a2), (3, .int a3)]) [1, 3, 4] rfl ?_
        refine h_widen (k1 := 105) (Nat.le_of_ble_eq_true rfl) ?_
        exact g_L_refuses_b648 hfl hC hNc hlk hrt M3 a2 a3
    · refine h_sub (lv1 := [(0, .ref (zad Z 0)), (2, .int a2), (3, .int a3)]) [1, 3, 4] rfl ?_
      refine h_widen (k1 := 105) (Nat.le_of_ble_eq_true rfl) ?_
      exact g_L_refuses_b648 hfl hC hNc hlk hrt M1 a2 a3
set_option maxRecDepth 20000 in
set_option maxHeartbeats 4000000 in
theorem g_L_refuses_b461 {p : Program} {l : Launch} {e : Env} {s : State} {m : MethodId} {args : Array Value} {below : List Frame} {meth : Method} {c : Code} {Z : gZ} (hfl : l.stackTraces = false) (hC : gD p s m args c cL_refuses 5 RL Z) (hNc : gNc s) (hlk : meth.locks = false) (hrt : meth.sig.returnType = some .boolean) (M : gM) (a1 : Int32) (a2 : Int32) (a3 : Int32) : gY p l e rm_L_refuses s m args below meth c 5 Z (fun F => vx_MQ below (gQc 1 Z F) (gXc Z F) args s 105 (6 * 105) (zA Z)) 76 M 461 [(0, .ref (zad Z 0)), (1, .int a1), (2, .int a2), (3, .int a3)] [] (f_L_refuses_b461 M a1 a2 a3) := by
  unfold f_L_refuses_b461
  refine h_iconst hC (v := 0) dL_refuses_461 (by decide) ?_
  exact g_L_refuses_b462 hfl hC hNc hlk hrt M a1 a2 a3 0
set_option maxRecDepth 20000 in
set_option maxHeartbeats 4000000 in
theorem g_L_refuses_b238 {p : Program} {l : Launch} {e : Env} {s : State} {m : MethodId} {args : Array Value} {below : List Frame} {meth : Method} {c : Code} {Z : gZ} (hfl : l.stackTraces = false) (hC : gD p s m args c cL_refuses 5 RL Z) (hNc : gNc s) (hlk : meth.locks = false) (hrt : meth.sig.returnType = some .boolean) (M : gM) (a1 : Int32) (a2 : Int32) (a3 : Int32) (t0 : Int32) : gY p l e rm_L_refuses s m args below meth c 5 Z (fun F => vx_MQ below (gQc 1 Z F) (gXc Z F) args s 105 (6 * 105) (zA Z)) 37 M 238 [(0, .ref (zad Z 0)), (1, .int a1), (2, .int a2), (3, .int a3)] [.int t0] (f_L_refuses_b238 M a1 a2 a3 t0) := by
  unfold f_L_refuses_b238
  refine h_istore hC (lv1 := [(4, .int t0), (0, .ref (zad Z 0)), (1, .int a1), (2, .int a2), (3, .int a3)]) dL_refuses_238 (by decide) rfl ?_
  refine h_iload hC 0 dL_refuses_240 rfl ?_
  refine h_if_eq (tgt := 461) hC dL_refuses_242 (by decide) (fun _ => ?_) (fun _ => ?_)
  · refine h_sub (lv1 := [(0, .ref (zad Z 0)), (1, .int a1), (2, .int a2), (3, .int a3)]) [1, 2, 3, 4] rfl ?_
    refine h_widen (k1 := 76) (Nat.le_of_ble_eq_true rfl) ?_
    exact g_L_refuses_b461 hfl hC hNc hlk hrt M a1 a2 a3
  · refine h_aload_n hC 1 dL_refuses_245 rfl rfl ?_
    refine h_iload_n hC 2 dL_refuses_246 rfl rfl ?_
    refine h_callW (n := 2) hC [.ref (zad Z 0), .int a1] hNc (c_L_vacate hfl Z M a1) lk_L_256 mw_L_vacate.1 mw_L_vacate.2.1 mw_L_vacate.2.2 ⟨by decide, by decide, by decide +kernel⟩ rfl rfl ⟨by decide, by decide⟩ rfl rfl (Nat.le_of_ble_eq_true rfl) (Nat.le_of_ble_eq_true rfl) (Nat.le_of_ble_eq_true rfl) dL_refuses_247 (fun x2 M1 => ?_)
    refine h_ldc2 hC (v := (-9000000000000000001)) lc_L_33 dL_refuses_250 ?_
    refine h_lcmp_ne (tgt := 461) hC dL_refuses_253 dL_refuses_254 (by decide) (fun _ => ?_) (fun _ => ?_)
    · refine h_aload_n hC 1 dL_refuses_257 rfl rfl ?_
      refine h_iconst hC (v := (-1)) dL_refuses_258 (by decide) ?_
      refine h_callW (n := 2) hC [.ref (zad Z 0), .int (-1)] hNc (c_L_appeal hfl Z M1 (-1)) lk_L_258 mw_L_appeal.1 mw_L_appeal.2.1 mw_L_appeal.2.2 ⟨by decide, by decide, by decide +kernel⟩ rfl rfl ⟨by decide, by decide⟩ rfl rfl (Nat.le_of_ble_eq_true rfl) (Nat.le_of_ble_eq_true rfl) (Nat.le_of_ble_eq_true rfl) dL_refuses_259 (fun x4 M3 => ?_)
      refine h_ldc2 hC (v := (-9000000000000000001)) lc_L_33 dL_refuses_262 ?_
      refine h_lcmp_ne (tgt := 461) hC dL_refuses_265 dL_refuses_266 (by decide) (fun _ => ?_) (fun _ => ?_)
      · refine h_aload_n hC 1 dL_refuses_269 rfl rfl ?_
        refine h_iload_n hC 2 dL_refuses_270 rfl rfl ?_
        refine h_iconst hC (v := 3) dL_refuses_271 (by decide) ?_
        refine h_iconst hC (v := 0) dL_refuses_272 (by decide) ?_
        refine h_callW (n := 4) hC [.ref (zad Z 0), .int a1, .int 3, .int 0] hNc (c_L_decide hfl Z M3 a1 3 0) lk_L_260 mw_L_decide.1 mw_L_decide.2.1 mw_L_decide.2.2 ⟨by decide, by decide, by decide +kernel⟩ rfl rfl ⟨by decide, by decide⟩ rfl rfl (Nat.le_of_ble_eq_true rfl) (Nat.le_of_ble_eq_true rfl) (Nat.le_of_ble_eq_true rfl) dL_refuses_273 (fun x6 M5 => ?_)
        refine h_ldc2 hC (v := (-9000000000000000001)) lc_L_33 dL_refuses_276 ?_
        refine h_lcmp_ne (tgt := 461) hC dL_refuses_279 dL_refuses_280 (by decide) (fun _ => ?_) (fun _ => ?_)
        · refine h_aload_n hC 1 dL_refuses_283 rfl rfl ?_
          refine h_iload_n hC 2 dL_refuses_284 rfl rfl ?_
          refine h_callW (n := 2) hC [.ref (zad Z 0), .int a1] hNc (c_L_settle hfl Z M5 a1) lk_L_262 mw_L_settle.1 mw_L_settle.2.1 mw_L_settle.2.2 ⟨by decide, by decide, by decide +kernel⟩ rfl rfl ⟨by decide, by decide⟩ rfl rfl (Nat.le_of_ble_eq_true rfl) (Nat.le_of_ble_eq_true rfl) (Nat.le_of_ble_eq_true rfl) dL_refuses_285 (fun x8 M7 => ?_)
          refine h_ldc2 hC (v := (-9000000000000000001)) lc_L_33 dL_refuses_288 ?_
          refine h_lcmp_ne (tgt := 461) hC dL_refuses_291 dL_refuses_292 (by decide) (fun _ => ?_) (fun _ => ?_)
          · refine h_aload_n hC 1 dL_refuses_295 rfl rfl ?_
            refine h_iload_n hC 2 dL_refuses_296 rfl rfl ?_
            refine h_iconst hC (v := 0) dL_refuses_297 (by decide) ?_
            refine h_callW (n := 3) hC [.ref (zad Z 0), .int a1, .int 0] hNc (c_L_pay hfl Z M7 a1 0) lk_L_264 mw_L_pay.1 mw_L_pay.2.1 mw_L_pay.2.2 ⟨by decide, by decide, by decide +kernel⟩ rfl rfl ⟨by decide, by decide⟩ rfl rfl (Nat.le_of_ble_eq_true rfl) (Nat.le_of_ble_eq_true rfl) (Nat.le_of_ble_eq_true rfl) dL_refuses_298 (fun x10 M9 => ?_)
            refine h_ldc2 hC (v := (-9000000000000000001)) lc_L_33 dL_refuses_301 ?_
            refine h_lcmp_ne (tgt := 461) hC dL_refuses_304 dL_refuses_305 (by decide) (fun _ => ?_) (fun _ => ?_)
            · refine h_aload_n hC 1 dL_refuses_308 rfl rfl ?_
              refine h_bipush hC (v := 8) dL_refuses_309 (by decide) ?_
              refine h_iconst hC (v := 1) dL_refuses_311 (by decide) ?_
              refine h_callW (n := 3) hC [.ref (zad Z 0), .int 8, .int 1] hNc (c_L_stay hfl Z M9 8 1) lk_L_266 mw_L_stay.1 mw_L_stay.2.1 mw_L_stay.2.2 ⟨by decide, by decide, by decide +kernel⟩ rfl rfl ⟨by decide, by decide⟩ rfl rfl (Nat.le_of_ble_eq_true rfl) (Nat.le_of_ble_eq_true rfl) (Nat.le_of_ble_eq_true rfl) dL_refuses_312 (fun x12 M11 => ?_)
              refine h_ldc2 hC (v := (-9000000000000000001)) lc_L_33 dL_refuses_315 ?_
              refine h_lcmp_ne (tgt := 461) hC dL_refuses_318 dL_refuses_319 (by decide) (fun _ => ?_) (fun _ => ?_)
              · refine h_aload_n hC 1 dL_refuses_322 rfl rfl ?_
                refine h_iload_n hC 3 dL_refuses_323 rfl rfl ?_
                refine h_callW (n := 2) hC [.ref (zad Z 0), .int a2] hNc (c_L_defect hfl Z M11 a2) lk_L_269 mw_L_defect.1 mw_L_defect.2.1 mw_L_defect.2.2 ⟨by decide, by decide, by decide +kernel⟩ rfl rfl ⟨by decide, by decide⟩ rfl rfl (Nat.le_of_ble_eq_true rfl) (Nat.le_of_ble_eq_true rfl) (Nat.le_of_ble_eq_true rfl) dL_refuses_324 (fun x14 M13 => ?_)
                refine h_ldc2 hC (v := (-9000000000000000001)) lc_L_33 dL_refuses_327 ?_
                refine h_lcmp_ne (tgt := 461) hC dL_refuses_330 dL_refuses_331 (by decide) (fun _ => ?_) (fun _ => ?_)
                · refine h_aload_n hC 1 dL_refuses_334 rfl rfl ?_
                  refine h_iconst hC (v := (-1)) dL_refuses_335 (by decide) ?_
                  refine h_callW (n := 2) hC [.ref (zad Z 0), .int (-1)] hNc (c_L_cure hfl Z M13 (-1)) lk_L_271 mw_L_cure.1 mw_L_cure.2.1 mw_L_cure.2.2 ⟨by decide, by decide, by decide +kernel⟩ rfl rfl ⟨by decide, by decide⟩ rfl rfl (Nat.le_of_ble_eq_true rfl) (Nat.le_of_ble_eq_true rfl) (Nat.le_of_ble_eq_true rfl) dL_refuses_336 (fun x16 M15 => ?_)
                  refine h_ldc2 hC (v := (-9000000000000000001)) lc_L_33 dL_refuses_339 ?_
                  refine h_lcmp_ne (tgt := 461) hC dL_refuses_342 dL_refuses_343 (by decide) (fun _ => ?_) (fun _ => ?_)
                  · refine h_aload_n hC 1 dL_refuses_346 rfl rfl ?_
                    refine h_iconst hC (v := 3) dL_refuses_347 (by decide) ?_
                    refine h_iconst hC (v := 0) dL_refuses_348 (by decide) ?_
                    refine h_iconst hC (v := 1) dL_refuses_349 (by decide) ?_
                    refine h_callW (n := 4) hC [.ref (zad Z 0), .int 3, .int 0, .int 1] hNc (c_L_extend hfl Z M15 3 0 1) lk_L_273 mw_L_extend.1 mw_L_extend.2.1 mw_L_extend.2.2 ⟨by decide, by decide, by decide +kernel⟩ rfl rfl ⟨by decide, by decide⟩ rfl rfl (Nat.le_of_ble_eq_true rfl) (Nat.le_of_ble_eq_true rfl) (Nat.le_of_ble_eq_true rfl) dL_refuses_350 (fun x18 M17 => ?_)
                    refine h_ldc2 hC (v := (-9000000000000000001)) lc_L_33 dL_refuses_353 ?_
                    refine h_lcmp_ne (tgt := 461) hC dL_refuses_356 dL_refuses_357 (by decide) (fun _ => ?_) (fun _ => ?_)
                    · refine h_aload_n hC 1 dL_refuses_360 rfl rfl ?_
                      refine h_iconst hC (v := 0) dL_refuses_361 (by decide) ?_
                      refine h_iload_n hC 2 dL_refuses_362 rfl rfl ?_
                      refine h_iconst hC (v := 0) dL_refuses_363 (by decide) ?_
                      refine h_callW (n := 4) hC [.ref (zad Z 0), .int 0, .int a1, .int 0] hNc (c_L_extend hfl Z M17 0 a1 0) lk_L_273 mw_L_extend.1 mw_L_extend.2.1 mw_L_extend.2.2 ⟨by decide, by decide, by decide +kernel⟩ rfl rfl ⟨by decide, by decide⟩ rfl rfl (Nat.le_of_ble_eq_true rfl) (Nat.le_of_ble_eq_true rfl) (Nat.le_of_ble_eq_true rfl) dL_refuses_364 (fun x20 M19 => ?_)
                      refine h_ldc2 hC (v := (-9000000000000000001)) lc_L_33 dL_refuses_367 ?_
                      refine h_lcmp_ne (tgt := 461) hC dL_refuses_370 dL_refuses_371 (by decide) (fun _ => ?_) (fun _ => ?_)
                      · refine h_aload_n hC 1 dL_refuses_374 rfl rfl ?_
                        refine h_bipush hC (v := 8) dL_refuses_375 (by decide) ?_
                        refine h_iconst hC (v := 0) dL_refuses_377 (by decide) ?_
                        refine h_iconst hC (v := 0) dL_refuses_378 (by decide) ?_
                        refine h_callW (n := 4) hC [.ref (zad Z 0), .int 8, .int 0, .int 0] hNc (c_L_hearing hfl Z M19 8 0 0) lk_L_275 mw_L_hearing.1 mw_L_hearing.2.1 mw_L_hearing.2.2 ⟨by decide, by decide, by decide +kernel⟩ rfl rfl ⟨by decide, by decide⟩ rfl rfl (Nat.le_of_ble_eq_true rfl) (Nat.le_of_ble_eq_true rfl) (Nat.le_of_ble_eq_true rfl) dL_refuses_379 (fun x22 M21 => ?_)
                        refine h_ldc2 hC (v := (-9000000000000000001)) lc_L_33 dL_refuses_382 ?_
                        refine h_lcmp_ne (tgt := 461) hC dL_refuses_385 dL_refuses_386 (by decide) (fun _ => ?_) (fun _ => ?_)
                        · refine h_aload_n hC 1 dL_refuses_389 rfl rfl ?_
                          refine h_bipush hC (v := 40) dL_refuses_390 (by decide) ?_
                          refine h_callW (n := 2) hC [.ref (zad Z 0), .int 40] hNc (c_L_goesOn hfl Z M21 40) lk_L_277 mw_L_goesOn.1 mw_L_goesOn.2.1 mw_L_goesOn.2.2 ⟨by decide, by decide, by decide +kernel⟩ rfl rfl ⟨by decide, by decide⟩ rfl rfl (Nat.le_of_ble_eq_true rfl) (Nat.le_of_ble_eq_true rfl) (Nat.le_of_ble_eq_true rfl) dL_refuses_392 (fun x24 M23 => ?_)
                          refine h_ldc2 hC (v := (-9000000000000000001)) lc_L_33 dL_refuses_395 ?_
                          refine h_lcmp_ne (tgt := 461) hC dL_refuses_398 dL_refuses_399 (by decide) (fun _ => ?_) (fun _ => ?_)
                          · refine h_aload_n hC 1 dL_refuses_402 rfl rfl ?_
                            refine h_bipush hC (v := 40) dL_refuses_403 (by decide) ?_
                            refine h_callW (n := 2) hC [.ref (zad Z 0), .int 40] hNc (c_L_hearingAt hfl Z M23 40) lk_L_280 mw_L_hearingAt.1 mw_L_hearingAt.2.1 mw_L_hearingAt.2.2 ⟨by decide, by decide, by decide +kernel⟩ rfl rfl ⟨by decide, by decide⟩ rfl rfl (Nat.le_of_ble_eq_true rfl) (Nat.le_of_ble_eq_true rfl) (Nat.le_of_ble_eq_true rfl) dL_refuses_405 (fun x26 M25 => ?_)
                            refine h_ldc2 hC (v := (-9000000000000000001)) lc_L_33 dL_refuses_408 ?_
                            refine h_lcmp_ne (tgt := 461) hC dL_refuses_411 dL_refuses_412 (by decide) (fun _ => ?_) (fun _ => ?_)
                            · refine h_aload_n hC 1 dL_refuses_415 rfl rfl ?_
                              refine h_iconst hC (v := 0) dL_refuses_416 (by decide) ?_
                              refine h_iconst hC (v := 2) dL_refuses_417 (by decide) ?_
                              refine h_iconst hC (v := 0) dL_refuses_418 (by decide) ?_
                              refine h_callW (n := 4) hC [.ref (zad Z 0), .int 0, .int 2, .int 0] hNc (c_L_strike hfl Z M25 0 2 0) lk_L_282 mw_L_strike.1 mw_L_strike.2.1 mw_L_strike.2.2 ⟨by decide, by decide, by decide +kernel⟩ rfl rfl ⟨by decide, by decide⟩ rfl rfl (Nat.le_of_ble_eq_true rfl) (Nat.le_of_ble_eq_true rfl) (Nat.le_of_ble_eq_true rfl) dL_refuses_419 (fun x28 M27 => ?_)
                              refine h_ldc2 hC (v := (-9000000000000000001)) lc_L_33 dL_refuses_422 ?_
                              refine h_lcmp_ne (tgt := 461) hC dL_refuses_425 dL_refuses_426 (by decide) (fun _ => ?_) (fun _ => ?_)
                              · refine h_aload_n hC 1 dL_refuses_429 rfl rfl ?_
                                refine h_iconst hC (v := 0) dL_refuses_430 (by decide) ?_
                                refine h_bipush hC (v := 14) dL_refuses_431 (by decide) ?_
                                refine h_callW (n := 3) hC [.ref (zad Z 0), .int 0, .int 14] hNc (c_L_dismiss hfl Z M27 0 14) lk_L_284 mw_L_dismiss.1 mw_L_dismiss.2.1 mw_L_dismiss.2.2 ⟨by decide, by decide, by decide +kernel⟩ rfl rfl ⟨by decide, by decide⟩ rfl rfl (Nat.le_of_ble_eq_true rfl) (Nat.le_of_ble_eq_true rfl) (Nat.le_of_ble_eq_true rfl) dL_refuses_433 (fun x30 M29 => ?_)
                                refine h_ldc2 hC (v := (-9000000000000000001)) lc_L_33 dL_refuses_436 ?_
                                refine h_lcmp_ne (tgt := 461) hC dL_refuses_439 dL_refuses_440 (by decide) (fun _ => ?_) (fun _ => ?_)
                                · refine h_aload_n hC 1 dL_refuses_443 rfl rfl ?_
                                  refine h_iconst hC (v := 0) dL_refuses_444 (by decide) ?_
                                  refine h_bipush hC (v := 7) dL_refuses_445 (by decide) ?_
                                  refine h_callW (n := 3) hC [.ref (zad Z 0), .int 0, .int 7] hNc (c_L_seat hfl Z M29 0 7) lk_L_286 mw_L_seat.1 mw_L_seat.2.1 mw_L_seat.2.2 ⟨by decide, by decide, by decide +kernel⟩ rfl rfl ⟨by decide, by decide⟩ rfl rfl (Nat.le_of_ble_eq_true rfl) (Nat.le_of_ble_eq_true rfl) (Nat.le_of_ble_eq_true rfl) dL_refuses_447 (fun x32 M31 => ?_)
                                  refine h_ldc2 hC (v := (-9000000000000000001)) lc_L_33 dL_refuses_450 ?_
                                  refine h_lcmp_ne (tgt := 461) hC dL_refuses_453 dL_refuses_454 (by decide) (fun _ => ?_) (fun _ => ?_)
                                  · refine h_iconst hC (v := 1) dL_refuses_457 (by decide) ?_
                                    refine h_goto (tgt := 462) hC dL_refuses_458 (by decide) ?_
                                    refine h_sub (lv1 := [(0, .ref (zad Z 0)), (1, .int a1), (2, .int a2), (3, .int a3)]) [1, 2, 3, 4] rfl ?_
                                    exact g_L_refuses_b462 hfl hC hNc hlk hrt M31 a1 a2 a3 1
                                  · refine h_sub (lv1 := [(0, .ref (zad Z 0)), (1, .int a1), (2, .int a2), (3, .int a3)]) [1, 2, 3, 4] rfl ?_
                                    exact g_L_refuses_b461 hfl hC hNc hlk hrt M31 a1 a2 a3
                                · refine h_sub (lv1 := [(0, .ref (zad Z 0)), (1, .int a1), (2, .int a2), (3, .int a3)]) [1, 2, 3, 4] rfl ?_
                                  refine h_widen (k1 := 76) (Nat.le_of_ble_eq_true rfl) ?_
                                  exact g_L_refuses_b461 hfl hC hNc hlk hrt M29 a1 a2 a3
                              · refine h_sub (lv1 := [(0, .ref (zad Z 0)), (1, .int a1), (2, .int a2), (3, .int a3)]) [1, 2, 3, 4] rfl ?_
                                refine h_widen (k1 := 76) (Nat.le_of_ble_eq_true rfl) ?_
                                exact g_L_refuses_b461 hfl hC hNc hlk hrt M27 a1 a2 a3
                            · refine h_sub (lv1 := [(0, .ref (zad Z 0)), (1, .int a1), (2, .int a2), (3, .int a3)]) [1, 2, 3, 4] rfl ?_
                              refine h_widen (k1 := 76) (Nat.le_of_ble_eq_true rfl) ?_
                              exact g_L_refuses_b461 hfl hC hNc hlk hrt M25 a1 a2 a3
                          · refine h_sub (lv1 := [(0, .ref (zad Z 0)), (1, .int a1), (2, .int a2), (3, .int a3)]) [1, 2, 3, 4] rfl ?_
                            refine h_widen (k1 := 76) (Nat.le_of_ble_eq_true rfl) ?_
                            exact g_L_refuses_b461 hfl hC hNc hlk hrt M23 a1 a2 a3
                        · refine h_sub (lv1 := [(0, .ref (zad Z 0)), (1, .int a1), (2, .int a2), (3, .int a3)]) [1, 2, 3, 4] rfl ?_
                          refine h_widen (k1 := 76) (Nat.le_of_ble_eq_true rfl) ?_
                          exact g_L_refuses_b461 hfl hC hNc hlk hrt M21 a1 a2 a3
                      · refine h_sub (lv1 := [(0, .ref (zad Z 0)), (1, .int a1), (2, .int a2), (3, .int a3)]) [1, 2, 3, 4] rfl ?_
                        refine h_widen (k1 := 76) (Nat.le_of_ble_eq_true rfl) ?_
                        exact g_L_refuses_b461 hfl hC hNc hlk hrt M19 a1 a2 a3
                    · refine h_sub (lv1 := [(0, .ref (zad Z 0)), (1, .int a1), (2, .int a2), (3, .int a3)]) [1, 2, 3, 4] rfl ?_
                      refine h_widen (k1 := 76) (Nat.le_of_ble_eq_true rfl) ?_
                      exact g_L_refuses_b461 hfl hC hNc hlk hrt M17 a1 a2 a3
                  · refine h_sub (lv1 := [(0, .ref (zad Z 0)), (1, .int a1), (2, .int a2), (3, .int a3)]) [1, 2, 3, 4] rfl ?_
                    refine h_widen (k1 := 76) (Nat.le_of_ble_eq_true rfl) ?_
                    exact g_L_refuses_b461 hfl hC hNc hlk hrt M15 a1 a2 a3
                · refine h_sub (lv1 := [(0, .ref (zad Z 0)), (1, .int a1), (2, .int a2), (3, .int a3)]) [1, 2, 3, 4] rfl ?_
                  refine h_widen (k1 := 76) (Nat.le_of_ble_eq_true rfl) ?_
                  exact g_L_refuses_b461 hfl hC hNc hlk hrt M13 a1 a2 a3
              · refine h_sub (lv1 := [(0, .ref (zad Z 0)), (1, .int a1), (2, .int a2), (3, .int a3)]) [1, 2, 3, 4] rfl ?_
                refine h_widen (k1 := 76) (Nat.le_of_ble_eq_true rfl) ?_
                exact g_L_refuses_b461 hfl hC hNc hlk hrt M11 a1 a2 a3
            · refine h_sub (lv1 := [(0, .ref (zad Z 0)), (1, .int a1), (2, .int a2), (3, .int a3)]) [1, 2, 3, 4] rfl ?_
              refine h_widen (k1 := 76) (Nat.le_of_ble_eq_true rfl) ?_
              exact g_L_refuses_b461 hfl hC hNc hlk hrt M9 a1 a2 a3
          · refine h_sub (lv1 := [(0, .ref (zad Z 0)), (1, .int a1), (2, .int a2), (3, .int a3)]) [1, 2, 3, 4] rfl ?_
            refine h_widen (k1 := 76) (Nat.le_of_ble_eq_true rfl) ?_
            exact g_L_refuses_b461 hfl hC hNc hlk hrt M7 a1 a2 a3
        · refine h_sub (lv1 := [(0, .ref (zad Z 0)), (1, .int a1), (2, .int a2), (3, .int a3)]) [1, 2, 3, 4] rfl ?_
          refine h_widen (k1 := 76) (Nat.le_of_ble_eq_true rfl) ?_
          exact g_L_refuses_b461 hfl hC hNc hlk hrt M5 a1 a2 a3
      · refine h_sub (lv1 := [(0, .ref (zad Z 0)), (1, .int a1), (2, .int a2), (3, .int a3)]) [1, 2, 3, 4] rfl ?_
        refine h_widen (k1 := 76) (Nat.le_of_ble_eq_true rfl) ?_
        exact g_L_refuses_b461 hfl hC hNc hlk hrt M3 a1 a2 a3
    · refine h_sub (lv1 := [(0, .ref (zad Z 0)), (1, .int a1), (2, .int a2), (3, .int a3)]) [1, 2, 3, 4] rfl ?_
      refine h_widen (k1 := 76) (Nat.le_of_ble_eq_true rfl) ?_
      exact g_L_refuses_b461 hfl hC hNc hlk hrt M1 a1 a2 a3
set_option maxRecDepth 20000 in
set_option maxHeartbeats 4000000 in
theorem g_L_refuses_b237 {p : Program} {l : Launch} {e : Env} {s : State} {m : MethodId} {args : Array Value} {below : List Frame} {meth : Method} {c : Code} {Z : gZ} (hfl : l.stackTraces = false) (hC : gD p s m args c cL_refuses 5 RL Z) (hNc : gNc s) (hlk : meth.locks = false) (hrt : meth.sig.returnType = some .boolean) (M : gM) (a1 : Int32) (a2 : Int32) (a3 : Int32) : gY p l e rm_L_refuses s m args below meth c 5 Z (fun F => vx_MQ below (gQc 1 Z F) (gXc Z F) args s 105 (6 * 105) (zA Z)) 37 M 237 [(0, .ref (zad Z 0)), (1, .int a1), (2, .int a2), (3, .int a3)] [] (f_L_refuses_b237 M a1 a2 a3) := by
  unfold f_L_refuses_b237
  refine h_iconst hC (v := 0) dL_refuses_237 (by decide) ?_
  exact g_L_refuses_b238 hfl hC hNc hlk hrt M a1 a2 a3 0
set_option maxRecDepth 20000 in
set_option maxHeartbeats 4000000 in
theorem c_L_refuses {l : Launch} (hfl : l.stackTraces = false) (Z : gZ) (M : gM) (a1 : Int32) : gMetB l yL_refuses cL_refuses 5 rm_L_refuses 105 Z M [.ref (zad Z 0), .int a1] (f_L_refuses M a1) := by
  refine h_enter (by decide) (Nat.le_of_ble_eq_true rfl) (fun p e s m args below meth c hC hNc hlk hrt => ?_)
  refine h_lv0 (lv1 := [(0, .ref (zad Z 0)), (1, .int a1)]) rfl ?_
  unfold f_L_refuses
  refine h_aload_n hC 0 dL_refuses_0 rfl rfl ?_
  refine h_callN (n := 0) hC [] 0 8 (by decide) rfl rfl (c_X8_entries hfl Z M ) lk_L_206 mw_X8_entries.1 mw_X8_entries.2.1 mw_X8_entries.2.2.1 mw_X8_entries.2.2.2 ⟨rfl, by decide, by decide, by decide +kernel⟩ rfl rfl ⟨by decide, by decide⟩ rfl rfl (Nat.le_of_ble_eq_true rfl) (Nat.le_of_ble_eq_true rfl) (Nat.le_of_ble_eq_true rfl) dL_refuses_1 (fun x2 M1 => ?_)
  refine h_istore_n hC (lv1 := [(2, .int x2), (0, .ref (zad Z 0)), (1, .int a1)]) dL_refuses_4 rfl (by decide) rfl ?_
  refine h_aload_n hC 1 dL_refuses_5 rfl rfl ?_
  refine h_callN (n := 0) hC [] 0 8 (by decide) rfl rfl (c_X8_today hfl Z M1 ) lk_L_214 mw_X8_today.1 mw_X8_today.2.1 mw_X8_today.2.2.1 mw_X8_today.2.2.2 ⟨rfl, by decide, by decide, by decide +kernel⟩ rfl rfl ⟨by decide, by decide⟩ rfl rfl (Nat.le_of_ble_eq_true rfl) (Nat.le_of_ble_eq_true rfl) (Nat.le_of_ble_eq_true rfl) dL_refuses_6 (fun x4 M3 => ?_)
  refine h_istore_n hC (lv1 := [(3, .int x4), (2, .int x2), (0, .ref (zad Z 0)), (1, .int a1)]) dL_refuses_9 rfl (by decide) rfl ?_
  refine h_aload_n hC 2 dL_refuses_10 rfl rfl ?_
  refine h_iconst hC (v := 0) dL_refuses_11 (by decide) ?_
  refine h_callW (n := 2) hC [.ref (zad Z 0), .int 0] hNc (c_L_pass hfl Z M3 0) lk_L_226 mw_L_pass.1 mw_L_pass.2.1 mw_L_pass.2.2 ⟨by decide, by decide, by decide +kernel⟩ rfl rfl ⟨by decide, by decide⟩ rfl rfl (Nat.le_of_ble_eq_true rfl) (Nat.le_of_ble_eq_true rfl) (Nat.le_of_ble_eq_true rfl) dL_refuses_12 (fun x6 M5 => ?_)
  refine h_ldc2 hC (v := (-9000000000000000002)) lc_L_17 dL_refuses_15 ?_
  refine h_lcmp_ne (tgt := 237) hC dL_refuses_18 dL_refuses_19 (by decide) (fun _ => ?_) (fun _ => ?_)
  · refine h_aload_n hC 2 dL_refuses_22 rfl rfl ?_
    refine h_bipush hC (v := 61) dL_refuses_23 (by decide) ?_
    refine h_callW (n := 2) hC [.ref (zad Z 0), .int 61] hNc (c_L_pass hfl Z M5 61) lk_L_226 mw_L_pass.1 mw_L_pass.2.1 mw_L_pass.2.2 ⟨by decide, by decide, by decide +kernel⟩ rfl rfl ⟨by decide, by decide⟩ rfl rfl (Nat.le_of_ble_eq_true rfl) (Nat.le_of_ble_eq_true rfl) (Nat.le_of_ble_eq_true rfl) dL_refuses_25 (fun x8 M7 => ?_)
    refine h_ldc2 hC (v := (-9000000000000000002)) lc_L_17 dL_refuses_28 ?_
    refine h_lcmp_ne (tgt := 237) hC dL_refuses_31 dL_refuses_32 (by decide) (fun _ => ?_) (fun _ => ?_)
    · refine h_aload_n hC 2 dL_refuses_35 rfl rfl ?_
      refine h_iconst hC (v := (-1)) dL_refuses_36 (by decide) ?_
      refine h_callW (n := 2) hC [.ref (zad Z 0), .int (-1)] hNc (c_L_holiday hfl Z M7 (-1)) lk_L_228 mw_L_holiday.1 mw_L_holiday.2.1 mw_L_holiday.2.2 ⟨by decide, by decide, by decide +kernel⟩ rfl rfl ⟨by decide, by decide⟩ rfl rfl (Nat.le_of_ble_eq_true rfl) (Nat.le_of_ble_eq_true rfl) (Nat.le_of_ble_eq_true rfl) dL_refuses_37 (fun x10 M9 => ?_)
      refine h_ldc2 hC (v := (-9000000000000000002)) lc_L_17 dL_refuses_40 ?_
      refine h_lcmp_ne (tgt := 237) hC dL_refuses_43 dL_refuses_44 (by decide) (fun _ => ?_) (fun _ => ?_)
      · refine h_aload_n hC 2 dL_refuses_47 rfl rfl ?_
        refine h_iload_n hC 0 dL_refuses_48 rfl rfl ?_
        refine h_callW (n := 2) hC [.ref (zad Z 0), .int x4] hNc (c_L_holiday hfl Z M9 x4) lk_L_228 mw_L_holiday.1 mw_L_holiday.2.1 mw_L_holiday.2.2 ⟨by decide, by decide, by decide +kernel⟩ rfl rfl ⟨by decide, by decide⟩ rfl rfl (Nat.le_of_ble_eq_true rfl) (Nat.le_of_ble_eq_true rfl) (Nat.le_of_ble_eq_true rfl) dL_refuses_49 (fun x12 M11 => ?_)
        refine h_ldc2 hC (v := (-9000000000000000003)) lc_L_21 dL_refuses_52 ?_
        refine h_lcmp_ne (tgt := 237) hC dL_refuses_55 dL_refuses_56 (by decide) (fun _ => ?_) (fun _ => ?_)
        · refine h_aload_n hC 2 dL_refuses_59 rfl rfl ?_
          refine h_iconst hC (v := 5) dL_refuses_60 (by decide) ?_
          refine h_iconst hC (v := 0) dL_refuses_61 (by decide) ?_
          refine h_iconst hC (v := 1) dL_refuses_62 (by decide) ?_
          refine h_callW (n := 4) hC [.ref (zad Z 0), .int 5, .int 0, .int 1] hNc (c_L_setRule hfl Z M11 5 0 1) lk_L_230 mw_L_setRule.1 mw_L_setRule.2.1 mw_L_setRule.2.2 ⟨by decide, by decide, by decide +kernel⟩ rfl rfl ⟨by decide, by decide⟩ rfl rfl (Nat.le_of_ble_eq_true rfl) (Nat.le_of_ble_eq_true rfl) (Nat.le_of_ble_eq_true rfl) dL_refuses_63 (fun x14 M13 => ?_)
          refine h_ldc2 hC (v := (-9000000000000000001)) lc_L_33 dL_refuses_66 ?_
          refine h_lcmp_ne (tgt := 237) hC dL_refuses_69 dL_refuses_70 (by decide) (fun _ => ?_) (fun _ => ?_)
          · refine h_aload_n hC 2 dL_refuses_73 rfl rfl ?_
            refine h_iconst hC (v := 0) dL_refuses_74 (by decide) ?_
            refine h_bipush hC (v := 61) dL_refuses_75 (by decide) ?_
            refine h_iconst hC (v := 1) dL_refuses_77 (by decide) ?_
            refine h_callW (n := 4) hC [.ref (zad Z 0), .int 0, .int 61, .int 1] hNc (c_L_setRule hfl Z M13 0 61 1) lk_L_230 mw_L_setRule.1 mw_L_setRule.2.1 mw_L_setRule.2.2 ⟨by decide, by decide, by decide +kernel⟩ rfl rfl ⟨by decide, by decide⟩ rfl rfl (Nat.le_of_ble_eq_true rfl) (Nat.le_of_ble_eq_true rfl) (Nat.le_of_ble_eq_true rfl) dL_refuses_78 (fun x16 M15 => ?_)
            refine h_ldc2 hC (v := (-9000000000000000002)) lc_L_17 dL_refuses_81 ?_
            refine h_lcmp_ne (tgt := 237) hC dL_refuses_84 dL_refuses_85 (by decide) (fun _ => ?_) (fun _ => ?_)
            · refine h_aload_n hC 2 dL_refuses_88 rfl rfl ?_
              refine h_iconst hC (v := 3) dL_refuses_89 (by decide) ?_
              refine h_callW (n := 2) hC [.ref (zad Z 0), .int 3] hNc (c_L_open hfl Z M15 3) lk_L_233 mw_L_open.1 mw_L_open.2.1 mw_L_open.2.2 ⟨by decide, by decide, by decide +kernel⟩ rfl rfl ⟨by decide, by decide⟩ rfl rfl (Nat.le_of_ble_eq_true rfl) (Nat.le_of_ble_eq_true rfl) (Nat.le_of_ble_eq_true rfl) dL_refuses_90 (fun x18 M17 => ?_)
              refine h_ldc2 hC (v := (-9000000000000000001)) lc_L_33 dL_refuses_93 ?_
              refine h_lcmp_ne (tgt := 237) hC dL_refuses_96 dL_refuses_97 (by decide) (fun _ => ?_) (fun _ => ?_)
              · refine h_aload_n hC 2 dL_refuses_100 rfl rfl ?_
                refine h_bipush hC (v := 8) dL_refuses_101 (by decide) ?_
                refine h_iconst hC (v := 0) dL_refuses_103 (by decide) ?_
                refine h_iconst hC (v := 0) dL_refuses_104 (by decide) ?_
                refine h_callW (n := 4) hC [.ref (zad Z 0), .int 8, .int 0, .int 0] hNc (c_L_join hfl Z M17 8 0 0) lk_L_235 mw_L_join.1 mw_L_join.2.1 mw_L_join.2.2 ⟨by decide, by decide, by decide +kernel⟩ rfl rfl ⟨by decide, by decide⟩ rfl rfl (Nat.le_of_ble_eq_true rfl) (Nat.le_of_ble_eq_true rfl) (Nat.le_of_ble_eq_true rfl) dL_refuses_105 (fun x20 M19 => ?_)
                refine h_ldc2 hC (v := (-9000000000000000001)) lc_L_33 dL_refuses_108 ?_
                refine h_lcmp_ne (tgt := 237) hC dL_refuses_111 dL_refuses_112 (by decide) (fun _ => ?_) (fun _ => ?_)
                · refine h_aload_n hC 2 dL_refuses_115 rfl rfl ?_
                  refine h_iconst hC (v := (-1)) dL_refuses_116 (by decide) ?_
                  refine h_iconst hC (v := 0) dL_refuses_117 (by decide) ?_
                  refine h_callW (n := 3) hC [.ref (zad Z 0), .int (-1), .int 0] hNc (c_L_lead hfl Z M19 (-1) 0) lk_L_237 mw_L_lead.1 mw_L_lead.2.1 mw_L_lead.2.2 ⟨by decide, by decide, by decide +kernel⟩ rfl rfl ⟨by decide, by decide⟩ rfl rfl (Nat.le_of_ble_eq_true rfl) (Nat.le_of_ble_eq_true rfl) (Nat.le_of_ble_eq_true rfl) dL_refuses_118 (fun x22 M21 => ?_)
                  refine h_ldc2 hC (v := (-9000000000000000001)) lc_L_33 dL_refuses_121 ?_
                  refine h_lcmp_ne (tgt := 237) hC dL_refuses_124 dL_refuses_125 (by decide) (fun _ => ?_) (fun _ => ?_)
                  · refine h_aload_n hC 2 dL_refuses_128 rfl rfl ?_
                    refine h_iconst hC (v := 0) dL_refuses_129 (by decide) ?_
                    refine h_bipush hC (v := 16) dL_refuses_130 (by decide) ?_
                    refine h_iconst hC (v := 0) dL_refuses_132 (by decide) ?_
                    refine h_iconst hC (v := 0) dL_refuses_133 (by decide) ?_
                    refine h_callW (n := 5) hC [.ref (zad Z 0), .int 0, .int 16, .int 0, .int 0] hNc (c_L_claim hfl Z M21 0 16 0 0) lk_L_239 mw_L_claim.1 mw_L_claim.2.1 mw_L_claim.2.2 ⟨by decide, by decide, by decide +kernel⟩ rfl rfl ⟨by decide, by decide⟩ rfl rfl (Nat.le_of_ble_eq_true rfl) (Nat.le_of_ble_eq_true rfl) (Nat.le_of_ble_eq_true rfl) dL_refuses_134 (fun x24 M23 => ?_)
                    refine h_ldc2 hC (v := (-9000000000000000001)) lc_L_33 dL_refuses_137 ?_
                    refine h_lcmp_ne (tgt := 237) hC dL_refuses_140 dL_refuses_141 (by decide) (fun _ => ?_) (fun _ => ?_)
                    · refine h_aload_n hC 2 dL_refuses_144 rfl rfl ?_
                      refine h_iload_n hC 3 dL_refuses_145 rfl rfl ?_
                      refine h_callW (n := 2) hC [.ref (zad Z 0), .int a1] hNc (c_L_sever hfl Z M23 a1) lk_L_242 mw_L_sever.1 mw_L_sever.2.1 mw_L_sever.2.2 ⟨by decide, by decide, by decide +kernel⟩ rfl rfl ⟨by decide, by decide⟩ rfl rfl (Nat.le_of_ble_eq_true rfl) (Nat.le_of_ble_eq_true rfl) (Nat.le_of_ble_eq_true rfl) dL_refuses_146 (fun x26 M25 => ?_)
                      refine h_ldc2 hC (v := (-9000000000000000001)) lc_L_33 dL_refuses_149 ?_
                      refine h_lcmp_ne (tgt := 237) hC dL_refuses_152 dL_refuses_153 (by decide) (fun _ => ?_) (fun _ => ?_)
                      · refine h_aload_n hC 2 dL_refuses_156 rfl rfl ?_
                        refine h_iload_n hC 3 dL_refuses_157 rfl rfl ?_
                        refine h_iconst hC (v := 0) dL_refuses_158 (by decide) ?_
                        refine h_callW (n := 3) hC [.ref (zad Z 0), .int a1, .int 0] hNc (c_L_serve hfl Z M25 a1 0) lk_L_244 mw_L_serve.1 mw_L_serve.2.1 mw_L_serve.2.2 ⟨by decide, by decide, by decide +kernel⟩ rfl rfl ⟨by decide, by decide⟩ rfl rfl (Nat.le_of_ble_eq_true rfl) (Nat.le_of_ble_eq_true rfl) (Nat.le_of_ble_eq_true rfl) dL_refuses_159 (fun x28 M27 => ?_)
                        refine h_ldc2 hC (v := (-9000000000000000001)) lc_L_33 dL_refuses_162 ?_
                        refine h_lcmp_ne (tgt := 237) hC dL_refuses_165 dL_refuses_166 (by decide) (fun _ => ?_) (fun _ => ?_)
                        · refine h_aload_n hC 2 dL_refuses_169 rfl rfl ?_
                          refine h_iconst hC (v := (-1)) dL_refuses_170 (by decide) ?_
                          refine h_callW (n := 2) hC [.ref (zad Z 0), .int (-1)] hNc (c_L_answer hfl Z M27 (-1)) lk_L_246 mw_L_answer.1 mw_L_answer.2.1 mw_L_answer.2.2 ⟨by decide, by decide, by decide +kernel⟩ rfl rfl ⟨by decide, by decide⟩ rfl rfl (Nat.le_of_ble_eq_true rfl) (Nat.le_of_ble_eq_true rfl) (Nat.le_of_ble_eq_true rfl) dL_refuses_171 (fun x30 M29 => ?_)
                          refine h_ldc2 hC (v := (-9000000000000000001)) lc_L_33 dL_refuses_174 ?_
                          refine h_lcmp_ne (tgt := 237) hC dL_refuses_177 dL_refuses_178 (by decide) (fun _ => ?_) (fun _ => ?_)
                          · refine h_aload_n hC 2 dL_refuses_181 rfl rfl ?_
                            refine h_iload_n hC 3 dL_refuses_182 rfl rfl ?_
                            refine h_callW (n := 2) hC [.ref (zad Z 0), .int a1] hNc (c_L_motion hfl Z M29 a1) lk_L_248 mw_L_motion.1 mw_L_motion.2.1 mw_L_motion.2.2 ⟨by decide, by decide, by decide +kernel⟩ rfl rfl ⟨by decide, by decide⟩ rfl rfl (Nat.le_of_ble_eq_true rfl) (Nat.le_of_ble_eq_true rfl) (Nat.le_of_ble_eq_true rfl) dL_refuses_183 (fun x32 M31 => ?_)
                            refine h_ldc2 hC (v := (-9000000000000000001)) lc_L_33 dL_refuses_186 ?_
                            refine h_lcmp_ne (tgt := 237) hC dL_refuses_189 dL_refuses_190 (by decide) (fun _ => ?_) (fun _ => ?_)
                            · refine h_aload_n hC 2 dL_refuses_193 rfl rfl ?_
                              refine h_iload_n hC 1 dL_refuses_194 rfl rfl ?_
                              refine h_callW (n := 2) hC [.ref (zad Z 0), .int x2] hNc (c_L_respond hfl Z M31 x2) lk_L_250 mw_L_respond.1 mw_L_respond.2.1 mw_L_respond.2.2 ⟨by decide, by decide, by decide +kernel⟩ rfl rfl ⟨by decide, by decide⟩ rfl rfl (Nat.le_of_ble_eq_true rfl) (Nat.le_of_ble_eq_true rfl) (Nat.le_of_ble_eq_true rfl) dL_refuses_195 (fun x34 M33 => ?_)
                              refine h_ldc2 hC (v := (-9000000000000000001)) lc_L_33 dL_refuses_198 ?_
                              refine h_lcmp_ne (tgt := 237) hC dL_refuses_201 dL_refuses_202 (by decide) (fun _ => ?_) (fun _ => ?_)
                              · refine h_aload_n hC 2 dL_refuses_205 rfl rfl ?_
                                refine h_iload_n hC 1 dL_refuses_206 rfl rfl ?_
                                refine h_bipush hC (v := (-2)) dL_refuses_207 (by decide) ?_
                                refine h_callW (n := 3) hC [.ref (zad Z 0), .int x2, .int (-2)] hNc (c_L_ruling hfl Z M33 x2 (-2)) lk_L_252 mw_L_ruling.1 mw_L_ruling.2.1 mw_L_ruling.2.2 ⟨by decide, by decide, by decide +kernel⟩ rfl rfl ⟨by decide, by decide⟩ rfl rfl (Nat.le_of_ble_eq_true rfl) (Nat.le_of_ble_eq_true rfl) (Nat.le_of_ble_eq_true rfl) dL_refuses_209 (fun x36 M35 => ?_)
                                refine h_ldc2 hC (v := (-9000000000000000001)) lc_L_33 dL_refuses_212 ?_
                                refine h_lcmp_ne (tgt := 237) hC dL_refuses_215 dL_refuses_216 (by decide) (fun _ => ?_) (fun _ => ?_)
                                · refine h_aload_n hC 2 dL_refuses_219 rfl rfl ?_
                                  refine h_iload_n hC 3 dL_refuses_220 rfl rfl ?_
                                  refine h_bipush hC (v := (-2)) dL_refuses_221 (by decide) ?_
                                  refine h_callW (n := 3) hC [.ref (zad Z 0), .int a1, .int (-2)] hNc (c_L_judge hfl Z M35 a1 (-2)) lk_L_254 mw_L_judge.1 mw_L_judge.2.1 mw_L_judge.2.2 ⟨by decide, by decide, by decide +kernel⟩ rfl rfl ⟨by decide, by decide⟩ rfl rfl (Nat.le_of_ble_eq_true rfl) (Nat.le_of_ble_eq_true rfl) (Nat.le_of_ble_eq_true rfl) dL_refuses_223 (fun x38 M37 => ?_)
                                  refine h_ldc2 hC (v := (-9000000000000000001)) lc_L_33 dL_refuses_226 ?_
                                  refine h_lcmp_ne (tgt := 237) hC dL_refuses_229 dL_refuses_230 (by decide) (fun _ => ?_) (fun _ => ?_)
                                  · refine h_iconst hC (v := 1) dL_refuses_233 (by decide) ?_
                                    refine h_goto (tgt := 238) hC dL_refuses_234 (by decide) ?_
                                    refine h_sub (lv1 := [(0, .ref (zad Z 0)), (1, .int a1), (2, .int x2), (3, .int x4)]) [2, 3, 1, 0] rfl ?_
                                    exact g_L_refuses_b238 hfl hC hNc hlk hrt M37 a1 x2 x4 1
                                  · refine h_sub (lv1 := [(0, .ref (zad Z 0)), (1, .int a1), (2, .int x2), (3, .int x4)]) [2, 3, 1, 0] rfl ?_
                                    exact g_L_refuses_b237 hfl hC hNc hlk hrt M37 a1 x2 x4
                                · refine h_sub (lv1 := [(0, .ref (zad Z 0)), (1, .int a1), (2, .int x2), (3, .int x4)]) [2, 3, 1, 0] rfl ?_
                                  refine h_widen (k1 := 37) (Nat.le_of_ble_eq_true rfl) ?_
                                  exact g_L_refuses_b237 hfl hC hNc hlk hrt M35 a1 x2 x4
                              · refine h_sub (lv1 := [(0, .ref (zad Z 0)), (1, .int a1), (2, .int x2), (3, .int x4)]) [2, 3, 1, 0] rfl ?_
                                refine h_widen (k1 := 37) (Nat.le_of_ble_eq_true rfl) ?_
                                exact g_L_refuses_b237 hfl hC hNc hlk hrt M33 a1 x2 x4
                            · refine h_sub (lv1 := [(0, .ref (zad Z 0)), (1, .int a1), (2, .int x2), (3, .int x4)]) [2, 3, 1, 0] rfl ?_
                              refine h_widen (k1 := 37) (Nat.le_of_ble_eq_true rfl) ?_
                              exact g_L_refuses_b237 hfl hC hNc hlk hrt M31 a1 x2 x4
                          · refine h_sub (lv1 := [(0, .ref (zad Z 0)), (1, .int a1), (2, .int x2), (3, .int x4)]) [2, 3, 1, 0] rfl ?_
                            refine h_widen (k1 := 37) (Nat.le_of_ble_eq_true rfl) ?_
                            exact g_L_refuses_b237 hfl hC hNc hlk hrt M29 a1 x2 x4
                        · refine h_sub (lv1 := [(0, .ref (zad Z 0)), (1, .int a1), (2, .int x2), (3, .int x4)]) [2, 3, 1, 0] rfl ?_
                          refine h_widen (k1 := 37) (Nat.le_of_ble_eq_true rfl) ?_
                          exact g_L_refuses_b237 hfl hC hNc hlk hrt M27 a1 x2 x4
                      · refine h_sub (lv1 := [(0, .ref (zad Z 0)), (1, .int a1), (2, .int x2), (3, .int x4)]) [2, 3, 1, 0] rfl ?_
                        refine h_widen (k1 := 37) (Nat.le_of_ble_eq_true rfl) ?_
                        exact g_L_refuses_b237 hfl hC hNc hlk hrt M25 a1 x2 x4
                    · refine h_sub (lv1 := [(0, .ref (zad Z 0)), (1, .int a1), (2, .int x2), (3, .int x4)]) [2, 3, 1, 0] rfl ?_
                      refine h_widen (k1 := 37) (Nat.le_of_ble_eq_true rfl) ?_
                      exact g_L_refuses_b237 hfl hC hNc hlk hrt M23 a1 x2 x4
                  · refine h_sub (lv1 := [(0, .ref (zad Z 0)), (1, .int a1), (2, .int x2), (3, .int x4)]) [2, 3, 1, 0] rfl ?_
                    refine h_widen (k1 := 37) (Nat.le_of_ble_eq_true rfl) ?_
                    exact g_L_refuses_b237 hfl hC hNc hlk hrt M21 a1 x2 x4
                · refine h_sub (lv1 := [(0, .ref (zad Z 0)), (1, .int a1), (2, .int x2), (3, .int x4)]) [2, 3, 1, 0] rfl ?_
                  refine h_widen (k1 := 37) (Nat.le_of_ble_eq_true rfl) ?_
                  exact g_L_refuses_b237 hfl hC hNc hlk hrt M19 a1 x2 x4
              · refine h_sub (lv1 := [(0, .ref (zad Z 0)), (1, .int a1), (2, .int x2), (3, .int x4)]) [2, 3, 1, 0] rfl ?_
                refine h_widen (k1 := 37) (Nat.le_of_ble_eq_true rfl) ?_
                exact g_L_refuses_b237 hfl hC hNc hlk hrt M17 a1 x2 x4
            · refine h_sub (lv1 := [(0, .ref (zad Z 0)), (1, .int a1), (2, .int x2), (3, .int x4)]) [2, 3, 1, 0] rfl ?_
              refine h_widen (k1 := 37) (Nat.le_of_ble_eq_true rfl) ?_
              exact g_L_refuses_b237 hfl hC hNc hlk hrt M15 a1 x2 x4
          · refine h_sub (lv1 := [(0, .ref (zad Z 0)), (1, .int a1), (2, .int x2), (3, .int x4)]) [2, 3, 1, 0] rfl ?_
            refine h_widen (k1 := 37) (Nat.le_of_ble_eq_true rfl) ?_
            exact g_L_refuses_b237 hfl hC hNc hlk hrt M13 a1 x2 x4
        · refine h_sub (lv1 := [(0, .ref (zad Z 0)), (1, .int a1), (2, .int x2), (3, .int x4)]) [2, 3, 1, 0] rfl ?_
          refine h_widen (k1 := 37) (Nat.le_of_ble_eq_true rfl) ?_
          exact g_L_refuses_b237 hfl hC hNc hlk hrt M11 a1 x2 x4
      · refine h_sub (lv1 := [(0, .ref (zad Z 0)), (1, .int a1), (2, .int x2), (3, .int x4)]) [2, 3, 1, 0] rfl ?_
        refine h_widen (k1 := 37) (Nat.le_of_ble_eq_true rfl) ?_
        exact g_L_refuses_b237 hfl hC hNc hlk hrt M9 a1 x2 x4
    · refine h_sub (lv1 := [(0, .ref (zad Z 0)), (1, .int a1), (2, .int x2), (3, .int x4)]) [2, 3, 1, 0] rfl ?_
      refine h_widen (k1 := 37) (Nat.le_of_ble_eq_true rfl) ?_
      exact g_L_refuses_b237 hfl hC hNc hlk hrt M7 a1 x2 x4
  · refine h_sub (lv1 := [(0, .ref (zad Z 0)), (1, .int a1), (2, .int x2), (3, .int x4)]) [2, 3, 1, 0] rfl ?_
    refine h_widen (k1 := 37) (Nat.le_of_ble_eq_true rfl) ?_
    exact g_L_refuses_b237 hfl hC hNc hlk hrt M5 a1 x2 x4
