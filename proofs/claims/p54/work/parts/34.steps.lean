-- ===== L_steps =====
def f_L_steps_b727 (M : gM) (a1 : Int32) (a4 : Int32) (a9 : Int64) (a11 : Int32) : gR := (if a11 = 0 then (gZ01 0 (rRet 0 M)) else (if a9 = (-9000000000000000003) then (rbN (f_X8_entries M ) (fun x2 M1 => (if x2 = a4 then (gZ01 1 (rRet 1 M1)) else (gZ01 0 (rRet 0 M1))))) else (if a9 = a4.toInt64 then (rbN (f_X8_entries M ) (fun x4 M3 => (if x4 = (a4 + 1) then (qb (f_W_entryAt M3 a4 2) (fun x6 M5 => (if x6 = a1.toInt64 then (gZ01 1 (rRet 1 M5)) else (gZ01 0 (rRet 0 M5))))) else (gZ01 0 (rRet 0 M3))))) else (gZ01 0 (rRet 0 M)))))
def f_L_steps_b100 (M : gM) (a1 : Int32) (a4 : Int32) (a9 : Int64) (t0 : Int32) : gR := (f_L_steps_b727 M a1 a4 a9 t0)
def f_L_steps_b95 (M : gM) (a1 : Int32) (a4 : Int32) (a9 : Int64) : gR := (f_L_steps_b100 M a1 a4 a9 1)
def f_L_steps_b99 (M : gM) (a1 : Int32) (a4 : Int32) (a9 : Int64) : gR := (f_L_steps_b100 M a1 a4 a9 0)
def f_L_steps_b170 (M : gM) (a1 : Int32) (a4 : Int32) (a9 : Int64) (t0 : Int32) : gR := (f_L_steps_b727 M a1 a4 a9 t0)
def f_L_steps_b165 (M : gM) (a1 : Int32) (a4 : Int32) (a9 : Int64) : gR := (f_L_steps_b170 M a1 a4 a9 1)
def f_L_steps_b169 (M : gM) (a1 : Int32) (a4 : Int32) (a9 : Int64) : gR := (f_L_steps_b170 M a1 a4 a9 0)
def f_L_steps_b287 (M : gM) (a1 : Int32) (a4 : Int32) (a9 : Int64) (t0 : Int32) : gR := (f_L_steps_b727 M a1 a4 a9 t0)
def f_L_steps_b282 (M : gM) (a1 : Int32) (a4 : Int32) (a9 : Int64) : gR := (f_L_steps_b287 M a1 a4 a9 1)
def f_L_steps_b286 (M : gM) (a1 : Int32) (a4 : Int32) (a9 : Int64) : gR := (f_L_steps_b287 M a1 a4 a9 0)
def f_L_steps_b245 (M : gM) (a1 : Int32) (a4 : Int32) (a9 : Int64) : gR := (qb (f_W_stateOf M a1) (fun x2 M1 => (if x2 = 1 then (f_L_steps_b282 M1 a1 a4 a9) else (qb (f_W_balance M1 a1) (fun x4 M3 => (qb (f_W_amountOf M3 a1) (fun x6 M5 => (if x4 = x6 then (qb (f_W_due M5 2 a1) (fun x8 M7 => (if x8 = (-9000000000000000001) then (f_L_steps_b286 M7 a1 a4 a9) else (f_L_steps_b282 M7 a1 a4 a9)))) else (f_L_steps_b286 M5 a1 a4 a9)))))))))
def f_L_steps_b202 (M : gM) (a1 : Int32) (a4 : Int32) (a5 : Int64) (t1 : Int32) (t2 : Int32) : gR := (qb (f_W_judge M t1 t2) (fun x2 M1 => (if x2 = (-9000000000000000003) then (f_L_steps_b282 M1 a1 a4 x2) else (if a5 = 0 then (qb (f_W_stateOf M1 a1) (fun x4 M3 => (if x4 = 2 then (f_L_steps_b245 M3 a1 a4 x2) else (qb (f_W_stateOf M3 a1) (fun x6 M5 => (if x6 = 1 then (f_L_steps_b245 M5 a1 a4 x2) else (f_L_steps_b286 M5 a1 a4 x2))))))) else (f_L_steps_b286 M1 a1 a4 x2)))))
def f_L_steps_b338 (M : gM) (a1 : Int32) (a4 : Int32) (a9 : Int64) (t0 : Int32) : gR := (f_L_steps_b727 M a1 a4 a9 t0)
def f_L_steps_b333 (M : gM) (a1 : Int32) (a4 : Int32) (a9 : Int64) : gR := (f_L_steps_b338 M a1 a4 a9 1)
def f_L_steps_b337 (M : gM) (a1 : Int32) (a4 : Int32) (a9 : Int64) : gR := (f_L_steps_b338 M a1 a4 a9 0)
def f_L_steps_b400 (M : gM) (a1 : Int32) (a4 : Int32) (a9 : Int64) (t0 : Int32) : gR := (f_L_steps_b727 M a1 a4 a9 t0)
def f_L_steps_b395 (M : gM) (a1 : Int32) (a4 : Int32) (a9 : Int64) : gR := (f_L_steps_b400 M a1 a4 a9 1)
def f_L_steps_b399 (M : gM) (a1 : Int32) (a4 : Int32) (a9 : Int64) : gR := (f_L_steps_b400 M a1 a4 a9 0)
def f_L_steps_b498 (M : gM) (a1 : Int32) (a4 : Int32) (a9 : Int64) (t0 : Int32) : gR := (f_L_steps_b727 M a1 a4 a9 t0)
def f_L_steps_b493 (M : gM) (a1 : Int32) (a4 : Int32) (a9 : Int64) : gR := (f_L_steps_b498 M a1 a4 a9 1)
def f_L_steps_b497 (M : gM) (a1 : Int32) (a4 : Int32) (a9 : Int64) : gR := (f_L_steps_b498 M a1 a4 a9 0)
def f_L_steps_b478 (M : gM) (a1 : Int32) (a4 : Int32) (a7 : Int64) (a9 : Int64) (t0 : Int64) (t1 : Int64) : gR := (if t0 = t1 then (qb (f_W_amountOf M a1) (fun x2 M1 => (if x2 < a7 then (f_L_steps_b497 M1 a1 a4 a9) else (f_L_steps_b493 M1 a1 a4 a9)))) else (f_L_steps_b497 M a1 a4 a9))
def f_L_steps_b572 (M : gM) (a1 : Int32) (a4 : Int32) (a9 : Int64) (t0 : Int32) : gR := (f_L_steps_b727 M a1 a4 a9 t0)
def f_L_steps_b567 (M : gM) (a1 : Int32) (a4 : Int32) (a9 : Int64) : gR := (f_L_steps_b572 M a1 a4 a9 1)
def f_L_steps_b571 (M : gM) (a1 : Int32) (a4 : Int32) (a9 : Int64) : gR := (f_L_steps_b572 M a1 a4 a9 0)
def f_L_steps_b725 (M : gM) (a1 : Int32) (a4 : Int32) (a11 : Int32) (t0 : Int64) : gR := (f_L_steps_b727 M a1 a4 t0 a11)
def f_L_steps_b705 (M : gM) (a1 : Int32) (a4 : Int32) (a14 : Int64) (t0 : Int32) : gR := (if a14 = (-9000000000000000003) then (f_L_steps_b725 M a1 a4 t0 (-9000000000000000003)) else (f_L_steps_b725 M a1 a4 t0 a4.toInt64))
def f_L_steps_b648 (M : gM) (a1 : Int32) (a4 : Int32) (a14 : Int64) : gR := (f_L_steps_b705 M a1 a4 a14 1)
def f_L_steps_b704 (M : gM) (a1 : Int32) (a4 : Int32) (a14 : Int64) : gR := (f_L_steps_b705 M a1 a4 a14 0)
def f_L_steps_b696 (M : gM) (a1 : Int32) (a4 : Int32) (a14 : Int64) (t0 : Int64) (t1 : Int64) : gR := (if t0 = t1 then (f_L_steps_b705 M a1 a4 a14 1) else (f_L_steps_b704 M a1 a4 a14))
def f_L_steps_b577 (M : gM) (a1 : Int32) (a2 : Int32) (a3 : Int32) (a4 : Int32) (a5 : Int64) (a9 : Int64) (a11 : Int32) : gR := (if a2 = 7 then (qb (f_W_balance M a1) (fun x2 M1 => (gNz 4 (gNz 3000 (qb (f_W_pay M1 a1 (1 + ((a3 / 4) - (a3 / 4) / 3000 * 3000))) (fun x4 M3 => (if x4 = (-9000000000000000003) then (if a5 = 2 then (gNz 4 (gNz 3000 (if x2 < (1 + ((a3 / 4) - (a3 / 4) / 3000 * 3000)).toInt64 then (f_L_steps_b648 M3 a1 a4 x4) else (if a4 = 160 then (f_L_steps_b648 M3 a1 a4 x4) else (f_L_steps_b705 M3 a1 a4 x4 0))))) else (f_L_steps_b648 M3 a1 a4 x4)) else (gNz 4 (gNz 3000 (if x4 = ((x2 - 1) - ((a3 / 4) - (a3 / 4) / 3000 * 3000).toInt64) then (qb (f_W_stateOf M3 a1) (fun x6 M5 => (if x4 = 0 then (f_L_steps_b696 M5 a1 a4 x4 x6 5) else (f_L_steps_b696 M5 a1 a4 x4 x6 2)))) else (f_L_steps_b704 M3 a1 a4 x4))))))))))) else (f_L_steps_b727 M a1 a4 a9 a11))
def f_L_steps (M : gM) (a1 : Int32) (a2 : Int32) (a3 : Int32) : gR := (rbN (f_X8_entries M ) (fun x2 M1 => (qb (f_W_stateOf M1 a1) (fun x4 M3 => (qb (f_W_amountOf M3 a1) (fun x6 M5 => (if a2 = 0 then (gNz 3 (qb (f_W_serve M5 a1 (a3 - a3 / 3 * 3)) (fun x8 M7 => (f_L_steps_b727 M7 a1 x2 x8 1)))) else (if a2 = 1 then (qb (f_W_answer M5 a1) (fun x10 M9 => (if x10 = (-9000000000000000003) then (f_L_steps_b95 M9 a1 x2 x10) else (qb (f_W_answered M9 a1) (fun x12 M11 => (if x12 = 1 then (if x4 = 0 then (qb (f_W_answer M11 a1) (fun x14 M13 => (if x14 = (-9000000000000000003) then (f_L_steps_b95 M13 a1 x2 x10) else (f_L_steps_b99 M13 a1 x2 x10)))) else (f_L_steps_b99 M11 a1 x2 x10)) else (f_L_steps_b99 M11 a1 x2 x10))))))) else (if a2 = 2 then (qb (f_W_motion M5 a1) (fun x16 M15 => (if x16 = (-9000000000000000003) then (f_L_steps_b165 M15 a1 x2 x16) else (qb (f_W_due M15 0 a1) (fun x18 M17 => (if x18 = (-1) then (qb (f_W_motion M17 a1) (fun x20 M19 => (if x20 = (-9000000000000000003) then (qb (f_W_ruling M19 x2 0) (fun x22 M21 => (if x22 = (-9000000000000000003) then (f_L_steps_b165 M21 a1 x2 x16) else (f_L_steps_b169 M21 a1 x2 x16)))) else (f_L_steps_b169 M19 a1 x2 x16)))) else (f_L_steps_b169 M17 a1 x2 x16))))))) else (if a2 = 3 then (gNz 3 (if (a3 - a3 / 3 * 3) = 0 then (f_L_steps_b202 M5 a1 x2 x4 a1 (-1)) else (gNz 3 (gNzL (x6 + 1) (f_L_steps_b202 M5 a1 x2 x4 a1 ((a3 / 3).toInt64 - (a3 / 3).toInt64 / (x6 + 1) * (x6 + 1)).toInt32))))) else (if a2 = 4 then (qb (f_W_vacate M5 a1) (fun x24 M23 => (if x24 = (-9000000000000000003) then (f_L_steps_b333 M23 a1 x2 x24) else (qb (f_W_stateOf M23 a1) (fun x26 M25 => (if x26 = 0 then (qb (f_W_amountOf M25 a1) (fun x28 M27 => (if x28 < 1 then (f_L_steps_b337 M27 a1 x2 x24) else (f_L_steps_b333 M27 a1 x2 x24)))) else (f_L_steps_b337 M25 a1 x2 x24))))))) else (if a2 = 5 then (qb (f_W_appeal M5 a1) (fun x30 M29 => (if x30 = (-9000000000000000003) then (f_L_steps_b395 M29 a1 x2 x30) else (if x4 = 2 then (qb (f_W_stateOf M29 a1) (fun x32 M31 => (if x32 = 3 then (qb (f_W_balance M31 a1) (fun x34 M33 => (if x34 = 0 then (f_L_steps_b395 M33 a1 x2 x30) else (f_L_steps_b399 M33 a1 x2 x30)))) else (f_L_steps_b399 M31 a1 x2 x30)))) else (f_L_steps_b399 M29 a1 x2 x30))))) else (if a2 = 6 then (gNz 3 (gNz 3 (gNzL (x6 + 1) (qb (f_W_decide M5 a1 (a3 - a3 / 3 * 3) ((a3 / 3).toInt64 - (a3 / 3).toInt64 / (x6 + 1) * (x6 + 1)).toInt32) (fun x36 M35 => (if x36 = (-9000000000000000003) then (f_L_steps_b493 M35 a1 x2 x36) else (if x4 = 3 then (qb (f_W_stateOf M35 a1) (fun x38 M37 => (gNz 3 (if (a3 - a3 / 3 * 3) = 0 then (f_L_steps_b478 M37 a1 x2 x6 x36 x38 2) else (gNz 3 (if (a3 - a3 / 3 * 3) = 1 then (f_L_steps_b478 M37 a1 x2 x6 x36 x38 1) else (f_L_steps_b478 M37 a1 x2 x6 x36 x38 0))))))) else (f_L_steps_b497 M35 a1 x2 x36)))))))) else (if a2 = 7 then (gNz 4 (if (a3 - a3 / 4 * 4) = 0 then (qb (f_W_settle M5 a1) (fun x40 M39 => (if x40 = (-9000000000000000003) then (f_L_steps_b567 M39 a1 x2 x40) else (qb (f_W_stateOf M39 a1) (fun x42 M41 => (if x42 = 4 then (qb (f_W_settle M41 a1) (fun x44 M43 => (if x44 = (-9000000000000000003) then (qb (f_W_vacate M43 a1) (fun x46 M45 => (if x46 = (-9000000000000000003) then (f_L_steps_b567 M45 a1 x2 x40) else (f_L_steps_b571 M45 a1 x2 x40)))) else (f_L_steps_b571 M43 a1 x2 x40)))) else (f_L_steps_b571 M41 a1 x2 x40))))))) else (f_L_steps_b577 M5 a1 a2 a3 x2 x4 (-9000000000000000003) 1))) else (f_L_steps_b577 M5 a1 a2 a3 x2 x4 (-9000000000000000003) 1)))))))))))))))
abbrev rm_L_steps : Room := { frames := 11, cells := 13, slots := 78, locals := 200 }
set_option maxRecDepth 20000 in
set_option maxHeartbeats 4000000 in
theorem g_L_steps_b727 {p : Program} {l : Launch} {e : Env} {s : State} {m : MethodId} {args : Array Value} {below : List Frame} {meth : Method} {c : Code} {Z : gZ} (hfl : l.stackTraces = false) (hC : gD p s m args c cL_steps 16 RL Z) (hNc : gNc s) (hlk : meth.locks = false) (hrt : meth.sig.returnType = some .boolean) (M : gM) (a1 : Int32) (a4 : Int32) (a9 : Int64) (a11 : Int32) : gY p l e rm_L_steps s m args below meth c 16 Z (fun F => vx_MQ below (gQc 1 Z F) (gXc Z F) args s 13 (6 * 13) (zA Z)) 11 M 727 [(0, .ref (zad Z 0)), (1, .int a1), (4, .int a4), (9, .long a9), (11, .int a11)] [] (f_L_steps_b727 M a1 a4 a9 a11) := by
  unfold f_L_steps_b727
  refine h_iload hC 4 dL_steps_727 rfl ?_
  refine h_if_eq (tgt := 790) hC dL_steps_729 (by decide) (fun _ => ?_) (fun _ => ?_)
  · refine h_iconst hC (v := 0) dL_steps_790 (by decide) ?_
    exact h_zret hC hlk hrt (Nat.le_of_ble_eq_true rfl) dL_steps_791
  · refine h_lload hC 3 dL_steps_732 rfl ?_
    refine h_ldc2 hC (v := (-9000000000000000003)) lc_L_21 dL_steps_734 ?_
    refine h_lcmp_ne (tgt := 753) hC dL_steps_737 dL_steps_738 (by decide) (fun _ => ?_) (fun _ => ?_)
    · refine h_aload_n hC 0 dL_steps_741 rfl rfl ?_
      refine h_callN (n := 0) hC [] 0 8 (by decide) rfl rfl (c_X8_entries hfl Z M ) lk_L_206 mw_X8_entries.1 mw_X8_entries.2.1 mw_X8_entries.2.2.1 mw_X8_entries.2.2.2 ⟨rfl, by decide, by decide, by decide +kernel⟩ rfl rfl ⟨by decide, by decide⟩ rfl rfl (Nat.le_of_ble_eq_true rfl) (Nat.le_of_ble_eq_true rfl) (Nat.le_of_ble_eq_true rfl) dL_steps_742 (fun x2 M1 => ?_)
      refine h_iload hC 2 dL_steps_745 rfl ?_
      refine h_icmp_ne (tgt := 790) hC dL_steps_747 (by decide) (fun _ => ?_) (fun _ => ?_)
      · refine h_goto (tgt := 786) hC dL_steps_750 (by decide) ?_
        refine h_iconst hC (v := 1) dL_steps_786 (by decide) ?_
        refine h_goto (tgt := 791) hC dL_steps_787 (by decide) ?_
        exact h_zret hC hlk hrt (Nat.le_of_ble_eq_true rfl) dL_steps_791
      · refine h_iconst hC (v := 0) dL_steps_790 (by decide) ?_
        exact h_zret hC hlk hrt (Nat.le_of_ble_eq_true rfl) dL_steps_791
    · refine h_lload hC 3 dL_steps_753 rfl ?_
      refine h_iload hC 2 dL_steps_755 rfl ?_
      refine h_i2l hC dL_steps_757 ?_
      refine h_lcmp_ne (tgt := 790) hC dL_steps_758 dL_steps_759 (by decide) (fun _ => ?_) (fun _ => ?_)
      · refine h_aload_n hC 0 dL_steps_762 rfl rfl ?_
        refine h_callN (n := 0) hC [] 0 8 (by decide) rfl rfl (c_X8_entries hfl Z M ) lk_L_206 mw_X8_entries.1 mw_X8_entries.2.1 mw_X8_entries.2.2.1 mw_X8_entries.2.2.2 ⟨rfl, by decide, by decide, by decide +kernel⟩ rfl rfl ⟨by decide, by decide⟩ rfl rfl (Nat.le_of_ble_eq_true rfl) (Nat.le_of_ble_eq_true rfl) (Nat.le_of_ble_eq_true rfl) dL_steps_763 (fun x4 M3 => ?_)
        refine h_iload hC 2 dL_steps_766 rfl ?_
        refine h_iconst hC (v := 1) dL_steps_768 (by decide) ?_
        refine h_iadd hC dL_steps_769 ?_
        refine h_icmp_ne (tgt := 790) hC dL_steps_770 (by decide) (fun _ => ?_) (fun _ => ?_)
        · refine h_aload_n hC 0 dL_steps_773 rfl rfl ?_
          refine h_iload hC 2 dL_steps_774 rfl ?_
          refine h_iconst hC (v := 2) dL_steps_776 (by decide) ?_
          refine h_callW (n := 3) hC [.ref (zad Z 0), .int a4, .int 2] hNc (c_L_entryAt hfl Z M3 a4 2) lk_L_210 mw_L_entryAt.1 mw_L_entryAt.2.1 mw_L_entryAt.2.2 ⟨by decide, by decide, by decide +kernel⟩ rfl rfl ⟨by decide, by decide⟩ rfl rfl (Nat.le_of_ble_eq_true rfl) (Nat.le_of_ble_eq_true rfl) (Nat.le_of_ble_eq_true rfl) dL_steps_777 (fun x6 M5 => ?_)
          refine h_iload_n hC 1 dL_steps_780 rfl rfl ?_
          refine h_i2l hC dL_steps_781 ?_
          refine h_lcmp_ne (tgt := 790) hC dL_steps_782 dL_steps_783 (by decide) (fun _ => ?_) (fun _ => ?_)
          · refine h_iconst hC (v := 1) dL_steps_786 (by decide) ?_
            refine h_goto (tgt := 791) hC dL_steps_787 (by decide) ?_
            exact h_zret hC hlk hrt (Nat.le_of_ble_eq_true rfl) dL_steps_791
          · refine h_iconst hC (v := 0) dL_steps_790 (by decide) ?_
            exact h_zret hC hlk hrt (Nat.le_of_ble_eq_true rfl) dL_steps_791
        · refine h_iconst hC (v := 0) dL_steps_790 (by decide) ?_
          exact h_zret hC hlk hrt (Nat.le_of_ble_eq_true rfl) dL_steps_791
      · refine h_iconst hC (v := 0) dL_steps_790 (by decide) ?_
        exact h_zret hC hlk hrt (Nat.le_of_ble_eq_true rfl) dL_steps_791
set_option maxRecDepth 20000 in
set_option maxHeartbeats 4000000 in
theorem g_L_steps_b100 {p : Program} {l : Launch} {e : Env} {s : State} {m : MethodId} {args : Array Value} {below : List Frame} {meth : Method} {c : Code} {Z : gZ} (hfl : l.stackTraces = false) (hC : gD p s m args c cL_steps 16 RL Z) (hNc : gNc s) (hlk : meth.locks = false) (hrt : meth.sig.returnType = some .boolean) (M : gM) (a1 : Int32) (a4 : Int32) (a9 : Int64) (t0 : Int32) : gY p l e rm_L_steps s m args below meth c 16 Z (fun F => vx_MQ below (gQc 1 Z F) (gXc Z F) args s 13 (6 * 13) (zA Z)) 7 M 100 [(0, .ref (zad Z 0)), (1, .int a1), (4, .int a4), (9, .long a9)] [.int t0] (f_L_steps_b100 M a1 a4 a9 t0) := by
  unfold f_L_steps_b100
  refine h_istore hC (lv1 := [(11, .int t0), (0, .ref (zad Z 0)), (1, .int a1), (4, .int a4), (9, .long a9)]) dL_steps_100 (by decide) rfl ?_
  refine h_goto (tgt := 727) hC dL_steps_102 (by decide) ?_
  refine h_sub (lv1 := [(0, .ref (zad Z 0)), (1, .int a1), (4, .int a4), (9, .long a9), (11, .int t0)]) [1, 2, 3, 4, 0] rfl ?_
  refine h_widen (k1 := 11) (Nat.le_of_ble_eq_true rfl) ?_
  exact g_L_steps_b727 hfl hC hNc hlk hrt M a1 a4 a9 t0
set_option maxRecDepth 20000 in
set_option maxHeartbeats 4000000 in
theorem g_L_steps_b95 {p : Program} {l : Launch} {e : Env} {s : State} {m : MethodId} {args : Array Value} {below : List Frame} {meth : Method} {c : Code} {Z : gZ} (hfl : l.stackTraces = false) (hC : gD p s m args c cL_steps 16 RL Z) (hNc : gNc s) (hlk : meth.locks = false) (hrt : meth.sig.returnType = some .boolean) (M : gM) (a1 : Int32) (a4 : Int32) (a9 : Int64) : gY p l e rm_L_steps s m args below meth c 16 Z (fun F => vx_MQ below (gQc 1 Z F) (gXc Z F) args s 13 (6 * 13) (zA Z)) 7 M 95 [(0, .ref (zad Z 0)), (1, .int a1), (4, .int a4), (9, .long a9)] [] (f_L_steps_b95 M a1 a4 a9) := by
  unfold f_L_steps_b95
  refine h_iconst hC (v := 1) dL_steps_95 (by decide) ?_
  refine h_goto (tgt := 100) hC dL_steps_96 (by decide) ?_
  exact g_L_steps_b100 hfl hC hNc hlk hrt M a1 a4 a9 1
set_option maxRecDepth 20000 in
set_option maxHeartbeats 4000000 in
theorem g_L_steps_b99 {p : Program} {l : Launch} {e : Env} {s : State} {m : MethodId} {args : Array Value} {below : List Frame} {meth : Method} {c : Code} {Z : gZ} (hfl : l.stackTraces = false) (hC : gD p s m args c cL_steps 16 RL Z) (hNc : gNc s) (hlk : meth.locks = false) (hrt : meth.sig.returnType = some .boolean) (M : gM) (a1 : Int32) (a4 : Int32) (a9 : Int64) : gY p l e rm_L_steps s m args below meth c 16 Z (fun F => vx_MQ below (gQc 1 Z F) (gXc Z F) args s 13 (6 * 13) (zA Z)) 7 M 99 [(0, .ref (zad Z 0)), (1, .int a1), (4, .int a4), (9, .long a9)] [] (f_L_steps_b99 M a1 a4 a9) := by
  unfold f_L_steps_b99
  refine h_iconst hC (v := 0) dL_steps_99 (by decide) ?_
  exact g_L_steps_b100 hfl hC hNc hlk hrt M a1 a4 a9 0
set_option maxRecDepth 20000 in
set_option maxHeartbeats 4000000 in
theorem g_L_steps_b170 {p : Program} {l : Launch} {e : Env} {s : State} {m : MethodId} {args : Array Value} {below : List Frame} {meth : Method} {c : Code} {Z : gZ} (hfl : l.stackTraces = false) (hC : gD p s m args c cL_steps 16 RL Z) (hNc : gNc s) (hlk : meth.locks = false) (hrt : meth.sig.returnType = some .boolean) (M : gM) (a1 : Int32) (a4 : Int32) (a9 : Int64) (t0 : Int32) : gY p l e rm_L_steps s m args below meth c 16 Z (fun F => vx_MQ below (gQc 1 Z F) (gXc Z F) args s 13 (6 * 13) (zA Z)) 11 M 170 [(0, .ref (zad Z 0)), (1, .int a1), (4, .int a4), (9, .long a9)] [.int t0] (f_L_steps_b170 M a1 a4 a9 t0) := by
  unfold f_L_steps_b170
  refine h_istore hC (lv1 := [(11, .int t0), (0, .ref (zad Z 0)), (1, .int a1), (4, .int a4), (9, .long a9)]) dL_steps_170 (by decide) rfl ?_
  refine h_goto (tgt := 727) hC dL_steps_172 (by decide) ?_
  refine h_sub (lv1 := [(0, .ref (zad Z 0)), (1, .int a1), (4, .int a4), (9, .long a9), (11, .int t0)]) [1, 2, 3, 4, 0] rfl ?_
  exact g_L_steps_b727 hfl hC hNc hlk hrt M a1 a4 a9 t0
set_option maxRecDepth 20000 in
set_option maxHeartbeats 4000000 in
theorem g_L_steps_b165 {p : Program} {l : Launch} {e : Env} {s : State} {m : MethodId} {args : Array Value} {below : List Frame} {meth : Method} {c : Code} {Z : gZ} (hfl : l.stackTraces = false) (hC : gD p s m args c cL_steps 16 RL Z) (hNc : gNc s) (hlk : meth.locks = false) (hrt : meth.sig.returnType = some .boolean) (M : gM) (a1 : Int32) (a4 : Int32) (a9 : Int64) : gY p l e rm_L_steps s m args below meth c 16 Z (fun F => vx_MQ below (gQc 1 Z F) (gXc Z F) args s 13 (6 * 13) (zA Z)) 11 M 165 [(0, .ref (zad Z 0)), (1, .int a1), (4, .int a4), (9, .long a9)] [] (f_L_steps_b165 M a1 a4 a9) := by
  unfold f_L_steps_b165
  refine h_iconst hC (v := 1) dL_steps_165 (by decide) ?_
  refine h_goto (tgt := 170) hC dL_steps_166 (by decide) ?_
  exact g_L_steps_b170 hfl hC hNc hlk hrt M a1 a4 a9 1
set_option maxRecDepth 20000 in
set_option maxHeartbeats 4000000 in
theorem g_L_steps_b169 {p : Program} {l : Launch} {e : Env} {s : State} {m : MethodId} {args : Array Value} {below : List Frame} {meth : Method} {c : Code} {Z : gZ} (hfl : l.stackTraces = false) (hC : gD p s m args c cL_steps 16 RL Z) (hNc : gNc s) (hlk : meth.locks = false) (hrt : meth.sig.returnType = some .boolean) (M : gM) (a1 : Int32) (a4 : Int32) (a9 : Int64) : gY p l e rm_L_steps s m args below meth c 16 Z (fun F => vx_MQ below (gQc 1 Z F) (gXc Z F) args s 13 (6 * 13) (zA Z)) 11 M 169 [(0, .ref (zad Z 0)), (1, .int a1), (4, .int a4), (9, .long a9)] [] (f_L_steps_b169 M a1 a4 a9) := by
  unfold f_L_steps_b169
  refine h_iconst hC (v := 0) dL_steps_169 (by decide) ?_
  exact g_L_steps_b170 hfl hC hNc hlk hrt M a1 a4 a9 0
set_option maxRecDepth 20000 in
set_option maxHeartbeats 4000000 in
theorem g_L_steps_b287 {p : Program} {l : Launch} {e : Env} {s : State} {m : MethodId} {args : Array Value} {below : List Frame} {meth : Method} {c : Code} {Z : gZ} (hfl : l.stackTraces = false) (hC : gD p s m args c cL_steps 16 RL Z) (hNc : gNc s) (hlk : meth.locks = false) (hrt : meth.sig.returnType = some .boolean) (M : gM) (a1 : Int32) (a4 : Int32) (a9 : Int64) (t0 : Int32) : gY p l e rm_L_steps s m args below meth c 16 Z (fun F => vx_MQ below (gQc 1 Z F) (gXc Z F) args s 13 (6 * 13) (zA Z)) 11 M 287 [(0, .ref (zad Z 0)), (1, .int a1), (4, .int a4), (9, .long a9)] [.int t0] (f_L_steps_b287 M a1 a4 a9 t0) := by
  unfold f_L_steps_b287
  refine h_istore hC (lv1 := [(11, .int t0), (0, .ref (zad Z 0)), (1, .int a1), (4, .int a4), (9, .long a9)]) dL_steps_287 (by decide) rfl ?_
  refine h_goto (tgt := 727) hC dL_steps_289 (by decide) ?_
  refine h_sub (lv1 := [(0, .ref (zad Z 0)), (1, .int a1), (4, .int a4), (9, .long a9), (11, .int t0)]) [1, 2, 3, 4, 0] rfl ?_
  exact g_L_steps_b727 hfl hC hNc hlk hrt M a1 a4 a9 t0
set_option maxRecDepth 20000 in
set_option maxHeartbeats 4000000 in
theorem g_L_steps_b282 {p : Program} {l : Launch} {e : Env} {s : State} {m : MethodId} {args : Array Value} {below : List Frame} {meth : Method} {c : Code} {Z : gZ} (hfl : l.stackTraces = false) (hC : gD p s m args c cL_steps 16 RL Z) (hNc : gNc s) (hlk : meth.locks = false) (hrt : meth.sig.returnType = some .boolean) (M : gM) (a1 : Int32) (a4 : Int32) (a9 : Int64) : gY p l e rm_L_steps s m args below meth c 16 Z (fun F => vx_MQ below (gQc 1 Z F) (gXc Z F) args s 13 (6 * 13) (zA Z)) 11 M 282 [(0, .ref (zad Z 0)), (1, .int a1), (4, .int a4), (9, .long a9)] [] (f_L_steps_b282 M a1 a4 a9) := by
  unfold f_L_steps_b282
  refine h_iconst hC (v := 1) dL_steps_282 (by decide) ?_
  refine h_goto (tgt := 287) hC dL_steps_283 (by decide) ?_
  exact g_L_steps_b287 hfl hC hNc hlk hrt M a1 a4 a9 1
set_option maxRecDepth 20000 in
set_option maxHeartbeats 4000000 in
theorem g_L_steps_b286 {p : Program} {l : Launch} {e : Env} {s : State} {m : MethodId} {args : Array Value} {below : List Frame} {meth : Method} {c : Code} {Z : gZ} (hfl : l.stackTraces = false) (hC : gD p s m args c cL_steps 16 RL Z) (hNc : gNc s) (hlk : meth.locks = false) (hrt : meth.sig.returnType = some .boolean) (M : gM) (a1 : Int32) (a4 : Int32) (a9 : Int64) : gY p l e rm_L_steps s m args below meth c 16 Z (fun F => vx_MQ below (gQc 1 Z F) (gXc Z F) args s 13 (6 * 13) (zA Z)) 11 M 286 [(0, .ref (zad Z 0)), (1, .int a1), (4, .int a4), (9, .long a9)] [] (f_L_steps_b286 M a1 a4 a9) := by
  unfold f_L_steps_b286
  refine h_iconst hC (v := 0) dL_steps_286 (by decide) ?_
  exact g_L_steps_b287 hfl hC hNc hlk hrt M a1 a4 a9 0
set_option maxRecDepth 20000 in
set_option maxHeartbeats 4000000 in
theorem g_L_steps_b245 {p : Program} {l : Launch} {e : Env} {s : State} {m : MethodId} {args : Array Value} {below : List Frame} {meth : Method} {c : Code} {Z : gZ} (hfl : l.stackTraces = false) (hC : gD p s m args c cL_steps 16 RL Z) (hNc : gNc s) (hlk : meth.locks = false) (hrt : meth.sig.returnType = some .boolean) (M : gM) (a1 : Int32) (a4 : Int32) (a9 : Int64) : gY p l e rm_L_steps s m args below meth c 16 Z (fun F => vx_MQ below (gQc 1 Z F) (gXc Z F) args s 13 (6 * 13) (zA Z)) 6 M 245 [(0, .ref (zad Z 0)), (1, .int a1), (4, .int a4), (9, .long a9)] [] (f_L_steps_b245 M a1 a4 a9) := by
  unfold f_L_steps_b245
  refine h_aload_n hC 0 dL_steps_245 rfl rfl ?_
  refine h_iload_n hC 1 dL_steps_246 rfl rfl ?_
  refine h_callW (n := 2) hC [.ref (zad Z 0), .int a1] hNc (c_L_stateOf hfl Z M a1) lk_L_182 mw_L_stateOf.1 mw_L_stateOf.2.1 mw_L_stateOf.2.2 ⟨by decide, by decide, by decide +kernel⟩ rfl rfl ⟨by decide, by decide⟩ rfl rfl (Nat.le_of_ble_eq_true rfl) (Nat.le_of_ble_eq_true rfl) (Nat.le_of_ble_eq_true rfl) dL_steps_247 (fun x2 M1 => ?_)
  refine h_lconst hC (v := 1) dL_steps_250 (by decide) ?_
  refine h_lcmp_eq (tgt := 282) hC dL_steps_251 dL_steps_252 (by decide) (fun _ => ?_) (fun _ => ?_)
  · refine h_widen (k1 := 11) (Nat.le_of_ble_eq_true rfl) ?_
    exact g_L_steps_b282 hfl hC hNc hlk hrt M1 a1 a4 a9
  · refine h_aload_n hC 0 dL_steps_255 rfl rfl ?_
    refine h_iload_n hC 1 dL_steps_256 rfl rfl ?_
    refine h_callW (n := 2) hC [.ref (zad Z 0), .int a1] hNc (c_L_balance hfl Z M1 a1) lk_L_187 mw_L_balance.1 mw_L_balance.2.1 mw_L_balance.2.2 ⟨by decide, by decide, by decide +kernel⟩ rfl rfl ⟨by decide, by decide⟩ rfl rfl (Nat.le_of_ble_eq_true rfl) (Nat.le_of_ble_eq_true rfl) (Nat.le_of_ble_eq_true rfl) dL_steps_257 (fun x4 M3 => ?_)
    refine h_aload_n hC 0 dL_steps_260 rfl rfl ?_
    refine h_iload_n hC 1 dL_steps_261 rfl rfl ?_
    refine h_callW (n := 2) hC [.ref (zad Z 0), .int a1] hNc (c_L_amountOf hfl Z M3 a1) lk_L_193 mw_L_amountOf.1 mw_L_amountOf.2.1 mw_L_amountOf.2.2 ⟨by decide, by decide, by decide +kernel⟩ rfl rfl ⟨by decide, by decide⟩ rfl rfl (Nat.le_of_ble_eq_true rfl) (Nat.le_of_ble_eq_true rfl) (Nat.le_of_ble_eq_true rfl) dL_steps_262 (fun x6 M5 => ?_)
    refine h_lcmp_ne (tgt := 286) hC dL_steps_265 dL_steps_266 (by decide) (fun _ => ?_) (fun _ => ?_)
    · refine h_aload_n hC 0 dL_steps_269 rfl rfl ?_
      refine h_iconst hC (v := 2) dL_steps_270 (by decide) ?_
      refine h_iload_n hC 1 dL_steps_271 rfl rfl ?_
      refine h_callW (n := 3) hC [.ref (zad Z 0), .int 2, .int a1] hNc (c_L_due hfl Z M5 2 a1) lk_L_199 mw_L_due.1 mw_L_due.2.1 mw_L_due.2.2 ⟨by decide, by decide, by decide +kernel⟩ rfl rfl ⟨by decide, by decide⟩ rfl rfl (Nat.le_of_ble_eq_true rfl) (Nat.le_of_ble_eq_true rfl) (Nat.le_of_ble_eq_true rfl) dL_steps_272 (fun x8 M7 => ?_)
      refine h_ldc2 hC (v := (-9000000000000000001)) lc_L_33 dL_steps_275 ?_
      refine h_lcmp_eq (tgt := 286) hC dL_steps_278 dL_steps_279 (by decide) (fun _ => ?_) (fun _ => ?_)
      · exact g_L_steps_b286 hfl hC hNc hlk hrt M7 a1 a4 a9
      · exact g_L_steps_b282 hfl hC hNc hlk hrt M7 a1 a4 a9
    · refine h_widen (k1 := 11) (Nat.le_of_ble_eq_true rfl) ?_
      exact g_L_steps_b286 hfl hC hNc hlk hrt M5 a1 a4 a9
set_option maxRecDepth 20000 in
set_option maxHeartbeats 4000000 in
theorem g_L_steps_b202 {p : Program} {l : Launch} {e : Env} {s : State} {m : MethodId} {args : Array Value} {below : List Frame} {meth : Method} {c : Code} {Z : gZ} (hfl : l.stackTraces = false) (hC : gD p s m args c cL_steps 16 RL Z) (hNc : gNc s) (hlk : meth.locks = false) (hrt : meth.sig.returnType = some .boolean) (M : gM) (a1 : Int32) (a4 : Int32) (a5 : Int64) (t1 : Int32) (t2 : Int32) : gY p l e rm_L_steps s m args below meth c 16 Z (fun F => vx_MQ below (gQc 1 Z F) (gXc Z F) args s 13 (6 * 13) (zA Z)) 2 M 202 [(0, .ref (zad Z 0)), (1, .int a1), (4, .int a4), (5, .long a5)] [.int t2, .int t1, .ref (zad Z 0)] (f_L_steps_b202 M a1 a4 a5 t1 t2) := by
  unfold f_L_steps_b202
  refine h_callW (n := 3) hC [.ref (zad Z 0), .int t1, .int t2] hNc (c_L_judge hfl Z M t1 t2) lk_L_254 mw_L_judge.1 mw_L_judge.2.1 mw_L_judge.2.2 ⟨by decide, by decide, by decide +kernel⟩ rfl rfl ⟨by decide, by decide⟩ rfl rfl (Nat.le_of_ble_eq_true rfl) (Nat.le_of_ble_eq_true rfl) (Nat.le_of_ble_eq_true rfl) dL_steps_202 (fun x2 M1 => ?_)
  refine h_lstore hC (lv1 := [(9, .long x2), (0, .ref (zad Z 0)), (1, .int a1), (4, .int a4), (5, .long a5)]) dL_steps_205 (by decide) rfl ?_
  refine h_lload hC 0 dL_steps_207 rfl ?_
  refine h_ldc2 hC (v := (-9000000000000000003)) lc_L_21 dL_steps_209 ?_
  refine h_lcmp_eq (tgt := 282) hC dL_steps_212 dL_steps_213 (by decide) (fun _ => ?_) (fun _ => ?_)
  · refine h_sub (lv1 := [(0, .ref (zad Z 0)), (1, .int a1), (4, .int a4), (9, .long x2)]) [1, 2, 3, 0] rfl ?_
    refine h_widen (k1 := 11) (Nat.le_of_ble_eq_true rfl) ?_
    exact g_L_steps_b282 hfl hC hNc hlk hrt M1 a1 a4 x2
  · refine h_lload hC 4 dL_steps_216 rfl ?_
    refine h_lconst hC (v := 0) dL_steps_218 (by decide) ?_
    refine h_lcmp_ne (tgt := 286) hC dL_steps_219 dL_steps_220 (by decide) (fun _ => ?_) (fun _ => ?_)
    · refine h_aload_n hC 1 dL_steps_223 rfl rfl ?_
      refine h_iload_n hC 2 dL_steps_224 rfl rfl ?_
      refine h_callW (n := 2) hC [.ref (zad Z 0), .int a1] hNc (c_L_stateOf hfl Z M1 a1) lk_L_182 mw_L_stateOf.1 mw_L_stateOf.2.1 mw_L_stateOf.2.2 ⟨by decide, by decide, by decide +kernel⟩ rfl rfl ⟨by decide, by decide⟩ rfl rfl (Nat.le_of_ble_eq_true rfl) (Nat.le_of_ble_eq_true rfl) (Nat.le_of_ble_eq_true rfl) dL_steps_225 (fun x4 M3 => ?_)
      refine h_ldc2 hC (v := 2) lc_L_195 dL_steps_228 ?_
      refine h_lcmp_eq (tgt := 245) hC dL_steps_231 dL_steps_232 (by decide) (fun _ => ?_) (fun _ => ?_)
      · refine h_sub (lv1 := [(0, .ref (zad Z 0)), (1, .int a1), (4, .int a4), (9, .long x2)]) [1, 2, 3, 0] rfl ?_
        refine h_widen (k1 := 6) (Nat.le_of_ble_eq_true rfl) ?_
        exact g_L_steps_b245 hfl hC hNc hlk hrt M3 a1 a4 x2
      · refine h_aload_n hC 1 dL_steps_235 rfl rfl ?_
        refine h_iload_n hC 2 dL_steps_236 rfl rfl ?_
        refine h_callW (n := 2) hC [.ref (zad Z 0), .int a1] hNc (c_L_stateOf hfl Z M3 a1) lk_L_182 mw_L_stateOf.1 mw_L_stateOf.2.1 mw_L_stateOf.2.2 ⟨by decide, by decide, by decide +kernel⟩ rfl rfl ⟨by decide, by decide⟩ rfl rfl (Nat.le_of_ble_eq_true rfl) (Nat.le_of_ble_eq_true rfl) (Nat.le_of_ble_eq_true rfl) dL_steps_237 (fun x6 M5 => ?_)
        refine h_lconst hC (v := 1) dL_steps_240 (by decide) ?_
        refine h_lcmp_ne (tgt := 286) hC dL_steps_241 dL_steps_242 (by decide) (fun _ => ?_) (fun _ => ?_)
        · refine h_sub (lv1 := [(0, .ref (zad Z 0)), (1, .int a1), (4, .int a4), (9, .long x2)]) [1, 2, 3, 0] rfl ?_
          exact g_L_steps_b245 hfl hC hNc hlk hrt M5 a1 a4 x2
        · refine h_sub (lv1 := [(0, .ref (zad Z 0)), (1, .int a1), (4, .int a4), (9, .long x2)]) [1, 2, 3, 0] rfl ?_
          refine h_widen (k1 := 11) (Nat.le_of_ble_eq_true rfl) ?_
          exact g_L_steps_b286 hfl hC hNc hlk hrt M5 a1 a4 x2
    · refine h_sub (lv1 := [(0, .ref (zad Z 0)), (1, .int a1), (4, .int a4), (9, .long x2)]) [1, 2, 3, 0] rfl ?_
      refine h_widen (k1 := 11) (Nat.le_of_ble_eq_true rfl) ?_
      exact g_L_steps_b286 hfl hC hNc hlk hrt M1 a1 a4 x2
set_option maxRecDepth 20000 in
set_option maxHeartbeats 4000000 in
theorem g_L_steps_b338 {p : Program} {l : Launch} {e : Env} {s : State} {m : MethodId} {args : Array Value} {below : List Frame} {meth : Method} {c : Code} {Z : gZ} (hfl : l.stackTraces = false) (hC : gD p s m args c cL_steps 16 RL Z) (hNc : gNc s) (hlk : meth.locks = false) (hrt : meth.sig.returnType = some .boolean) (M : gM) (a1 : Int32) (a4 : Int32) (a9 : Int64) (t0 : Int32) : gY p l e rm_L_steps s m args below meth c 16 Z (fun F => vx_MQ below (gQc 1 Z F) (gXc Z F) args s 13 (6 * 13) (zA Z)) 6 M 338 [(0, .ref (zad Z 0)), (1, .int a1), (4, .int a4), (9, .long a9)] [.int t0] (f_L_steps_b338 M a1 a4 a9 t0) := by
  unfold f_L_steps_b338
  refine h_istore hC (lv1 := [(11, .int t0), (0, .ref (zad Z 0)), (1, .int a1), (4, .int a4), (9, .long a9)]) dL_steps_338 (by decide) rfl ?_
  refine h_goto (tgt := 727) hC dL_steps_340 (by decide) ?_
  refine h_sub (lv1 := [(0, .ref (zad Z 0)), (1, .int a1), (4, .int a4), (9, .long a9), (11, .int t0)]) [1, 2, 3, 4, 0] rfl ?_
  refine h_widen (k1 := 11) (Nat.le_of_ble_eq_true rfl) ?_
  exact g_L_steps_b727 hfl hC hNc hlk hrt M a1 a4 a9 t0
set_option maxRecDepth 20000 in
set_option maxHeartbeats 4000000 in
theorem g_L_steps_b333 {p : Program} {l : Launch} {e : Env} {s : State} {m : MethodId} {args : Array Value} {below : List Frame} {meth : Method} {c : Code} {Z : gZ} (hfl : l.stackTraces = false) (hC : gD p s m args c cL_steps 16 RL Z) (hNc : gNc s) (hlk : meth.locks = false) (hrt : meth.sig.returnType = some .boolean) (M : gM) (a1 : Int32) (a4 : Int32) (a9 : Int64) : gY p l e rm_L_steps s m args below meth c 16 Z (fun F => vx_MQ below (gQc 1 Z F) (gXc Z F) args s 13 (6 * 13) (zA Z)) 6 M 333 [(0, .ref (zad Z 0)), (1, .int a1), (4, .int a4), (9, .long a9)] [] (f_L_steps_b333 M a1 a4 a9) := by
  unfold f_L_steps_b333
  refine h_iconst hC (v := 1) dL_steps_333 (by decide) ?_
  refine h_goto (tgt := 338) hC dL_steps_334 (by decide) ?_
  exact g_L_steps_b338 hfl hC hNc hlk hrt M a1 a4 a9 1
set_option maxRecDepth 20000 in
set_option maxHeartbeats 4000000 in
theorem g_L_steps_b337 {p : Program} {l : Launch} {e : Env} {s : State} {m : MethodId} {args : Array Value} {below : List Frame} {meth : Method} {c : Code} {Z : gZ} (hfl : l.stackTraces = false) (hC : gD p s m args c cL_steps 16 RL Z) (hNc : gNc s) (hlk : meth.locks = false) (hrt : meth.sig.returnType = some .boolean) (M : gM) (a1 : Int32) (a4 : Int32) (a9 : Int64) : gY p l e rm_L_steps s m args below meth c 16 Z (fun F => vx_MQ below (gQc 1 Z F) (gXc Z F) args s 13 (6 * 13) (zA Z)) 6 M 337 [(0, .ref (zad Z 0)), (1, .int a1), (4, .int a4), (9, .long a9)] [] (f_L_steps_b337 M a1 a4 a9) := by
  unfold f_L_steps_b337
  refine h_iconst hC (v := 0) dL_steps_337 (by decide) ?_
  exact g_L_steps_b338 hfl hC hNc hlk hrt M a1 a4 a9 0
set_option maxRecDepth 20000 in
set_option maxHeartbeats 4000000 in
theorem g_L_steps_b400 {p : Program} {l : Launch} {e : Env} {s : State} {m : MethodId} {args : Array Value} {below : List Frame} {meth : Method} {c : Code} {Z : gZ} (hfl : l.stackTraces = false) (hC : gD p s m args c cL_steps 16 RL Z) (hNc : gNc s) (hlk : meth.locks = false) (hrt : meth.sig.returnType = some .boolean) (M : gM) (a1 : Int32) (a4 : Int32) (a9 : Int64) (t0 : Int32) : gY p l e rm_L_steps s m args below meth c 16 Z (fun F => vx_MQ below (gQc 1 Z F) (gXc Z F) args s 13 (6 * 13) (zA Z)) 6 M 400 [(0, .ref (zad Z 0)), (1, .int a1), (4, .int a4), (9, .long a9)] [.int t0] (f_L_steps_b400 M a1 a4 a9 t0) := by
  unfold f_L_steps_b400
  refine h_istore hC (lv1 := [(11, .int t0), (0, .ref (zad Z 0)), (1, .int a1), (4, .int a4), (9, .long a9)]) dL_steps_400 (by decide) rfl ?_
  refine h_goto (tgt := 727) hC dL_steps_402 (by decide) ?_
  refine h_sub (lv1 := [(0, .ref (zad Z 0)), (1, .int a1), (4, .int a4), (9, .long a9), (11, .int t0)]) [1, 2, 3, 4, 0] rfl ?_
  refine h_widen (k1 := 11) (Nat.le_of_ble_eq_true rfl) ?_
  exact g_L_steps_b727 hfl hC hNc hlk hrt M a1 a4 a9 t0
set_option maxRecDepth 20000 in
set_option maxHeartbeats 4000000 in
theorem g_L_steps_b395 {p : Program} {l : Launch} {e : Env} {s : State} {m : MethodId} {args : Array Value} {below : List Frame} {meth : Method} {c : Code} {Z : gZ} (hfl : l.stackTraces = false) (hC : gD p s m args c cL_steps 16 RL Z) (hNc : gNc s) (hlk : meth.locks = false) (hrt : meth.sig.returnType = some .boolean) (M : gM) (a1 : Int32) (a4 : Int32) (a9 : Int64) : gY p l e rm_L_steps s m args below meth c 16 Z (fun F => vx_MQ below (gQc 1 Z F) (gXc Z F) args s 13 (6 * 13) (zA Z)) 6 M 395 [(0, .ref (zad Z 0)), (1, .int a1), (4, .int a4), (9, .long a9)] [] (f_L_steps_b395 M a1 a4 a9) := by
  unfold f_L_steps_b395
  refine h_iconst hC (v := 1) dL_steps_395 (by decide) ?_
  refine h_goto (tgt := 400) hC dL_steps_396 (by decide) ?_
  exact g_L_steps_b400 hfl hC hNc hlk hrt M a1 a4 a9 1
set_option maxRecDepth 20000 in
set_option maxHeartbeats 4000000 in
theorem g_L_steps_b399 {p : Program} {l : Launch} {e : Env} {s : State} {m : MethodId} {args : Array Value} {below : List Frame} {meth : Method} {c : Code} {Z : gZ} (hfl : l.stackTraces = false) (hC : gD p s m args c cL_steps 16 RL Z) (hNc : gNc s) (hlk : meth.locks = false) (hrt : meth.sig.returnType = some .boolean) (M : gM) (a1 : Int32) (a4 : Int32) (a9 : Int64) : gY p l e rm_L_steps s m args below meth c 16 Z (fun F => vx_MQ below (gQc 1 Z F) (gXc Z F) args s 13 (6 * 13) (zA Z)) 6 M 399 [(0, .ref (zad Z 0)), (1, .int a1), (4, .int a4), (9, .long a9)] [] (f_L_steps_b399 M a1 a4 a9) := by
  unfold f_L_steps_b399
  refine h_iconst hC (v := 0) dL_steps_399 (by decide) ?_
  exact g_L_steps_b400 hfl hC hNc hlk hrt M a1 a4 a9 0
set_option maxRecDepth 20000 in
set_option maxHeartbeats 4000000 in
theorem g_L_steps_b498 {p : Program} {l : Launch} {e : Env} {s : State} {m : MethodId} {args : Array Value} {below : List Frame} {meth : Method} {c : Code} {Z : gZ} (hfl : l.stackTraces = false) (hC : gD p s m args c cL_steps 16 RL Z) (hNc : gNc s) (hlk : meth.locks = false) (hrt : meth.sig.returnType = some .boolean) (M : gM) (a1 : Int32) (a4 : Int32) (a9 : Int64) (t0 : Int32) : gY p l e rm_L_steps s m args below meth c 16 Z (fun F => vx_MQ below (gQc 1 Z F) (gXc Z F) args s 13 (6 * 13) (zA Z)) 6 M 498 [(0, .ref (zad Z 0)), (1, .int a1), (4, .int a4), (9, .long a9)] [.int t0] (f_L_steps_b498 M a1 a4 a9 t0) := by
  unfold f_L_steps_b498
  refine h_istore hC (lv1 := [(11, .int t0), (0, .ref (zad Z 0)), (1, .int a1), (4, .int a4), (9, .long a9)]) dL_steps_498 (by decide) rfl ?_
  refine h_goto (tgt := 727) hC dL_steps_500 (by decide) ?_
  refine h_sub (lv1 := [(0, .ref (zad Z 0)), (1, .int a1), (4, .int a4), (9, .long a9), (11, .int t0)]) [1, 2, 3, 4, 0] rfl ?_
  refine h_widen (k1 := 11) (Nat.le_of_ble_eq_true rfl) ?_
  exact g_L_steps_b727 hfl hC hNc hlk hrt M a1 a4 a9 t0
set_option maxRecDepth 20000 in
set_option maxHeartbeats 4000000 in
theorem g_L_steps_b493 {p : Program} {l : Launch} {e : Env} {s : State} {m : MethodId} {args : Array Value} {below : List Frame} {meth : Method} {c : Code} {Z : gZ} (hfl : l.stackTraces = false) (hC : gD p s m args c cL_steps 16 RL Z) (hNc : gNc s) (hlk : meth.locks = false) (hrt : meth.sig.returnType = some .boolean) (M : gM) (a1 : Int32) (a4 : Int32) (a9 : Int64) : gY p l e rm_L_steps s m args below meth c 16 Z (fun F => vx_MQ below (gQc 1 Z F) (gXc Z F) args s 13 (6 * 13) (zA Z)) 6 M 493 [(0, .ref (zad Z 0)), (1, .int a1), (4, .int a4), (9, .long a9)] [] (f_L_steps_b493 M a1 a4 a9) := by
  unfold f_L_steps_b493
  refine h_iconst hC (v := 1) dL_steps_493 (by decide) ?_
  refine h_goto (tgt := 498) hC dL_steps_494 (by decide) ?_
  exact g_L_steps_b498 hfl hC hNc hlk hrt M a1 a4 a9 1
set_option maxRecDepth 20000 in
set_option maxHeartbeats 4000000 in
theorem g_L_steps_b497 {p : Program} {l : Launch} {e : Env} {s : State} {m : MethodId} {args : Array Value} {below : List Frame} {meth : Method} {c : Code} {Z : gZ} (hfl : l.stackTraces = false) (hC : gD p s m args c cL_steps 16 RL Z) (hNc : gNc s) (hlk : meth.locks = false) (hrt : meth.sig.returnType = some .boolean) (M : gM) (a1 : Int32) (a4 : Int32) (a9 : Int64) : gY p l e rm_L_steps s m args below meth c 16 Z (fun F => vx_MQ below (gQc 1 Z F) (gXc Z F) args s 13 (6 * 13) (zA Z)) 6 M 497 [(0, .ref (zad Z 0)), (1, .int a1), (4, .int a4), (9, .long a9)] [] (f_L_steps_b497 M a1 a4 a9) := by
  unfold f_L_steps_b497
  refine h_iconst hC (v := 0) dL_steps_497 (by decide) ?_
  exact g_L_steps_b498 hfl hC hNc hlk hrt M a1 a4 a9 0
set_option maxRecDepth 20000 in
set_option maxHeartbeats 4000000 in
theorem g_L_steps_b478 {p : Program} {l : Launch} {e : Env} {s : State} {m : MethodId} {args : Array Value} {below : List Frame} {meth : Method} {c : Code} {Z : gZ} (hfl : l.stackTraces = false) (hC : gD p s m args c cL_steps 16 RL Z) (hNc : gNc s) (hlk : meth.locks = false) (hrt : meth.sig.returnType = some .boolean) (M : gM) (a1 : Int32) (a4 : Int32) (a7 : Int64) (a9 : Int64) (t0 : Int64) (t1 : Int64) : gY p l e rm_L_steps s m args below meth c 16 Z (fun F => vx_MQ below (gQc 1 Z F) (gXc Z F) args s 13 (6 * 13) (zA Z)) 5 M 478 [(0, .ref (zad Z 0)), (1, .int a1), (4, .int a4), (7, .long a7), (9, .long a9)] [.long t1, .long t0] (f_L_steps_b478 M a1 a4 a7 a9 t0 t1) := by
  unfold f_L_steps_b478
  refine h_lcmp_ne (tgt := 497) hC dL_steps_478 dL_steps_479 (by decide) (fun _ => ?_) (fun _ => ?_)
  · refine h_aload_n hC 0 dL_steps_482 rfl rfl ?_
    refine h_iload_n hC 1 dL_steps_483 rfl rfl ?_
    refine h_callW (n := 2) hC [.ref (zad Z 0), .int a1] hNc (c_L_amountOf hfl Z M a1) lk_L_193 mw_L_amountOf.1 mw_L_amountOf.2.1 mw_L_amountOf.2.2 ⟨by decide, by decide, by decide +kernel⟩ rfl rfl ⟨by decide, by decide⟩ rfl rfl (Nat.le_of_ble_eq_true rfl) (Nat.le_of_ble_eq_true rfl) (Nat.le_of_ble_eq_true rfl) dL_steps_484 (fun x2 M1 => ?_)
    refine h_lload hC 3 dL_steps_487 rfl ?_
    refine h_lcmp_lt (tgt := 497) hC dL_steps_489 dL_steps_490 (by decide) (fun _ => ?_) (fun _ => ?_)
    · refine h_sub (lv1 := [(0, .ref (zad Z 0)), (1, .int a1), (4, .int a4), (9, .long a9)]) [0, 1, 2, 4] rfl ?_
      exact g_L_steps_b497 hfl hC hNc hlk hrt M1 a1 a4 a9
    · refine h_sub (lv1 := [(0, .ref (zad Z 0)), (1, .int a1), (4, .int a4), (9, .long a9)]) [0, 1, 2, 4] rfl ?_
      exact g_L_steps_b493 hfl hC hNc hlk hrt M1 a1 a4 a9
  · refine h_sub (lv1 := [(0, .ref (zad Z 0)), (1, .int a1), (4, .int a4), (9, .long a9)]) [0, 1, 2, 4] rfl ?_
    refine h_widen (k1 := 6) (Nat.le_of_ble_eq_true rfl) ?_
    exact g_L_steps_b497 hfl hC hNc hlk hrt M a1 a4 a9
set_option maxRecDepth 20000 in
set_option maxHeartbeats 4000000 in
theorem g_L_steps_b572 {p : Program} {l : Launch} {e : Env} {s : State} {m : MethodId} {args : Array Value} {below : List Frame} {meth : Method} {c : Code} {Z : gZ} (hfl : l.stackTraces = false) (hC : gD p s m args c cL_steps 16 RL Z) (hNc : gNc s) (hlk : meth.locks = false) (hrt : meth.sig.returnType = some .boolean) (M : gM) (a1 : Int32) (a4 : Int32) (a9 : Int64) (t0 : Int32) : gY p l e rm_L_steps s m args below meth c 16 Z (fun F => vx_MQ below (gQc 1 Z F) (gXc Z F) args s 13 (6 * 13) (zA Z)) 9 M 572 [(0, .ref (zad Z 0)), (1, .int a1), (4, .int a4), (9, .long a9)] [.int t0] (f_L_steps_b572 M a1 a4 a9 t0) := by
  unfold f_L_steps_b572
  refine h_istore hC (lv1 := [(11, .int t0), (0, .ref (zad Z 0)), (1, .int a1), (4, .int a4), (9, .long a9)]) dL_steps_572 (by decide) rfl ?_
  refine h_goto (tgt := 727) hC dL_steps_574 (by decide) ?_
  refine h_sub (lv1 := [(0, .ref (zad Z 0)), (1, .int a1), (4, .int a4), (9, .long a9), (11, .int t0)]) [1, 2, 3, 4, 0] rfl ?_
  refine h_widen (k1 := 11) (Nat.le_of_ble_eq_true rfl) ?_
  exact g_L_steps_b727 hfl hC hNc hlk hrt M a1 a4 a9 t0
set_option maxRecDepth 20000 in
set_option maxHeartbeats 4000000 in
theorem g_L_steps_b567 {p : Program} {l : Launch} {e : Env} {s : State} {m : MethodId} {args : Array Value} {below : List Frame} {meth : Method} {c : Code} {Z : gZ} (hfl : l.stackTraces = false) (hC : gD p s m args c cL_steps 16 RL Z) (hNc : gNc s) (hlk : meth.locks = false) (hrt : meth.sig.returnType = some .boolean) (M : gM) (a1 : Int32) (a4 : Int32) (a9 : Int64) : gY p l e rm_L_steps s m args below meth c 16 Z (fun F => vx_MQ below (gQc 1 Z F) (gXc Z F) args s 13 (6 * 13) (zA Z)) 9 M 567 [(0, .ref (zad Z 0)), (1, .int a1), (4, .int a4), (9, .long a9)] [] (f_L_steps_b567 M a1 a4 a9) := by
  unfold f_L_steps_b567
  refine h_iconst hC (v := 1) dL_steps_567 (by decide) ?_
  refine h_goto (tgt := 572) hC dL_steps_568 (by decide) ?_
  exact g_L_steps_b572 hfl hC hNc hlk hrt M a1 a4 a9 1
set_option maxRecDepth 20000 in
set_option maxHeartbeats 4000000 in
theorem g_L_steps_b571 {p : Program} {l : Launch} {e : Env} {s : State} {m : MethodId} {args : Array Value} {below : List Frame} {meth : Method} {c : Code} {Z : gZ} (hfl : l.stackTraces = false) (hC : gD p s m args c cL_steps 16 RL Z) (hNc : gNc s) (hlk : meth.locks = false) (hrt : meth.sig.returnType = some .boolean) (M : gM) (a1 : Int32) (a4 : Int32) (a9 : Int64) : gY p l e rm_L_steps s m args below meth c 16 Z (fun F => vx_MQ below (gQc 1 Z F) (gXc Z F) args s 13 (6 * 13) (zA Z)) 9 M 571 [(0, .ref (zad Z 0)), (1, .int a1), (4, .int a4), (9, .long a9)] [] (f_L_steps_b571 M a1 a4 a9) := by
  unfold f_L_steps_b571
  refine h_iconst hC (v := 0) dL_steps_571 (by decide) ?_
  exact g_L_steps_b572 hfl hC hNc hlk hrt M a1 a4 a9 0
set_option maxRecDepth 20000 in
set_option maxHeartbeats 4000000 in
theorem g_L_steps_b725 {p : Program} {l : Launch} {e : Env} {s : State} {m : MethodId} {args : Array Value} {below : List Frame} {meth : Method} {c : Code} {Z : gZ} (hfl : l.stackTraces = false) (hC : gD p s m args c cL_steps 16 RL Z) (hNc : gNc s) (hlk : meth.locks = false) (hrt : meth.sig.returnType = some .boolean) (M : gM) (a1 : Int32) (a4 : Int32) (a11 : Int32) (t0 : Int64) : gY p l e rm_L_steps s m args below meth c 16 Z (fun F => vx_MQ below (gQc 1 Z F) (gXc Z F) args s 13 (6 * 13) (zA Z)) 7 M 725 [(0, .ref (zad Z 0)), (1, .int a1), (4, .int a4), (11, .int a11)] [.long t0] (f_L_steps_b725 M a1 a4 a11 t0) := by
  unfold f_L_steps_b725
  refine h_lstore hC (lv1 := [(9, .long t0), (0, .ref (zad Z 0)), (1, .int a1), (4, .int a4), (11, .int a11)]) dL_steps_725 (by decide) rfl ?_
  refine h_sub (lv1 := [(0, .ref (zad Z 0)), (1, .int a1), (4, .int a4), (9, .long t0), (11, .int a11)]) [1, 2, 3, 0, 4] rfl ?_
  refine h_widen (k1 := 11) (Nat.le_of_ble_eq_true rfl) ?_
  exact g_L_steps_b727 hfl hC hNc hlk hrt M a1 a4 t0 a11
set_option maxRecDepth 20000 in
set_option maxHeartbeats 4000000 in
theorem g_L_steps_b705 {p : Program} {l : Launch} {e : Env} {s : State} {m : MethodId} {args : Array Value} {below : List Frame} {meth : Method} {c : Code} {Z : gZ} (hfl : l.stackTraces = false) (hC : gD p s m args c cL_steps 16 RL Z) (hNc : gNc s) (hlk : meth.locks = false) (hrt : meth.sig.returnType = some .boolean) (M : gM) (a1 : Int32) (a4 : Int32) (a14 : Int64) (t0 : Int32) : gY p l e rm_L_steps s m args below meth c 16 Z (fun F => vx_MQ below (gQc 1 Z F) (gXc Z F) args s 13 (6 * 13) (zA Z)) 7 M 705 [(0, .ref (zad Z 0)), (1, .int a1), (4, .int a4), (14, .long a14)] [.int t0] (f_L_steps_b705 M a1 a4 a14 t0) := by
  unfold f_L_steps_b705
  refine h_istore hC (lv1 := [(11, .int t0), (0, .ref (zad Z 0)), (1, .int a1), (4, .int a4), (14, .long a14)]) dL_steps_705 (by decide) rfl ?_
  refine h_lload hC 4 dL_steps_707 rfl ?_
  refine h_ldc2 hC (v := (-9000000000000000003)) lc_L_21 dL_steps_709 ?_
  refine h_lcmp_ne (tgt := 722) hC dL_steps_712 dL_steps_713 (by decide) (fun _ => ?_) (fun _ => ?_)
  · refine h_ldc2 hC (v := (-9000000000000000003)) lc_L_21 dL_steps_716 ?_
    refine h_goto (tgt := 725) hC dL_steps_719 (by decide) ?_
    refine h_sub (lv1 := [(0, .ref (zad Z 0)), (1, .int a1), (4, .int a4), (11, .int t0)]) [1, 2, 3, 0] rfl ?_
    exact g_L_steps_b725 hfl hC hNc hlk hrt M a1 a4 t0 (-9000000000000000003)
  · refine h_iload hC 3 dL_steps_722 rfl ?_
    refine h_i2l hC dL_steps_724 ?_
    refine h_sub (lv1 := [(0, .ref (zad Z 0)), (1, .int a1), (4, .int a4), (11, .int t0)]) [1, 2, 3, 0] rfl ?_
    exact g_L_steps_b725 hfl hC hNc hlk hrt M a1 a4 t0 a4.toInt64
set_option maxRecDepth 20000 in
set_option maxHeartbeats 4000000 in
theorem g_L_steps_b648 {p : Program} {l : Launch} {e : Env} {s : State} {m : MethodId} {args : Array Value} {below : List Frame} {meth : Method} {c : Code} {Z : gZ} (hfl : l.stackTraces = false) (hC : gD p s m args c cL_steps 16 RL Z) (hNc : gNc s) (hlk : meth.locks = false) (hrt : meth.sig.returnType = some .boolean) (M : gM) (a1 : Int32) (a4 : Int32) (a14 : Int64) : gY p l e rm_L_steps s m args below meth c 16 Z (fun F => vx_MQ below (gQc 1 Z F) (gXc Z F) args s 13 (6 * 13) (zA Z)) 6 M 648 [(0, .ref (zad Z 0)), (1, .int a1), (4, .int a4), (14, .long a14)] [] (f_L_steps_b648 M a1 a4 a14) := by
  unfold f_L_steps_b648
  refine h_iconst hC (v := 1) dL_steps_648 (by decide) ?_
  refine h_goto (tgt := 705) hC dL_steps_649 (by decide) ?_
  refine h_widen (k1 := 7) (Nat.le_of_ble_eq_true rfl) ?_
  exact g_L_steps_b705 hfl hC hNc hlk hrt M a1 a4 a14 1
set_option maxRecDepth 20000 in
set_option maxHeartbeats 4000000 in
theorem g_L_steps_b704 {p : Program} {l : Launch} {e : Env} {s : State} {m : MethodId} {args : Array Value} {below : List Frame} {meth : Method} {c : Code} {Z : gZ} (hfl : l.stackTraces = false) (hC : gD p s m args c cL_steps 16 RL Z) (hNc : gNc s) (hlk : meth.locks = false) (hrt : meth.sig.returnType = some .boolean) (M : gM) (a1 : Int32) (a4 : Int32) (a14 : Int64) : gY p l e rm_L_steps s m args below meth c 16 Z (fun F => vx_MQ below (gQc 1 Z F) (gXc Z F) args s 13 (6 * 13) (zA Z)) 7 M 704 [(0, .ref (zad Z 0)), (1, .int a1), (4, .int a4), (14, .long a14)] [] (f_L_steps_b704 M a1 a4 a14) := by
  unfold f_L_steps_b704
  refine h_iconst hC (v := 0) dL_steps_704 (by decide) ?_
  exact g_L_steps_b705 hfl hC hNc hlk hrt M a1 a4 a14 0
set_option maxRecDepth 20000 in
set_option maxHeartbeats 4000000 in
theorem g_L_steps_b696 {p : Program} {l : Launch} {e : Env} {s : State} {m : MethodId} {args : Array Value} {below : List Frame} {meth : Method} {c : Code} {Z : gZ} (hfl : l.stackTraces = false) (hC : gD p s m args c cL_steps 16 RL Z) (hNc : gNc s) (hlk : meth.locks = false) (hrt : meth.sig.returnType = some .boolean) (M : gM) (a1 : Int32) (a4 : Int32) (a14 : Int64) (t0 : Int64) (t1 : Int64) : gY p l e rm_L_steps s m args below meth c 16 Z (fun F => vx_MQ below (gQc 1 Z F) (gXc Z F) args s 13 (6 * 13) (zA Z)) 7 M 696 [(0, .ref (zad Z 0)), (1, .int a1), (4, .int a4), (14, .long a14)] [.long t1, .long t0] (f_L_steps_b696 M a1 a4 a14 t0 t1) := by
  unfold f_L_steps_b696
  refine h_lcmp_ne (tgt := 704) hC dL_steps_696 dL_steps_697 (by decide) (fun _ => ?_) (fun _ => ?_)
  · refine h_iconst hC (v := 1) dL_steps_700 (by decide) ?_
    refine h_goto (tgt := 705) hC dL_steps_701 (by decide) ?_
    exact g_L_steps_b705 hfl hC hNc hlk hrt M a1 a4 a14 1
  · exact g_L_steps_b704 hfl hC hNc hlk hrt M a1 a4 a14
set_option maxRecDepth 20000 in
set_option maxHeartbeats 4000000 in
theorem g_L_steps_b577 {p : Program} {l : Launch} {e : Env} {s : State} {m : MethodId} {args : Array Value} {below : List Frame} {meth : Method} {c : Code} {Z : gZ} (hfl : l.stackTraces = false) (hC : gD p s m args c cL_steps 16 RL Z) (hNc : gNc s) (hlk : meth.locks = false) (hrt : meth.sig.returnType = some .boolean) (M : gM) (a1 : Int32) (a2 : Int32) (a3 : Int32) (a4 : Int32) (a5 : Int64) (a9 : Int64) (a11 : Int32) : gY p l e rm_L_steps s m args below meth c 16 Z (fun F => vx_MQ below (gQc 1 Z F) (gXc Z F) args s 13 (6 * 13) (zA Z)) 2 M 577 [(0, .ref (zad Z 0)), (1, .int a1), (2, .int a2), (3, .int a3), (4, .int a4), (5, .long a5), (9, .long a9), (11, .int a11)] [] (f_L_steps_b577 M a1 a2 a3 a4 a5 a9 a11) := by
  unfold f_L_steps_b577
  refine h_iload_n hC 2 dL_steps_577 rfl rfl ?_
  refine h_bipush hC (v := 7) dL_steps_578 (by decide) ?_
  refine h_icmp_ne (tgt := 727) hC dL_steps_580 (by decide) (fun _ => ?_) (fun _ => ?_)
  · refine h_aload_n hC 0 dL_steps_583 rfl rfl ?_
    refine h_iload_n hC 1 dL_steps_584 rfl rfl ?_
    refine h_callW (n := 2) hC [.ref (zad Z 0), .int a1] hNc (c_L_balance hfl Z M a1) lk_L_187 mw_L_balance.1 mw_L_balance.2.1 mw_L_balance.2.2 ⟨by decide, by decide, by decide +kernel⟩ rfl rfl ⟨by decide, by decide⟩ rfl rfl (Nat.le_of_ble_eq_true rfl) (Nat.le_of_ble_eq_true rfl) (Nat.le_of_ble_eq_true rfl) dL_steps_585 (fun x2 M1 => ?_)
    refine h_lstore hC (lv1 := [(12, .long x2), (0, .ref (zad Z 0)), (1, .int a1), (2, .int a2), (3, .int a3), (4, .int a4), (5, .long a5), (9, .long a9), (11, .int a11)]) dL_steps_588 (by decide) rfl ?_
    refine h_aload_n hC 1 dL_steps_590 rfl rfl ?_
    refine h_iload_n hC 2 dL_steps_591 rfl rfl ?_
    refine h_iconst hC (v := 1) dL_steps_592 (by decide) ?_
    refine h_iload_n hC 4 dL_steps_593 rfl rfl ?_
    refine h_iconst hC (v := 4) dL_steps_594 (by decide) ?_
    refine h_idiv hC dL_steps_595 ?_
    refine h_sipush hC (v := 3000) dL_steps_596 (by decide) ?_
    refine h_irem hC dL_steps_599 ?_
    refine h_iadd hC dL_steps_600 ?_
    refine h_callW (n := 3) hC [.ref (zad Z 0), .int a1, .int (1 + ((a3 / 4) - (a3 / 4) / 3000 * 3000))] hNc (c_L_pay hfl Z M1 a1 (1 + ((a3 / 4) - (a3 / 4) / 3000 * 3000))) lk_L_264 mw_L_pay.1 mw_L_pay.2.1 mw_L_pay.2.2 ⟨by decide, by decide, by decide +kernel⟩ rfl rfl ⟨by decide, by decide⟩ rfl rfl (Nat.le_of_ble_eq_true rfl) (Nat.le_of_ble_eq_true rfl) (Nat.le_of_ble_eq_true rfl) dL_steps_601 (fun x4 M3 => ?_)
    refine h_lstore hC (lv1 := [(14, .long x4), (12, .long x2), (0, .ref (zad Z 0)), (1, .int a1), (2, .int a2), (3, .int a3), (4, .int a4), (5, .long a5), (9, .long a9), (11, .int a11)]) dL_steps_604 (by decide) rfl ?_
    refine h_lload hC 0 dL_steps_606 rfl ?_
    refine h_ldc2 hC (v := (-9000000000000000003)) lc_L_21 dL_steps_608 ?_
    refine h_lcmp_ne (tgt := 656) hC dL_steps_611 dL_steps_612 (by decide) (fun _ => ?_) (fun _ => ?_)
    · refine h_lload hC 7 dL_steps_615 rfl ?_
      refine h_ldc2 hC (v := 2) lc_L_195 dL_steps_617 ?_
      refine h_lcmp_ne (tgt := 648) hC dL_steps_620 dL_steps_621 (by decide) (fun _ => ?_) (fun _ => ?_)
      · refine h_lload hC 1 dL_steps_624 rfl ?_
        refine h_iconst hC (v := 1) dL_steps_626 (by decide) ?_
        refine h_iload_n hC 5 dL_steps_627 rfl rfl ?_
        refine h_iconst hC (v := 4) dL_steps_628 (by decide) ?_
        refine h_idiv hC dL_steps_629 ?_
        refine h_sipush hC (v := 3000) dL_steps_630 (by decide) ?_
        refine h_irem hC dL_steps_633 ?_
        refine h_iadd hC dL_steps_634 ?_
        refine h_i2l hC dL_steps_635 ?_
        refine h_lcmp_lt (tgt := 648) hC dL_steps_636 dL_steps_637 (by decide) (fun _ => ?_) (fun _ => ?_)
        · refine h_sub (lv1 := [(0, .ref (zad Z 0)), (1, .int a1), (4, .int a4), (14, .long x4)]) [2, 3, 6, 0] rfl ?_
          exact g_L_steps_b648 hfl hC hNc hlk hrt M3 a1 a4 x4
        · refine h_iload hC 6 dL_steps_640 rfl ?_
          refine h_sipush hC (v := 160) dL_steps_642 (by decide) ?_
          refine h_icmp_ne (tgt := 652) hC dL_steps_645 (by decide) (fun _ => ?_) (fun _ => ?_)
          · refine h_sub (lv1 := [(0, .ref (zad Z 0)), (1, .int a1), (4, .int a4), (14, .long x4)]) [2, 3, 6, 0] rfl ?_
            exact g_L_steps_b648 hfl hC hNc hlk hrt M3 a1 a4 x4
          · refine h_iconst hC (v := 0) dL_steps_652 (by decide) ?_
            refine h_goto (tgt := 705) hC dL_steps_653 (by decide) ?_
            refine h_sub (lv1 := [(0, .ref (zad Z 0)), (1, .int a1), (4, .int a4), (14, .long x4)]) [2, 3, 6, 0] rfl ?_
            refine h_widen (k1 := 7) (Nat.le_of_ble_eq_true rfl) ?_
            exact g_L_steps_b705 hfl hC hNc hlk hrt M3 a1 a4 x4 0
      · refine h_sub (lv1 := [(0, .ref (zad Z 0)), (1, .int a1), (4, .int a4), (14, .long x4)]) [2, 3, 6, 0] rfl ?_
        exact g_L_steps_b648 hfl hC hNc hlk hrt M3 a1 a4 x4
    · refine h_lload hC 0 dL_steps_656 rfl ?_
      refine h_lload hC 1 dL_steps_658 rfl ?_
      refine h_lconst hC (v := 1) dL_steps_660 (by decide) ?_
      refine h_lsub hC dL_steps_661 ?_
      refine h_iload_n hC 5 dL_steps_662 rfl rfl ?_
      refine h_iconst hC (v := 4) dL_steps_663 (by decide) ?_
      refine h_idiv hC dL_steps_664 ?_
      refine h_sipush hC (v := 3000) dL_steps_665 (by decide) ?_
      refine h_irem hC dL_steps_668 ?_
      refine h_i2l hC dL_steps_669 ?_
      refine h_lsub hC dL_steps_670 ?_
      refine h_lcmp_ne (tgt := 704) hC dL_steps_671 dL_steps_672 (by decide) (fun _ => ?_) (fun _ => ?_)
      · refine h_aload_n hC 2 dL_steps_675 rfl rfl ?_
        refine h_iload_n hC 3 dL_steps_676 rfl rfl ?_
        refine h_callW (n := 2) hC [.ref (zad Z 0), .int a1] hNc (c_L_stateOf hfl Z M3 a1) lk_L_182 mw_L_stateOf.1 mw_L_stateOf.2.1 mw_L_stateOf.2.2 ⟨by decide, by decide, by decide +kernel⟩ rfl rfl ⟨by decide, by decide⟩ rfl rfl (Nat.le_of_ble_eq_true rfl) (Nat.le_of_ble_eq_true rfl) (Nat.le_of_ble_eq_true rfl) dL_steps_677 (fun x6 M5 => ?_)
        refine h_lload hC 0 dL_steps_680 rfl ?_
        refine h_lconst hC (v := 0) dL_steps_682 (by decide) ?_
        refine h_lcmp_ne (tgt := 693) hC dL_steps_683 dL_steps_684 (by decide) (fun _ => ?_) (fun _ => ?_)
        · refine h_ldc2 hC (v := 5) lc_L_189 dL_steps_687 ?_
          refine h_goto (tgt := 696) hC dL_steps_690 (by decide) ?_
          refine h_sub (lv1 := [(0, .ref (zad Z 0)), (1, .int a1), (4, .int a4), (14, .long x4)]) [2, 3, 6, 0] rfl ?_
          exact g_L_steps_b696 hfl hC hNc hlk hrt M5 a1 a4 x4 x6 5
        · refine h_ldc2 hC (v := 2) lc_L_195 dL_steps_693 ?_
          refine h_sub (lv1 := [(0, .ref (zad Z 0)), (1, .int a1), (4, .int a4), (14, .long x4)]) [2, 3, 6, 0] rfl ?_
          exact g_L_steps_b696 hfl hC hNc hlk hrt M5 a1 a4 x4 x6 2
      · refine h_sub (lv1 := [(0, .ref (zad Z 0)), (1, .int a1), (4, .int a4), (14, .long x4)]) [2, 3, 6, 0] rfl ?_
        refine h_widen (k1 := 7) (Nat.le_of_ble_eq_true rfl) ?_
        exact g_L_steps_b704 hfl hC hNc hlk hrt M3 a1 a4 x4
  · refine h_sub (lv1 := [(0, .ref (zad Z 0)), (1, .int a1), (4, .int a4), (9, .long a9), (11, .int a11)]) [0, 1, 4, 6, 7] rfl ?_
    refine h_widen (k1 := 11) (Nat.le_of_ble_eq_true rfl) ?_
    exact g_L_steps_b727 hfl hC hNc hlk hrt M a1 a4 a9 a11
set_option maxRecDepth 20000 in
set_option maxHeartbeats 4000000 in
theorem c_L_steps {l : Launch} (hfl : l.stackTraces = false) (Z : gZ) (M : gM) (a1 : Int32) (a2 : Int32) (a3 : Int32) : gMetB l yL_steps cL_steps 16 rm_L_steps 13 Z M [.ref (zad Z 0), .int a1, .int a2, .int a3] (f_L_steps M a1 a2 a3) := by
  refine h_enter (by decide) (Nat.le_of_ble_eq_true rfl) (fun p e s m args below meth c hC hNc hlk hrt => ?_)
  refine h_lv0 (lv1 := [(0, .ref (zad Z 0)), (1, .int a1), (2, .int a2), (3, .int a3)]) rfl ?_
  unfold f_L_steps
  refine h_aload_n hC 0 dL_steps_0 rfl rfl ?_
  refine h_callN (n := 0) hC [] 0 8 (by decide) rfl rfl (c_X8_entries hfl Z M ) lk_L_206 mw_X8_entries.1 mw_X8_entries.2.1 mw_X8_entries.2.2.1 mw_X8_entries.2.2.2 ⟨rfl, by decide, by decide, by decide +kernel⟩ rfl rfl ⟨by decide, by decide⟩ rfl rfl (Nat.le_of_ble_eq_true rfl) (Nat.le_of_ble_eq_true rfl) (Nat.le_of_ble_eq_true rfl) dL_steps_1 (fun x2 M1 => ?_)
  refine h_istore hC (lv1 := [(4, .int x2), (0, .ref (zad Z 0)), (1, .int a1), (2, .int a2), (3, .int a3)]) dL_steps_4 (by decide) rfl ?_
  refine h_aload_n hC 1 dL_steps_6 rfl rfl ?_
  refine h_iload_n hC 2 dL_steps_7 rfl rfl ?_
  refine h_callW (n := 2) hC [.ref (zad Z 0), .int a1] hNc (c_L_stateOf hfl Z M1 a1) lk_L_182 mw_L_stateOf.1 mw_L_stateOf.2.1 mw_L_stateOf.2.2 ⟨by decide, by decide, by decide +kernel⟩ rfl rfl ⟨by decide, by decide⟩ rfl rfl (Nat.le_of_ble_eq_true rfl) (Nat.le_of_ble_eq_true rfl) (Nat.le_of_ble_eq_true rfl) dL_steps_8 (fun x4 M3 => ?_)
  refine h_lstore hC (lv1 := [(5, .long x4), (4, .int x2), (0, .ref (zad Z 0)), (1, .int a1), (2, .int a2), (3, .int a3)]) dL_steps_11 (by decide) rfl ?_
  refine h_aload_n hC 2 dL_steps_13 rfl rfl ?_
  refine h_iload_n hC 3 dL_steps_14 rfl rfl ?_
  refine h_callW (n := 2) hC [.ref (zad Z 0), .int a1] hNc (c_L_amountOf hfl Z M3 a1) lk_L_193 mw_L_amountOf.1 mw_L_amountOf.2.1 mw_L_amountOf.2.2 ⟨by decide, by decide, by decide +kernel⟩ rfl rfl ⟨by decide, by decide⟩ rfl rfl (Nat.le_of_ble_eq_true rfl) (Nat.le_of_ble_eq_true rfl) (Nat.le_of_ble_eq_true rfl) dL_steps_15 (fun x6 M5 => ?_)
  refine h_lstore hC (lv1 := [(7, .long x6), (5, .long x4), (4, .int x2), (0, .ref (zad Z 0)), (1, .int a1), (2, .int a2), (3, .int a3)]) dL_steps_18 (by decide) rfl ?_
  refine h_ldc2 hC (v := (-9000000000000000003)) lc_L_21 dL_steps_20 ?_
  refine h_lstore hC (lv1 := [(9, .long (-9000000000000000003)), (7, .long x6), (5, .long x4), (4, .int x2), (0, .ref (zad Z 0)), (1, .int a1), (2, .int a2), (3, .int a3)]) dL_steps_23 (by decide) rfl ?_
  refine h_iconst hC (v := 1) dL_steps_25 (by decide) ?_
  refine h_istore hC (lv1 := [(11, .int 1), (9, .long (-9000000000000000003)), (7, .long x6), (5, .long x4), (4, .int x2), (0, .ref (zad Z 0)), (1, .int a1), (2, .int a2), (3, .int a3)]) dL_steps_26 (by decide) rfl ?_
  refine h_iload_n hC 7 dL_steps_28 rfl rfl ?_
  refine h_if_ne (tgt := 45) hC dL_steps_29 (by decide) (fun _ => ?_) (fun _ => ?_)
  · refine h_aload_n hC 5 dL_steps_32 rfl rfl ?_
    refine h_iload_n hC 6 dL_steps_33 rfl rfl ?_
    refine h_iload_n hC 8 dL_steps_34 rfl rfl ?_
    refine h_iconst hC (v := 3) dL_steps_35 (by decide) ?_
    refine h_irem hC dL_steps_36 ?_
    refine h_callW (n := 3) hC [.ref (zad Z 0), .int a1, .int (a3 - a3 / 3 * 3)] hNc (c_L_serve hfl Z M5 a1 (a3 - a3 / 3 * 3)) lk_L_244 mw_L_serve.1 mw_L_serve.2.1 mw_L_serve.2.2 ⟨by decide, by decide, by decide +kernel⟩ rfl rfl ⟨by decide, by decide⟩ rfl rfl (Nat.le_of_ble_eq_true rfl) (Nat.le_of_ble_eq_true rfl) (Nat.le_of_ble_eq_true rfl) dL_steps_37 (fun x8 M7 => ?_)
    refine h_lstore hC (lv1 := [(9, .long x8), (11, .int 1), (7, .long x6), (5, .long x4), (4, .int x2), (0, .ref (zad Z 0)), (1, .int a1), (2, .int a2), (3, .int a3)]) dL_steps_40 (by decide) rfl ?_
    refine h_goto (tgt := 727) hC dL_steps_42 (by decide) ?_
    refine h_sub (lv1 := [(0, .ref (zad Z 0)), (1, .int a1), (4, .int x2), (9, .long x8), (11, .int 1)]) [5, 6, 4, 0, 1] rfl ?_
    refine h_widen (k1 := 11) (Nat.le_of_ble_eq_true rfl) ?_
    exact g_L_steps_b727 hfl hC hNc hlk hrt M7 a1 x2 x8 1
  · refine h_iload_n hC 7 dL_steps_45 rfl rfl ?_
    refine h_iconst hC (v := 1) dL_steps_46 (by decide) ?_
    refine h_icmp_ne (tgt := 105) hC dL_steps_47 (by decide) (fun _ => ?_) (fun _ => ?_)
    · refine h_aload_n hC 5 dL_steps_50 rfl rfl ?_
      refine h_iload_n hC 6 dL_steps_51 rfl rfl ?_
      refine h_callW (n := 2) hC [.ref (zad Z 0), .int a1] hNc (c_L_answer hfl Z M5 a1) lk_L_246 mw_L_answer.1 mw_L_answer.2.1 mw_L_answer.2.2 ⟨by decide, by decide, by decide +kernel⟩ rfl rfl ⟨by decide, by decide⟩ rfl rfl (Nat.le_of_ble_eq_true rfl) (Nat.le_of_ble_eq_true rfl) (Nat.le_of_ble_eq_true rfl) dL_steps_52 (fun x10 M9 => ?_)
      refine h_lstore hC (lv1 := [(9, .long x10), (11, .int 1), (7, .long x6), (5, .long x4), (4, .int x2), (0, .ref (zad Z 0)), (1, .int a1), (2, .int a2), (3, .int a3)]) dL_steps_55 (by decide) rfl ?_
      refine h_lload hC 0 dL_steps_57 rfl ?_
      refine h_ldc2 hC (v := (-9000000000000000003)) lc_L_21 dL_steps_59 ?_
      refine h_lcmp_eq (tgt := 95) hC dL_steps_62 dL_steps_63 (by decide) (fun _ => ?_) (fun _ => ?_)
      · refine h_sub (lv1 := [(0, .ref (zad Z 0)), (1, .int a1), (4, .int x2), (9, .long x10)]) [5, 6, 4, 0] rfl ?_
        refine h_widen (k1 := 7) (Nat.le_of_ble_eq_true rfl) ?_
        exact g_L_steps_b95 hfl hC hNc hlk hrt M9 a1 x2 x10
      · refine h_aload_n hC 5 dL_steps_66 rfl rfl ?_
        refine h_iload_n hC 6 dL_steps_67 rfl rfl ?_
        refine h_callW (n := 2) hC [.ref (zad Z 0), .int a1] hNc (c_L_answered hfl Z M9 a1) lk_L_307 mw_L_answered.1 mw_L_answered.2.1 mw_L_answered.2.2 ⟨by decide, by decide, by decide +kernel⟩ rfl rfl ⟨by decide, by decide⟩ rfl rfl (Nat.le_of_ble_eq_true rfl) (Nat.le_of_ble_eq_true rfl) (Nat.le_of_ble_eq_true rfl) dL_steps_68 (fun x12 M11 => ?_)
        refine h_lconst hC (v := 1) dL_steps_71 (by decide) ?_
        refine h_lcmp_ne (tgt := 99) hC dL_steps_72 dL_steps_73 (by decide) (fun _ => ?_) (fun _ => ?_)
        · refine h_lload hC 3 dL_steps_76 rfl ?_
          refine h_lconst hC (v := 0) dL_steps_78 (by decide) ?_
          refine h_lcmp_ne (tgt := 99) hC dL_steps_79 dL_steps_80 (by decide) (fun _ => ?_) (fun _ => ?_)
          · refine h_aload_n hC 5 dL_steps_83 rfl rfl ?_
            refine h_iload_n hC 6 dL_steps_84 rfl rfl ?_
            refine h_callW (n := 2) hC [.ref (zad Z 0), .int a1] hNc (c_L_answer hfl Z M11 a1) lk_L_246 mw_L_answer.1 mw_L_answer.2.1 mw_L_answer.2.2 ⟨by decide, by decide, by decide +kernel⟩ rfl rfl ⟨by decide, by decide⟩ rfl rfl (Nat.le_of_ble_eq_true rfl) (Nat.le_of_ble_eq_true rfl) (Nat.le_of_ble_eq_true rfl) dL_steps_85 (fun x14 M13 => ?_)
            refine h_ldc2 hC (v := (-9000000000000000003)) lc_L_21 dL_steps_88 ?_
            refine h_lcmp_ne (tgt := 99) hC dL_steps_91 dL_steps_92 (by decide) (fun _ => ?_) (fun _ => ?_)
            · refine h_sub (lv1 := [(0, .ref (zad Z 0)), (1, .int a1), (4, .int x2), (9, .long x10)]) [5, 6, 4, 0] rfl ?_
              exact g_L_steps_b95 hfl hC hNc hlk hrt M13 a1 x2 x10
            · refine h_sub (lv1 := [(0, .ref (zad Z 0)), (1, .int a1), (4, .int x2), (9, .long x10)]) [5, 6, 4, 0] rfl ?_
              exact g_L_steps_b99 hfl hC hNc hlk hrt M13 a1 x2 x10
          · refine h_sub (lv1 := [(0, .ref (zad Z 0)), (1, .int a1), (4, .int x2), (9, .long x10)]) [5, 6, 4, 0] rfl ?_
            refine h_widen (k1 := 7) (Nat.le_of_ble_eq_true rfl) ?_
            exact g_L_steps_b99 hfl hC hNc hlk hrt M11 a1 x2 x10
        · refine h_sub (lv1 := [(0, .ref (zad Z 0)), (1, .int a1), (4, .int x2), (9, .long x10)]) [5, 6, 4, 0] rfl ?_
          refine h_widen (k1 := 7) (Nat.le_of_ble_eq_true rfl) ?_
          exact g_L_steps_b99 hfl hC hNc hlk hrt M11 a1 x2 x10
    · refine h_iload_n hC 7 dL_steps_105 rfl rfl ?_
      refine h_iconst hC (v := 2) dL_steps_106 (by decide) ?_
      refine h_icmp_ne (tgt := 175) hC dL_steps_107 (by decide) (fun _ => ?_) (fun _ => ?_)
      · refine h_aload_n hC 5 dL_steps_110 rfl rfl ?_
        refine h_iload_n hC 6 dL_steps_111 rfl rfl ?_
        refine h_callW (n := 2) hC [.ref (zad Z 0), .int a1] hNc (c_L_motion hfl Z M5 a1) lk_L_248 mw_L_motion.1 mw_L_motion.2.1 mw_L_motion.2.2 ⟨by decide, by decide, by decide +kernel⟩ rfl rfl ⟨by decide, by decide⟩ rfl rfl (Nat.le_of_ble_eq_true rfl) (Nat.le_of_ble_eq_true rfl) (Nat.le_of_ble_eq_true rfl) dL_steps_112 (fun x16 M15 => ?_)
        refine h_lstore hC (lv1 := [(9, .long x16), (11, .int 1), (7, .long x6), (5, .long x4), (4, .int x2), (0, .ref (zad Z 0)), (1, .int a1), (2, .int a2), (3, .int a3)]) dL_steps_115 (by decide) rfl ?_
        refine h_lload hC 0 dL_steps_117 rfl ?_
        refine h_ldc2 hC (v := (-9000000000000000003)) lc_L_21 dL_steps_119 ?_
        refine h_lcmp_eq (tgt := 165) hC dL_steps_122 dL_steps_123 (by decide) (fun _ => ?_) (fun _ => ?_)
        · refine h_sub (lv1 := [(0, .ref (zad Z 0)), (1, .int a1), (4, .int x2), (9, .long x16)]) [5, 6, 4, 0] rfl ?_
          refine h_widen (k1 := 11) (Nat.le_of_ble_eq_true rfl) ?_
          exact g_L_steps_b165 hfl hC hNc hlk hrt M15 a1 x2 x16
        · refine h_aload_n hC 5 dL_steps_126 rfl rfl ?_
          refine h_iconst hC (v := 0) dL_steps_127 (by decide) ?_
          refine h_iload_n hC 6 dL_steps_128 rfl rfl ?_
          refine h_callW (n := 3) hC [.ref (zad Z 0), .int 0, .int a1] hNc (c_L_due hfl Z M15 0 a1) lk_L_199 mw_L_due.1 mw_L_due.2.1 mw_L_due.2.2 ⟨by decide, by decide, by decide +kernel⟩ rfl rfl ⟨by decide, by decide⟩ rfl rfl (Nat.le_of_ble_eq_true rfl) (Nat.le_of_ble_eq_true rfl) (Nat.le_of_ble_eq_true rfl) dL_steps_129 (fun x18 M17 => ?_)
          refine h_ldc2 hC (v := (-1)) lc_L_204 dL_steps_132 ?_
          refine h_lcmp_ne (tgt := 169) hC dL_steps_135 dL_steps_136 (by decide) (fun _ => ?_) (fun _ => ?_)
          · refine h_aload_n hC 5 dL_steps_139 rfl rfl ?_
            refine h_iload_n hC 6 dL_steps_140 rfl rfl ?_
            refine h_callW (n := 2) hC [.ref (zad Z 0), .int a1] hNc (c_L_motion hfl Z M17 a1) lk_L_248 mw_L_motion.1 mw_L_motion.2.1 mw_L_motion.2.2 ⟨by decide, by decide, by decide +kernel⟩ rfl rfl ⟨by decide, by decide⟩ rfl rfl (Nat.le_of_ble_eq_true rfl) (Nat.le_of_ble_eq_true rfl) (Nat.le_of_ble_eq_true rfl) dL_steps_141 (fun x20 M19 => ?_)
            refine h_ldc2 hC (v := (-9000000000000000003)) lc_L_21 dL_steps_144 ?_
            refine h_lcmp_ne (tgt := 169) hC dL_steps_147 dL_steps_148 (by decide) (fun _ => ?_) (fun _ => ?_)
            · refine h_aload_n hC 5 dL_steps_151 rfl rfl ?_
              refine h_iload hC 4 dL_steps_152 rfl ?_
              refine h_iconst hC (v := 0) dL_steps_154 (by decide) ?_
              refine h_callW (n := 3) hC [.ref (zad Z 0), .int x2, .int 0] hNc (c_L_ruling hfl Z M19 x2 0) lk_L_252 mw_L_ruling.1 mw_L_ruling.2.1 mw_L_ruling.2.2 ⟨by decide, by decide, by decide +kernel⟩ rfl rfl ⟨by decide, by decide⟩ rfl rfl (Nat.le_of_ble_eq_true rfl) (Nat.le_of_ble_eq_true rfl) (Nat.le_of_ble_eq_true rfl) dL_steps_155 (fun x22 M21 => ?_)
              refine h_ldc2 hC (v := (-9000000000000000003)) lc_L_21 dL_steps_158 ?_
              refine h_lcmp_ne (tgt := 169) hC dL_steps_161 dL_steps_162 (by decide) (fun _ => ?_) (fun _ => ?_)
              · refine h_sub (lv1 := [(0, .ref (zad Z 0)), (1, .int a1), (4, .int x2), (9, .long x16)]) [5, 6, 4, 0] rfl ?_
                exact g_L_steps_b165 hfl hC hNc hlk hrt M21 a1 x2 x16
              · refine h_sub (lv1 := [(0, .ref (zad Z 0)), (1, .int a1), (4, .int x2), (9, .long x16)]) [5, 6, 4, 0] rfl ?_
                exact g_L_steps_b169 hfl hC hNc hlk hrt M21 a1 x2 x16
            · refine h_sub (lv1 := [(0, .ref (zad Z 0)), (1, .int a1), (4, .int x2), (9, .long x16)]) [5, 6, 4, 0] rfl ?_
              refine h_widen (k1 := 11) (Nat.le_of_ble_eq_true rfl) ?_
              exact g_L_steps_b169 hfl hC hNc hlk hrt M19 a1 x2 x16
          · refine h_sub (lv1 := [(0, .ref (zad Z 0)), (1, .int a1), (4, .int x2), (9, .long x16)]) [5, 6, 4, 0] rfl ?_
            refine h_widen (k1 := 11) (Nat.le_of_ble_eq_true rfl) ?_
            exact g_L_steps_b169 hfl hC hNc hlk hrt M17 a1 x2 x16
      · refine h_iload_n hC 7 dL_steps_175 rfl rfl ?_
        refine h_iconst hC (v := 3) dL_steps_176 (by decide) ?_
        refine h_icmp_ne (tgt := 292) hC dL_steps_177 (by decide) (fun _ => ?_) (fun _ => ?_)
        · refine h_aload_n hC 5 dL_steps_180 rfl rfl ?_
          refine h_iload_n hC 6 dL_steps_181 rfl rfl ?_
          refine h_iload_n hC 8 dL_steps_182 rfl rfl ?_
          refine h_iconst hC (v := 3) dL_steps_183 (by decide) ?_
          refine h_irem hC dL_steps_184 ?_
          refine h_if_ne (tgt := 192) hC dL_steps_185 (by decide) (fun _ => ?_) (fun _ => ?_)
          · refine h_iconst hC (v := (-1)) dL_steps_188 (by decide) ?_
            refine h_goto (tgt := 202) hC dL_steps_189 (by decide) ?_
            refine h_sub (lv1 := [(0, .ref (zad Z 0)), (1, .int a1), (4, .int x2), (5, .long x4)]) [5, 6, 4, 3] rfl ?_
            exact g_L_steps_b202 hfl hC hNc hlk hrt M5 a1 x2 x4 a1 (-1)
          · refine h_iload_n hC 8 dL_steps_192 rfl rfl ?_
            refine h_iconst hC (v := 3) dL_steps_193 (by decide) ?_
            refine h_idiv hC dL_steps_194 ?_
            refine h_i2l hC dL_steps_195 ?_
            refine h_lload hC 2 dL_steps_196 rfl ?_
            refine h_lconst hC (v := 1) dL_steps_198 (by decide) ?_
            refine h_ladd hC dL_steps_199 ?_
            refine h_lrem hC dL_steps_200 ?_
            refine h_l2i hC dL_steps_201 ?_
            refine h_sub (lv1 := [(0, .ref (zad Z 0)), (1, .int a1), (4, .int x2), (5, .long x4)]) [5, 6, 4, 3] rfl ?_
            exact g_L_steps_b202 hfl hC hNc hlk hrt M5 a1 x2 x4 a1 ((a3 / 3).toInt64 - (a3 / 3).toInt64 / (x6 + 1) * (x6 + 1)).toInt32
        · refine h_iload_n hC 7 dL_steps_292 rfl rfl ?_
          refine h_iconst hC (v := 4) dL_steps_293 (by decide) ?_
          refine h_icmp_ne (tgt := 343) hC dL_steps_294 (by decide) (fun _ => ?_) (fun _ => ?_)
          · refine h_aload_n hC 5 dL_steps_297 rfl rfl ?_
            refine h_iload_n hC 6 dL_steps_298 rfl rfl ?_
            refine h_callW (n := 2) hC [.ref (zad Z 0), .int a1] hNc (c_L_vacate hfl Z M5 a1) lk_L_256 mw_L_vacate.1 mw_L_vacate.2.1 mw_L_vacate.2.2 ⟨by decide, by decide, by decide +kernel⟩ rfl rfl ⟨by decide, by decide⟩ rfl rfl (Nat.le_of_ble_eq_true rfl) (Nat.le_of_ble_eq_true rfl) (Nat.le_of_ble_eq_true rfl) dL_steps_299 (fun x24 M23 => ?_)
            refine h_lstore hC (lv1 := [(9, .long x24), (11, .int 1), (7, .long x6), (5, .long x4), (4, .int x2), (0, .ref (zad Z 0)), (1, .int a1), (2, .int a2), (3, .int a3)]) dL_steps_302 (by decide) rfl ?_
            refine h_lload hC 0 dL_steps_304 rfl ?_
            refine h_ldc2 hC (v := (-9000000000000000003)) lc_L_21 dL_steps_306 ?_
            refine h_lcmp_eq (tgt := 333) hC dL_steps_309 dL_steps_310 (by decide) (fun _ => ?_) (fun _ => ?_)
            · refine h_sub (lv1 := [(0, .ref (zad Z 0)), (1, .int a1), (4, .int x2), (9, .long x24)]) [5, 6, 4, 0] rfl ?_
              refine h_widen (k1 := 6) (Nat.le_of_ble_eq_true rfl) ?_
              exact g_L_steps_b333 hfl hC hNc hlk hrt M23 a1 x2 x24
            · refine h_aload_n hC 5 dL_steps_313 rfl rfl ?_
              refine h_iload_n hC 6 dL_steps_314 rfl rfl ?_
              refine h_callW (n := 2) hC [.ref (zad Z 0), .int a1] hNc (c_L_stateOf hfl Z M23 a1) lk_L_182 mw_L_stateOf.1 mw_L_stateOf.2.1 mw_L_stateOf.2.2 ⟨by decide, by decide, by decide +kernel⟩ rfl rfl ⟨by decide, by decide⟩ rfl rfl (Nat.le_of_ble_eq_true rfl) (Nat.le_of_ble_eq_true rfl) (Nat.le_of_ble_eq_true rfl) dL_steps_315 (fun x26 M25 => ?_)
              refine h_lconst hC (v := 0) dL_steps_318 (by decide) ?_
              refine h_lcmp_ne (tgt := 337) hC dL_steps_319 dL_steps_320 (by decide) (fun _ => ?_) (fun _ => ?_)
              · refine h_aload_n hC 5 dL_steps_323 rfl rfl ?_
                refine h_iload_n hC 6 dL_steps_324 rfl rfl ?_
                refine h_callW (n := 2) hC [.ref (zad Z 0), .int a1] hNc (c_L_amountOf hfl Z M25 a1) lk_L_193 mw_L_amountOf.1 mw_L_amountOf.2.1 mw_L_amountOf.2.2 ⟨by decide, by decide, by decide +kernel⟩ rfl rfl ⟨by decide, by decide⟩ rfl rfl (Nat.le_of_ble_eq_true rfl) (Nat.le_of_ble_eq_true rfl) (Nat.le_of_ble_eq_true rfl) dL_steps_325 (fun x28 M27 => ?_)
                refine h_lconst hC (v := 1) dL_steps_328 (by decide) ?_
                refine h_lcmp_lt (tgt := 337) hC dL_steps_329 dL_steps_330 (by decide) (fun _ => ?_) (fun _ => ?_)
                · refine h_sub (lv1 := [(0, .ref (zad Z 0)), (1, .int a1), (4, .int x2), (9, .long x24)]) [5, 6, 4, 0] rfl ?_
                  exact g_L_steps_b337 hfl hC hNc hlk hrt M27 a1 x2 x24
                · refine h_sub (lv1 := [(0, .ref (zad Z 0)), (1, .int a1), (4, .int x2), (9, .long x24)]) [5, 6, 4, 0] rfl ?_
                  exact g_L_steps_b333 hfl hC hNc hlk hrt M27 a1 x2 x24
              · refine h_sub (lv1 := [(0, .ref (zad Z 0)), (1, .int a1), (4, .int x2), (9, .long x24)]) [5, 6, 4, 0] rfl ?_
                refine h_widen (k1 := 6) (Nat.le_of_ble_eq_true rfl) ?_
                exact g_L_steps_b337 hfl hC hNc hlk hrt M25 a1 x2 x24
          · refine h_iload_n hC 7 dL_steps_343 rfl rfl ?_
            refine h_iconst hC (v := 5) dL_steps_344 (by decide) ?_
            refine h_icmp_ne (tgt := 405) hC dL_steps_345 (by decide) (fun _ => ?_) (fun _ => ?_)
            · refine h_aload_n hC 5 dL_steps_348 rfl rfl ?_
              refine h_iload_n hC 6 dL_steps_349 rfl rfl ?_
              refine h_callW (n := 2) hC [.ref (zad Z 0), .int a1] hNc (c_L_appeal hfl Z M5 a1) lk_L_258 mw_L_appeal.1 mw_L_appeal.2.1 mw_L_appeal.2.2 ⟨by decide, by decide, by decide +kernel⟩ rfl rfl ⟨by decide, by decide⟩ rfl rfl (Nat.le_of_ble_eq_true rfl) (Nat.le_of_ble_eq_true rfl) (Nat.le_of_ble_eq_true rfl) dL_steps_350 (fun x30 M29 => ?_)
              refine h_lstore hC (lv1 := [(9, .long x30), (11, .int 1), (7, .long x6), (5, .long x4), (4, .int x2), (0, .ref (zad Z 0)), (1, .int a1), (2, .int a2), (3, .int a3)]) dL_steps_353 (by decide) rfl ?_
              refine h_lload hC 0 dL_steps_355 rfl ?_
              refine h_ldc2 hC (v := (-9000000000000000003)) lc_L_21 dL_steps_357 ?_
              refine h_lcmp_eq (tgt := 395) hC dL_steps_360 dL_steps_361 (by decide) (fun _ => ?_) (fun _ => ?_)
              · refine h_sub (lv1 := [(0, .ref (zad Z 0)), (1, .int a1), (4, .int x2), (9, .long x30)]) [5, 6, 4, 0] rfl ?_
                refine h_widen (k1 := 6) (Nat.le_of_ble_eq_true rfl) ?_
                exact g_L_steps_b395 hfl hC hNc hlk hrt M29 a1 x2 x30
              · refine h_lload hC 3 dL_steps_364 rfl ?_
                refine h_ldc2 hC (v := 2) lc_L_195 dL_steps_366 ?_
                refine h_lcmp_ne (tgt := 399) hC dL_steps_369 dL_steps_370 (by decide) (fun _ => ?_) (fun _ => ?_)
                · refine h_aload_n hC 5 dL_steps_373 rfl rfl ?_
                  refine h_iload_n hC 6 dL_steps_374 rfl rfl ?_
                  refine h_callW (n := 2) hC [.ref (zad Z 0), .int a1] hNc (c_L_stateOf hfl Z M29 a1) lk_L_182 mw_L_stateOf.1 mw_L_stateOf.2.1 mw_L_stateOf.2.2 ⟨by decide, by decide, by decide +kernel⟩ rfl rfl ⟨by decide, by decide⟩ rfl rfl (Nat.le_of_ble_eq_true rfl) (Nat.le_of_ble_eq_true rfl) (Nat.le_of_ble_eq_true rfl) dL_steps_375 (fun x32 M31 => ?_)
                  refine h_ldc2 hC (v := 3) lc_L_219 dL_steps_378 ?_
                  refine h_lcmp_ne (tgt := 399) hC dL_steps_381 dL_steps_382 (by decide) (fun _ => ?_) (fun _ => ?_)
                  · refine h_aload_n hC 5 dL_steps_385 rfl rfl ?_
                    refine h_iload_n hC 6 dL_steps_386 rfl rfl ?_
                    refine h_callW (n := 2) hC [.ref (zad Z 0), .int a1] hNc (c_L_balance hfl Z M31 a1) lk_L_187 mw_L_balance.1 mw_L_balance.2.1 mw_L_balance.2.2 ⟨by decide, by decide, by decide +kernel⟩ rfl rfl ⟨by decide, by decide⟩ rfl rfl (Nat.le_of_ble_eq_true rfl) (Nat.le_of_ble_eq_true rfl) (Nat.le_of_ble_eq_true rfl) dL_steps_387 (fun x34 M33 => ?_)
                    refine h_lconst hC (v := 0) dL_steps_390 (by decide) ?_
                    refine h_lcmp_ne (tgt := 399) hC dL_steps_391 dL_steps_392 (by decide) (fun _ => ?_) (fun _ => ?_)
                    · refine h_sub (lv1 := [(0, .ref (zad Z 0)), (1, .int a1), (4, .int x2), (9, .long x30)]) [5, 6, 4, 0] rfl ?_
                      exact g_L_steps_b395 hfl hC hNc hlk hrt M33 a1 x2 x30
                    · refine h_sub (lv1 := [(0, .ref (zad Z 0)), (1, .int a1), (4, .int x2), (9, .long x30)]) [5, 6, 4, 0] rfl ?_
                      exact g_L_steps_b399 hfl hC hNc hlk hrt M33 a1 x2 x30
                  · refine h_sub (lv1 := [(0, .ref (zad Z 0)), (1, .int a1), (4, .int x2), (9, .long x30)]) [5, 6, 4, 0] rfl ?_
                    refine h_widen (k1 := 6) (Nat.le_of_ble_eq_true rfl) ?_
                    exact g_L_steps_b399 hfl hC hNc hlk hrt M31 a1 x2 x30
                · refine h_sub (lv1 := [(0, .ref (zad Z 0)), (1, .int a1), (4, .int x2), (9, .long x30)]) [5, 6, 4, 0] rfl ?_
                  refine h_widen (k1 := 6) (Nat.le_of_ble_eq_true rfl) ?_
                  exact g_L_steps_b399 hfl hC hNc hlk hrt M29 a1 x2 x30
            · refine h_iload_n hC 7 dL_steps_405 rfl rfl ?_
              refine h_bipush hC (v := 6) dL_steps_406 (by decide) ?_
              refine h_icmp_ne (tgt := 503) hC dL_steps_408 (by decide) (fun _ => ?_) (fun _ => ?_)
              · refine h_aload_n hC 5 dL_steps_411 rfl rfl ?_
                refine h_iload_n hC 6 dL_steps_412 rfl rfl ?_
                refine h_iload_n hC 8 dL_steps_413 rfl rfl ?_
                refine h_iconst hC (v := 3) dL_steps_414 (by decide) ?_
                refine h_irem hC dL_steps_415 ?_
                refine h_iload_n hC 8 dL_steps_416 rfl rfl ?_
                refine h_iconst hC (v := 3) dL_steps_417 (by decide) ?_
                refine h_idiv hC dL_steps_418 ?_
                refine h_i2l hC dL_steps_419 ?_
                refine h_lload hC 2 dL_steps_420 rfl ?_
                refine h_lconst hC (v := 1) dL_steps_422 (by decide) ?_
                refine h_ladd hC dL_steps_423 ?_
                refine h_lrem hC dL_steps_424 ?_
                refine h_l2i hC dL_steps_425 ?_
                refine h_callW (n := 4) hC [.ref (zad Z 0), .int a1, .int (a3 - a3 / 3 * 3), .int ((a3 / 3).toInt64 - (a3 / 3).toInt64 / (x6 + 1) * (x6 + 1)).toInt32] hNc (c_L_decide hfl Z M5 a1 (a3 - a3 / 3 * 3) ((a3 / 3).toInt64 - (a3 / 3).toInt64 / (x6 + 1) * (x6 + 1)).toInt32) lk_L_260 mw_L_decide.1 mw_L_decide.2.1 mw_L_decide.2.2 ⟨by decide, by decide, by decide +kernel⟩ rfl rfl ⟨by decide, by decide⟩ rfl rfl (Nat.le_of_ble_eq_true rfl) (Nat.le_of_ble_eq_true rfl) (Nat.le_of_ble_eq_true rfl) dL_steps_426 (fun x36 M35 => ?_)
                refine h_lstore hC (lv1 := [(9, .long x36), (11, .int 1), (7, .long x6), (5, .long x4), (4, .int x2), (0, .ref (zad Z 0)), (1, .int a1), (2, .int a2), (3, .int a3)]) dL_steps_429 (by decide) rfl ?_
                refine h_lload hC 0 dL_steps_431 rfl ?_
                refine h_ldc2 hC (v := (-9000000000000000003)) lc_L_21 dL_steps_433 ?_
                refine h_lcmp_eq (tgt := 493) hC dL_steps_436 dL_steps_437 (by decide) (fun _ => ?_) (fun _ => ?_)
                · refine h_sub (lv1 := [(0, .ref (zad Z 0)), (1, .int a1), (4, .int x2), (9, .long x36)]) [5, 6, 4, 0] rfl ?_
                  refine h_widen (k1 := 6) (Nat.le_of_ble_eq_true rfl) ?_
                  exact g_L_steps_b493 hfl hC hNc hlk hrt M35 a1 x2 x36
                · refine h_lload hC 3 dL_steps_440 rfl ?_
                  refine h_ldc2 hC (v := 3) lc_L_219 dL_steps_442 ?_
                  refine h_lcmp_ne (tgt := 497) hC dL_steps_445 dL_steps_446 (by decide) (fun _ => ?_) (fun _ => ?_)
                  · refine h_aload_n hC 5 dL_steps_449 rfl rfl ?_
                    refine h_iload_n hC 6 dL_steps_450 rfl rfl ?_
                    refine h_callW (n := 2) hC [.ref (zad Z 0), .int a1] hNc (c_L_stateOf hfl Z M35 a1) lk_L_182 mw_L_stateOf.1 mw_L_stateOf.2.1 mw_L_stateOf.2.2 ⟨by decide, by decide, by decide +kernel⟩ rfl rfl ⟨by decide, by decide⟩ rfl rfl (Nat.le_of_ble_eq_true rfl) (Nat.le_of_ble_eq_true rfl) (Nat.le_of_ble_eq_true rfl) dL_steps_451 (fun x38 M37 => ?_)
                    refine h_iload_n hC 8 dL_steps_454 rfl rfl ?_
                    refine h_iconst hC (v := 3) dL_steps_455 (by decide) ?_
                    refine h_irem hC dL_steps_456 ?_
                    refine h_if_ne (tgt := 466) hC dL_steps_457 (by decide) (fun _ => ?_) (fun _ => ?_)
                    · refine h_ldc2 hC (v := 2) lc_L_195 dL_steps_460 ?_
                      refine h_goto (tgt := 478) hC dL_steps_463 (by decide) ?_
                      refine h_sub (lv1 := [(0, .ref (zad Z 0)), (1, .int a1), (4, .int x2), (7, .long x6), (9, .long x36)]) [5, 6, 4, 2, 0] rfl ?_
                      exact g_L_steps_b478 hfl hC hNc hlk hrt M37 a1 x2 x6 x36 x38 2
                    · refine h_iload_n hC 8 dL_steps_466 rfl rfl ?_
                      refine h_iconst hC (v := 3) dL_steps_467 (by decide) ?_
                      refine h_irem hC dL_steps_468 ?_
                      refine h_iconst hC (v := 1) dL_steps_469 (by decide) ?_
                      refine h_icmp_ne (tgt := 477) hC dL_steps_470 (by decide) (fun _ => ?_) (fun _ => ?_)
                      · refine h_lconst hC (v := 1) dL_steps_473 (by decide) ?_
                        refine h_goto (tgt := 478) hC dL_steps_474 (by decide) ?_
                        refine h_sub (lv1 := [(0, .ref (zad Z 0)), (1, .int a1), (4, .int x2), (7, .long x6), (9, .long x36)]) [5, 6, 4, 2, 0] rfl ?_
                        exact g_L_steps_b478 hfl hC hNc hlk hrt M37 a1 x2 x6 x36 x38 1
                      · refine h_lconst hC (v := 0) dL_steps_477 (by decide) ?_
                        refine h_sub (lv1 := [(0, .ref (zad Z 0)), (1, .int a1), (4, .int x2), (7, .long x6), (9, .long x36)]) [5, 6, 4, 2, 0] rfl ?_
                        exact g_L_steps_b478 hfl hC hNc hlk hrt M37 a1 x2 x6 x36 x38 0
                  · refine h_sub (lv1 := [(0, .ref (zad Z 0)), (1, .int a1), (4, .int x2), (9, .long x36)]) [5, 6, 4, 0] rfl ?_
                    refine h_widen (k1 := 6) (Nat.le_of_ble_eq_true rfl) ?_
                    exact g_L_steps_b497 hfl hC hNc hlk hrt M35 a1 x2 x36
              · refine h_iload_n hC 7 dL_steps_503 rfl rfl ?_
                refine h_bipush hC (v := 7) dL_steps_504 (by decide) ?_
                refine h_icmp_ne (tgt := 577) hC dL_steps_506 (by decide) (fun _ => ?_) (fun _ => ?_)
                · refine h_iload_n hC 8 dL_steps_509 rfl rfl ?_
                  refine h_iconst hC (v := 4) dL_steps_510 (by decide) ?_
                  refine h_irem hC dL_steps_511 ?_
                  refine h_if_ne (tgt := 577) hC dL_steps_512 (by decide) (fun _ => ?_) (fun _ => ?_)
                  · refine h_aload_n hC 5 dL_steps_515 rfl rfl ?_
                    refine h_iload_n hC 6 dL_steps_516 rfl rfl ?_
                    refine h_callW (n := 2) hC [.ref (zad Z 0), .int a1] hNc (c_L_settle hfl Z M5 a1) lk_L_262 mw_L_settle.1 mw_L_settle.2.1 mw_L_settle.2.2 ⟨by decide, by decide, by decide +kernel⟩ rfl rfl ⟨by decide, by decide⟩ rfl rfl (Nat.le_of_ble_eq_true rfl) (Nat.le_of_ble_eq_true rfl) (Nat.le_of_ble_eq_true rfl) dL_steps_517 (fun x40 M39 => ?_)
                    refine h_lstore hC (lv1 := [(9, .long x40), (11, .int 1), (7, .long x6), (5, .long x4), (4, .int x2), (0, .ref (zad Z 0)), (1, .int a1), (2, .int a2), (3, .int a3)]) dL_steps_520 (by decide) rfl ?_
                    refine h_lload hC 0 dL_steps_522 rfl ?_
                    refine h_ldc2 hC (v := (-9000000000000000003)) lc_L_21 dL_steps_524 ?_
                    refine h_lcmp_eq (tgt := 567) hC dL_steps_527 dL_steps_528 (by decide) (fun _ => ?_) (fun _ => ?_)
                    · refine h_sub (lv1 := [(0, .ref (zad Z 0)), (1, .int a1), (4, .int x2), (9, .long x40)]) [5, 6, 4, 0] rfl ?_
                      refine h_widen (k1 := 9) (Nat.le_of_ble_eq_true rfl) ?_
                      exact g_L_steps_b567 hfl hC hNc hlk hrt M39 a1 x2 x40
                    · refine h_aload_n hC 5 dL_steps_531 rfl rfl ?_
                      refine h_iload_n hC 6 dL_steps_532 rfl rfl ?_
                      refine h_callW (n := 2) hC [.ref (zad Z 0), .int a1] hNc (c_L_stateOf hfl Z M39 a1) lk_L_182 mw_L_stateOf.1 mw_L_stateOf.2.1 mw_L_stateOf.2.2 ⟨by decide, by decide, by decide +kernel⟩ rfl rfl ⟨by decide, by decide⟩ rfl rfl (Nat.le_of_ble_eq_true rfl) (Nat.le_of_ble_eq_true rfl) (Nat.le_of_ble_eq_true rfl) dL_steps_533 (fun x42 M41 => ?_)
                      refine h_ldc2 hC (v := 4) lc_L_224 dL_steps_536 ?_
                      refine h_lcmp_ne (tgt := 571) hC dL_steps_539 dL_steps_540 (by decide) (fun _ => ?_) (fun _ => ?_)
                      · refine h_aload_n hC 5 dL_steps_543 rfl rfl ?_
                        refine h_iload_n hC 6 dL_steps_544 rfl rfl ?_
                        refine h_callW (n := 2) hC [.ref (zad Z 0), .int a1] hNc (c_L_settle hfl Z M41 a1) lk_L_262 mw_L_settle.1 mw_L_settle.2.1 mw_L_settle.2.2 ⟨by decide, by decide, by decide +kernel⟩ rfl rfl ⟨by decide, by decide⟩ rfl rfl (Nat.le_of_ble_eq_true rfl) (Nat.le_of_ble_eq_true rfl) (Nat.le_of_ble_eq_true rfl) dL_steps_545 (fun x44 M43 => ?_)
                        refine h_ldc2 hC (v := (-9000000000000000003)) lc_L_21 dL_steps_548 ?_
                        refine h_lcmp_ne (tgt := 571) hC dL_steps_551 dL_steps_552 (by decide) (fun _ => ?_) (fun _ => ?_)
                        · refine h_aload_n hC 5 dL_steps_555 rfl rfl ?_
                          refine h_iload_n hC 6 dL_steps_556 rfl rfl ?_
                          refine h_callW (n := 2) hC [.ref (zad Z 0), .int a1] hNc (c_L_vacate hfl Z M43 a1) lk_L_256 mw_L_vacate.1 mw_L_vacate.2.1 mw_L_vacate.2.2 ⟨by decide, by decide, by decide +kernel⟩ rfl rfl ⟨by decide, by decide⟩ rfl rfl (Nat.le_of_ble_eq_true rfl) (Nat.le_of_ble_eq_true rfl) (Nat.le_of_ble_eq_true rfl) dL_steps_557 (fun x46 M45 => ?_)
                          refine h_ldc2 hC (v := (-9000000000000000003)) lc_L_21 dL_steps_560 ?_
                          refine h_lcmp_ne (tgt := 571) hC dL_steps_563 dL_steps_564 (by decide) (fun _ => ?_) (fun _ => ?_)
                          · refine h_sub (lv1 := [(0, .ref (zad Z 0)), (1, .int a1), (4, .int x2), (9, .long x40)]) [5, 6, 4, 0] rfl ?_
                            exact g_L_steps_b567 hfl hC hNc hlk hrt M45 a1 x2 x40
                          · refine h_sub (lv1 := [(0, .ref (zad Z 0)), (1, .int a1), (4, .int x2), (9, .long x40)]) [5, 6, 4, 0] rfl ?_
                            exact g_L_steps_b571 hfl hC hNc hlk hrt M45 a1 x2 x40
                        · refine h_sub (lv1 := [(0, .ref (zad Z 0)), (1, .int a1), (4, .int x2), (9, .long x40)]) [5, 6, 4, 0] rfl ?_
                          refine h_widen (k1 := 9) (Nat.le_of_ble_eq_true rfl) ?_
                          exact g_L_steps_b571 hfl hC hNc hlk hrt M43 a1 x2 x40
                      · refine h_sub (lv1 := [(0, .ref (zad Z 0)), (1, .int a1), (4, .int x2), (9, .long x40)]) [5, 6, 4, 0] rfl ?_
                        refine h_widen (k1 := 9) (Nat.le_of_ble_eq_true rfl) ?_
                        exact g_L_steps_b571 hfl hC hNc hlk hrt M41 a1 x2 x40
                  · refine h_sub (lv1 := [(0, .ref (zad Z 0)), (1, .int a1), (2, .int a2), (3, .int a3), (4, .int x2), (5, .long x4), (9, .long (-9000000000000000003)), (11, .int 1)]) [5, 6, 7, 8, 4, 3, 1, 0] rfl ?_
                    exact g_L_steps_b577 hfl hC hNc hlk hrt M5 a1 a2 a3 x2 x4 (-9000000000000000003) 1
                · refine h_sub (lv1 := [(0, .ref (zad Z 0)), (1, .int a1), (2, .int a2), (3, .int a3), (4, .int x2), (5, .long x4), (9, .long (-9000000000000000003)), (11, .int 1)]) [5, 6, 7, 8, 4, 3, 1, 0] rfl ?_
                  exact g_L_steps_b577 hfl hC hNc hlk hrt M5 a1 a2 a3 x2 x4 (-9000000000000000003) 1
