-- ===== X8_hasOpenMotion =====
def f_X8_hasOpenMotion_lb2  (self2 : gM → Int32 → Int32 → gR) (M : gM) (a1 : Int32) (a2 : Int32) : gR := (if (M 4 0) ≤ a2 then (rRet 0 M) else (gI a2 160 (if (M 55 a2.toNatClampNeg) = 2 then (gI a2 160 (if (M 57 a2.toNatClampNeg) = a1 then (rb (f_X8_isOpenMotion M a2) (fun x2 M1 => (if x2 = 0 then (bV (a2 + 1) (fun x3 => (self2 M1 a1 x3))) else (rRet 1 M1)))) else (bV (a2 + 1) (fun x4 => (self2 M a1 x4))))) else (bV (a2 + 1) (fun x5 => (self2 M a1 x5))))))
def f_X8_hasOpenMotion_l2  : Nat → gM → Int32 → Int32 → gR
  | 0, _, _, _ => rStuck
  | n + 1, M, a1, a2 => f_X8_hasOpenMotion_lb2  (f_X8_hasOpenMotion_l2  n) M a1 a2
def f_X8_hasOpenMotion (M : gM) (a1 : Int32) : gR := (f_X8_hasOpenMotion_l2  5000 M a1 0)
abbrev rm_X8_hasOpenMotion : Room := { frames := 4, cells := 0, slots := 0, locals := 91 }
set_option maxRecDepth 20000 in
set_option maxHeartbeats 4000000 in
theorem g_X8_hasOpenMotion_lb2 {p : Program} {l : Launch} {e : Env} {s : State} {m : MethodId} {args : Array Value} {below : List Frame} {meth : Method} {c : Code} {Z : gZ} (hC : gC p l s m args meth c cX8_hasOpenMotion 3 RX8 (some .boolean) Z)  {self2 : gM → Int32 → Int32 → gR}  (hs2 : ∀ (M : gM) (a1 : Int32) (a2 : Int32) , gW p l e rm_X8_hasOpenMotion s m args below meth c 3 Z 1 0 0 M 2 [(0, .ref (zad Z 0)), (1, .int a1), (2, .int a2)] [] (self2 M a1 a2)) (M : gM) (a1 : Int32) (a2 : Int32) : gW p l e rm_X8_hasOpenMotion s m args below meth c 3 Z 1 0 0 M 2 [(0, .ref (zad Z 0)), (1, .int a1), (2, .int a2)] [] (f_X8_hasOpenMotion_lb2  self2 M a1 a2) := by
  unfold f_X8_hasOpenMotion_lb2
  refine g_iload_n hC 2 dX8_hasOpenMotion_2 rfl rfl ?_
  refine g_aload_n hC 0 dX8_hasOpenMotion_3 rfl rfl ?_
  refine gf_X8_33 hC dX8_hasOpenMotion_4 ?_
  refine gf_X8_457 hC dX8_hasOpenMotion_7 ?_
  refine g_icmp_ge (tgt := 55) hC dX8_hasOpenMotion_10 (by decide) (fun _ => ?_) (fun _ => ?_)
  · refine g_iconst hC (v := 0) dX8_hasOpenMotion_55 (by decide) ?_
    exact g_zret0 hC rfl (by decide) dX8_hasOpenMotion_56
  · refine g_aload_n hC 0 dX8_hasOpenMotion_13 rfl rfl ?_
    refine gf_X8_33 hC dX8_hasOpenMotion_14 ?_
    refine gf_X8_301 hC dX8_hasOpenMotion_17 ?_
    refine g_iload_n hC 2 dX8_hasOpenMotion_20 rfl rfl ?_
    refine g_iald hC 55 (by decide) rfl dX8_hasOpenMotion_21 ?_
    refine g_iconst hC (v := 2) dX8_hasOpenMotion_22 (by decide) ?_
    refine g_icmp_ne (tgt := 49) hC dX8_hasOpenMotion_23 (by decide) (fun _ => ?_) (fun _ => ?_)
    · refine g_aload_n hC 0 dX8_hasOpenMotion_26 rfl rfl ?_
      refine gf_X8_33 hC dX8_hasOpenMotion_27 ?_
      refine gf_X8_232 hC dX8_hasOpenMotion_30 ?_
      refine g_iload_n hC 2 dX8_hasOpenMotion_33 rfl rfl ?_
      refine g_iald hC 57 (by decide) rfl dX8_hasOpenMotion_34 ?_
      refine g_iload_n hC 1 dX8_hasOpenMotion_35 rfl rfl ?_
      refine g_icmp_ne (tgt := 49) hC dX8_hasOpenMotion_36 (by decide) (fun _ => ?_) (fun _ => ?_)
      · refine g_aload_n hC 0 dX8_hasOpenMotion_39 rfl rfl ?_
        refine g_iload_n hC 2 dX8_hasOpenMotion_40 rfl rfl ?_
        refine g_callVi (n := 1) hC [.int a2] 0 8 (by decide) rfl rfl (fun hne => c_X8_isOpenMotion hC.2.2.2.2.2.2.2.1 Z M a2 hne) lk_X8_226 mw_X8_isOpenMotion.1 mw_X8_isOpenMotion.2.1 mw_X8_isOpenMotion.2.2.1 mw_X8_isOpenMotion.2.2.2 ⟨rfl, by decide, by decide, by decide +kernel⟩ rfl rfl ⟨by decide, by decide⟩ rfl rfl (Nat.le_of_ble_eq_true rfl) (by decide) (by decide) (by decide) dX8_hasOpenMotion_41 (fun x2 M1 => ?_)
        refine g_if_eq (tgt := 49) hC dX8_hasOpenMotion_44 (by decide) (fun _ => ?_) (fun _ => ?_)
        · refine g_iinc hC 2 (v := 1) (fun x3 => [(2, .int x3), (0, .ref (zad Z 0)), (1, .int a1)]) dX8_hasOpenMotion_49 rfl (by decide) (by decide) (fun _ => rfl) (fun x3 => ?_)
          refine g_goto (tgt := 2) hC dX8_hasOpenMotion_52 (by decide) ?_
          refine g_sub (lv1 := [(0, .ref (zad Z 0)), (1, .int a1), (2, .int x3)]) [1, 2, 0] rfl ?_
          exact hs2 M1 a1 x3
        · refine g_iconst hC (v := 1) dX8_hasOpenMotion_47 (by decide) ?_
          exact g_zret1 hC rfl (by decide) dX8_hasOpenMotion_48
      · refine g_iinc hC 2 (v := 1) (fun x4 => [(2, .int x4), (0, .ref (zad Z 0)), (1, .int a1)]) dX8_hasOpenMotion_49 rfl (by decide) (by decide) (fun _ => rfl) (fun x4 => ?_)
        refine g_goto (tgt := 2) hC dX8_hasOpenMotion_52 (by decide) ?_
        refine g_sub (lv1 := [(0, .ref (zad Z 0)), (1, .int a1), (2, .int x4)]) [1, 2, 0] rfl ?_
        exact hs2 M a1 x4
    · refine g_iinc hC 2 (v := 1) (fun x5 => [(2, .int x5), (0, .ref (zad Z 0)), (1, .int a1)]) dX8_hasOpenMotion_49 rfl (by decide) (by decide) (fun _ => rfl) (fun x5 => ?_)
      refine g_goto (tgt := 2) hC dX8_hasOpenMotion_52 (by decide) ?_
      refine g_sub (lv1 := [(0, .ref (zad Z 0)), (1, .int a1), (2, .int x5)]) [1, 2, 0] rfl ?_
      exact hs2 M a1 x5
set_option maxRecDepth 20000 in
set_option maxHeartbeats 4000000 in
theorem g_X8_hasOpenMotion_l2 {p : Program} {l : Launch} {e : Env} {s : State} {m : MethodId} {args : Array Value} {below : List Frame} {meth : Method} {c : Code} {Z : gZ} (hC : gC p l s m args meth c cX8_hasOpenMotion 3 RX8 (some .boolean) Z)   : ∀ (n : Nat) (M : gM) (a1 : Int32) (a2 : Int32), gW p l e rm_X8_hasOpenMotion s m args below meth c 3 Z 1 0 0 M 2 [(0, .ref (zad Z 0)), (1, .int a1), (2, .int a2)] [] (f_X8_hasOpenMotion_l2  n M a1 a2)
  | 0, _, _, _ => g_stuck
  | n + 1, M, a1, a2 => g_X8_hasOpenMotion_lb2 hC  (g_X8_hasOpenMotion_l2 hC  n) M a1 a2
set_option maxRecDepth 20000 in
set_option maxHeartbeats 4000000 in
theorem c_X8_hasOpenMotion {l : Launch} (hfl : l.stackTraces = false) (Z : gZ) (M : gM) (a1 : Int32) : gMet l yX8_hasOpenMotion cX8_hasOpenMotion 3 (some .boolean) rm_X8_hasOpenMotion 1 0 Z M [.ref (zad Z 0), .int a1] (f_X8_hasOpenMotion M a1) := by
  refine g_enter hfl (by decide) (Nat.le_of_ble_eq_true rfl) (fun p e s m args below meth c hC => ?_)
  refine g_eq (F := f_X8_hasOpenMotion M a1) rfl ?_
  refine g_lv0 (lv1 := [(0, .ref (zad Z 0)), (1, .int a1)]) rfl ?_
  unfold f_X8_hasOpenMotion
  refine g_iconst hC (v := 0) dX8_hasOpenMotion_0 (by decide) ?_
  refine g_istore_n hC (lv1 := [(2, .int 0), (0, .ref (zad Z 0)), (1, .int a1)]) dX8_hasOpenMotion_1 rfl (by decide) rfl ?_
  refine g_sub (lv1 := [(0, .ref (zad Z 0)), (1, .int a1), (2, .int 0)]) [1, 2, 0] rfl ?_
  exact g_X8_hasOpenMotion_l2 hC  5000 M a1 0

-- ===== X8_isUnanswered =====
def f_X8_isUnanswered (M : gM) (a1 : Int32) : gR := (gI a1 24 (if (M 51 a1.toNatClampNeg) = 0 then (rb (f_X8_isServed M a1) (fun x2 M1 => (if x2 = 0 then (rRet 0 M1) else (rb (f_X8_hasAnswer M1 a1) (fun x4 M3 => (if x4 = 0 then (rb (f_X8_hasOpenMotion M3 a1) (fun x6 M5 => (if x6 = 0 then (rRet 1 M5) else (rRet 0 M5)))) else (rRet 0 M3))))))) else (rRet 0 M)))
abbrev rm_X8_isUnanswered : Room := { frames := 5, cells := 0, slots := 0, locals := 113 }
set_option maxRecDepth 20000 in
set_option maxHeartbeats 4000000 in
theorem c_X8_isUnanswered {l : Launch} (hfl : l.stackTraces = false) (Z : gZ) (M : gM) (a1 : Int32) : gMet l yX8_isUnanswered cX8_isUnanswered 2 (some .boolean) rm_X8_isUnanswered 1 0 Z M [.ref (zad Z 0), .int a1] (f_X8_isUnanswered M a1) := by
  refine g_enter hfl (by decide) (Nat.le_of_ble_eq_true rfl) (fun p e s m args below meth c hC => ?_)
  refine g_eq (F := f_X8_isUnanswered M a1) rfl ?_
  refine g_lv0 (lv1 := [(0, .ref (zad Z 0)), (1, .int a1)]) rfl ?_
  unfold f_X8_isUnanswered
  refine g_aload_n hC 0 dX8_isUnanswered_0 rfl rfl ?_
  refine gf_X8_26 hC dX8_isUnanswered_1 ?_
  refine gf_X8_195 hC dX8_isUnanswered_4 ?_
  refine g_iload_n hC 1 dX8_isUnanswered_7 rfl rfl ?_
  refine g_iald hC 51 (by decide) rfl dX8_isUnanswered_8 ?_
  refine g_if_ne (tgt := 40) hC dX8_isUnanswered_9 (by decide) (fun _ => ?_) (fun _ => ?_)
  · refine g_aload_n hC 0 dX8_isUnanswered_12 rfl rfl ?_
    refine g_iload_n hC 1 dX8_isUnanswered_13 rfl rfl ?_
    refine g_callVi (n := 1) hC [.int a1] 0 8 (by decide) rfl rfl (fun hne => c_X8_isServed hC.2.2.2.2.2.2.2.1 Z M a1 hne) lk_X8_198 mw_X8_isServed.1 mw_X8_isServed.2.1 mw_X8_isServed.2.2.1 mw_X8_isServed.2.2.2 ⟨rfl, by decide, by decide, by decide +kernel⟩ rfl rfl ⟨by decide, by decide⟩ rfl rfl (Nat.le_of_ble_eq_true rfl) (by decide) (by decide) (by decide) dX8_isUnanswered_14 (fun x2 M1 => ?_)
    refine g_if_eq (tgt := 40) hC dX8_isUnanswered_17 (by decide) (fun _ => ?_) (fun _ => ?_)
    · refine g_iconst hC (v := 0) dX8_isUnanswered_40 (by decide) ?_
      exact g_zret0 hC rfl (by decide) dX8_isUnanswered_41
    · refine g_aload_n hC 0 dX8_isUnanswered_20 rfl rfl ?_
      refine g_iload_n hC 1 dX8_isUnanswered_21 rfl rfl ?_
      refine g_callVi (n := 1) hC [.int a1] 0 8 (by decide) rfl rfl (fun hne => c_X8_hasAnswer hC.2.2.2.2.2.2.2.1 Z M1 a1 hne) lk_X8_246 mw_X8_hasAnswer.1 mw_X8_hasAnswer.2.1 mw_X8_hasAnswer.2.2.1 mw_X8_hasAnswer.2.2.2 ⟨rfl, by decide, by decide, by decide +kernel⟩ rfl rfl ⟨by decide, by decide⟩ rfl rfl (Nat.le_of_ble_eq_true rfl) (by decide) (by decide) (by decide) dX8_isUnanswered_22 (fun x4 M3 => ?_)
      refine g_if_ne (tgt := 40) hC dX8_isUnanswered_25 (by decide) (fun _ => ?_) (fun _ => ?_)
      · refine g_aload_n hC 0 dX8_isUnanswered_28 rfl rfl ?_
        refine g_iload_n hC 1 dX8_isUnanswered_29 rfl rfl ?_
        refine g_callVi (n := 1) hC [.int a1] 0 8 (by decide) rfl rfl (fun hne => c_X8_hasOpenMotion hC.2.2.2.2.2.2.2.1 Z M3 a1 hne) lk_X8_510 mw_X8_hasOpenMotion.1 mw_X8_hasOpenMotion.2.1 mw_X8_hasOpenMotion.2.2.1 mw_X8_hasOpenMotion.2.2.2 ⟨rfl, by decide, by decide, by decide +kernel⟩ rfl rfl ⟨by decide, by decide⟩ rfl rfl (Nat.le_of_ble_eq_true rfl) (by decide) (by decide) (by decide) dX8_isUnanswered_30 (fun x6 M5 => ?_)
        refine g_if_ne (tgt := 40) hC dX8_isUnanswered_33 (by decide) (fun _ => ?_) (fun _ => ?_)
        · refine g_iconst hC (v := 1) dX8_isUnanswered_36 (by decide) ?_
          refine g_goto (tgt := 41) hC dX8_isUnanswered_37 (by decide) ?_
          exact g_zret1 hC rfl (by decide) dX8_isUnanswered_41
        · refine g_iconst hC (v := 0) dX8_isUnanswered_40 (by decide) ?_
          exact g_zret0 hC rfl (by decide) dX8_isUnanswered_41
      · refine g_iconst hC (v := 0) dX8_isUnanswered_40 (by decide) ?_
        exact g_zret0 hC rfl (by decide) dX8_isUnanswered_41
  · refine g_iconst hC (v := 0) dX8_isUnanswered_40 (by decide) ?_
    exact g_zret0 hC rfl (by decide) dX8_isUnanswered_41

-- ===== X8_dueFrom =====
def f_X8_dueFrom (M : gM) (a1 : Int32) : gR := (gI a1 160 (gI (M 57 a1.toNatClampNeg) 24 (rb (f_X1_stayMarks M (M 47 (M 57 a1.toNatClampNeg).toNatClampNeg)) (fun x2 M1 => (gI a1 160 (gI a1 160 (gI a1 160 (rb (f_X0_end M1 (M1 56 a1.toNatClampNeg) (M1 63 a1.toNatClampNeg) (M1 64 a1.toNatClampNeg) x2) (fun x4 M3 => (rRet x4 M3))))))))))
abbrev rm_X8_dueFrom : Room := { frames := 1, cells := 0, slots := 0, locals := 27 }
set_option maxRecDepth 20000 in
set_option maxHeartbeats 4000000 in
theorem c_X8_dueFrom {l : Launch} (hfl : l.stackTraces = false) (Z : gZ) (M : gM) (a1 : Int32) : gMet l yX8_dueFrom cX8_dueFrom 3 (some .int) rm_X8_dueFrom 1 0 Z M [.ref (zad Z 0), .int a1] (f_X8_dueFrom M a1) := by
  refine g_enter hfl (by decide) (Nat.le_of_ble_eq_true rfl) (fun p e s m args below meth c hC => ?_)
  refine g_eq (F := f_X8_dueFrom M a1) rfl ?_
  refine g_lv0 (lv1 := [(0, .ref (zad Z 0)), (1, .int a1)]) rfl ?_
  unfold f_X8_dueFrom
  refine g_aload_n hC 0 dX8_dueFrom_0 rfl rfl ?_
  refine gf_X8_19 hC dX8_dueFrom_1 ?_
  refine g_aload_n hC 0 dX8_dueFrom_4 rfl rfl ?_
  refine gf_X8_26 hC dX8_dueFrom_5 ?_
  refine gf_X8_177 hC dX8_dueFrom_8 ?_
  refine g_aload_n hC 0 dX8_dueFrom_11 rfl rfl ?_
  refine gf_X8_33 hC dX8_dueFrom_12 ?_
  refine gf_X8_232 hC dX8_dueFrom_15 ?_
  refine g_iload_n hC 1 dX8_dueFrom_18 rfl rfl ?_
  refine g_iald hC 57 (by decide) rfl dX8_dueFrom_19 ?_
  refine g_iald hC 47 (by decide) rfl dX8_dueFrom_20 ?_
  refine g_callVi (n := 1) hC [.int (M 47 (M 57 a1.toNatClampNeg).toNatClampNeg)] 2 1 (by decide) rfl rfl (fun hne => c_X1_stayMarks hC.2.2.2.2.2.2.2.1 Z M (M 47 (M 57 a1.toNatClampNeg).toNatClampNeg) hne) lk_X8_516 mw_X1_stayMarks.1 mw_X1_stayMarks.2.1 mw_X1_stayMarks.2.2.1 mw_X1_stayMarks.2.2.2 ⟨rfl, by decide, by decide, by decide +kernel⟩ rfl rfl ⟨by decide, by decide⟩ rfl rfl (Nat.le_of_ble_eq_true rfl) (by decide) (by decide) (by decide) dX8_dueFrom_21 (fun x2 M1 => ?_)
  refine g_istore_n hC (lv1 := [(2, .int x2), (0, .ref (zad Z 0)), (1, .int a1)]) dX8_dueFrom_24 rfl (by decide) rfl ?_
  refine g_aload_n hC 1 dX8_dueFrom_25 rfl rfl ?_
  refine gf_X8_12 hC dX8_dueFrom_26 ?_
  refine g_aload_n hC 1 dX8_dueFrom_29 rfl rfl ?_
  refine gf_X8_33 hC dX8_dueFrom_30 ?_
  refine gf_X8_440 hC dX8_dueFrom_33 ?_
  refine g_iload_n hC 2 dX8_dueFrom_36 rfl rfl ?_
  refine g_iald hC 56 (by decide) rfl dX8_dueFrom_37 ?_
  refine g_aload_n hC 1 dX8_dueFrom_38 rfl rfl ?_
  refine gf_X8_33 hC dX8_dueFrom_39 ?_
  refine gf_X8_208 hC dX8_dueFrom_42 ?_
  refine g_iload_n hC 2 dX8_dueFrom_45 rfl rfl ?_
  refine g_iald hC 63 (by decide) rfl dX8_dueFrom_46 ?_
  refine g_aload_n hC 1 dX8_dueFrom_47 rfl rfl ?_
  refine gf_X8_33 hC dX8_dueFrom_48 ?_
  refine gf_X8_479 hC dX8_dueFrom_51 ?_
  refine g_iload_n hC 2 dX8_dueFrom_54 rfl rfl ?_
  refine g_zald hC 64 (by decide) rfl dX8_dueFrom_55 ?_
  refine g_iload_n hC 0 dX8_dueFrom_56 rfl rfl ?_
  refine g_callVi (n := 4) hC [.int (M1 56 a1.toNatClampNeg), .int (M1 63 a1.toNatClampNeg), .int (M1 64 a1.toNatClampNeg), .int x2] 1 0 (by decide) rfl rfl (fun hne => c_X0_end hC.2.2.2.2.2.2.2.1 Z M1 (M1 56 a1.toNatClampNeg) (M1 63 a1.toNatClampNeg) (M1 64 a1.toNatClampNeg) x2 hne) lk_X8_519 mw_X0_end.1 mw_X0_end.2.1 mw_X0_end.2.2.1 mw_X0_end.2.2.2 ⟨rfl, by decide, by decide, by decide +kernel⟩ rfl rfl ⟨by decide, by decide⟩ rfl rfl (Nat.le_of_ble_eq_true rfl) (by decide) (by decide) (by decide) dX8_dueFrom_57 (fun x4 M3 => ?_)
  exact g_iret hC rfl (by decide) dX8_dueFrom_60

-- ===== X8_isLate =====
def f_X8_isLate (M : gM) (a1 : Int32) : gR := (if a1 = (-1) then (rRet 0 M) else (rb (f_X8_dueFrom M a1) (fun x2 M1 => (rb (f_X0_isPast M1 x2) (fun x4 M3 => (if x4 = 0 then (rRet 0 M3) else (rRet 1 M3)))))))
abbrev rm_X8_isLate : Room := { frames := 2, cells := 0, slots := 0, locals := 49 }
set_option maxRecDepth 20000 in
set_option maxHeartbeats 4000000 in
theorem c_X8_isLate {l : Launch} (hfl : l.stackTraces = false) (Z : gZ) (M : gM) (a1 : Int32) : gMet l yX8_isLate cX8_isLate 2 (some .boolean) rm_X8_isLate 1 0 Z M [.ref (zad Z 0), .int a1] (f_X8_isLate M a1) := by
  refine g_enter hfl (by decide) (Nat.le_of_ble_eq_true rfl) (fun p e s m args below meth c hC => ?_)
  refine g_eq (F := f_X8_isLate M a1) rfl ?_
  refine g_lv0 (lv1 := [(0, .ref (zad Z 0)), (1, .int a1)]) rfl ?_
  unfold f_X8_isLate
  refine g_iload_n hC 1 dX8_isLate_0 rfl rfl ?_
  refine g_iconst hC (v := (-1)) dX8_isLate_1 (by decide) ?_
  refine g_icmp_eq (tgt := 24) hC dX8_isLate_2 (by decide) (fun _ => ?_) (fun _ => ?_)
  · refine g_iconst hC (v := 0) dX8_isLate_24 (by decide) ?_
    exact g_zret0 hC rfl (by decide) dX8_isLate_25
  · refine g_aload_n hC 0 dX8_isLate_5 rfl rfl ?_
    refine gf_X8_12 hC dX8_isLate_6 ?_
    refine g_aload_n hC 0 dX8_isLate_9 rfl rfl ?_
    refine g_iload_n hC 1 dX8_isLate_10 rfl rfl ?_
    refine g_callVi (n := 1) hC [.int a1] 0 8 (by decide) rfl rfl (fun hne => c_X8_dueFrom hC.2.2.2.2.2.2.2.1 Z M a1 hne) lk_X8_337 mw_X8_dueFrom.1 mw_X8_dueFrom.2.1 mw_X8_dueFrom.2.2.1 mw_X8_dueFrom.2.2.2 ⟨rfl, by decide, by decide, by decide +kernel⟩ rfl rfl ⟨by decide, by decide⟩ rfl rfl (Nat.le_of_ble_eq_true rfl) (by decide) (by decide) (by decide) dX8_isLate_11 (fun x2 M1 => ?_)
    refine g_callVi (n := 1) hC [.int x2] 1 0 (by decide) rfl rfl (fun hne => c_X0_isPast hC.2.2.2.2.2.2.2.1 Z M1 x2 hne) lk_X8_324 mw_X0_isPast.1 mw_X0_isPast.2.1 mw_X0_isPast.2.2.1 mw_X0_isPast.2.2.2 ⟨rfl, by decide, by decide, by decide +kernel⟩ rfl rfl ⟨by decide, by decide⟩ rfl rfl (Nat.le_of_ble_eq_true rfl) (by decide) (by decide) (by decide) dX8_isLate_14 (fun x4 M3 => ?_)
    refine g_if_eq (tgt := 24) hC dX8_isLate_17 (by decide) (fun _ => ?_) (fun _ => ?_)
    · refine g_iconst hC (v := 0) dX8_isLate_24 (by decide) ?_
      exact g_zret0 hC rfl (by decide) dX8_isLate_25
    · refine g_iconst hC (v := 1) dX8_isLate_20 (by decide) ?_
      refine g_goto (tgt := 25) hC dX8_isLate_21 (by decide) ?_
      exact g_zret1 hC rfl (by decide) dX8_isLate_25

-- ===== X8_answer =====
def f_X8_answer_b34  (M : gM) (a1 : Int32) (t1 : Int32) : gR := (rb (f_X8_allow M t1) (fun _ M1 => (rb (f_X8_enter M1 1 a1 0 0) (fun x4 M3 => (rRet x4 M3)))))
def f_X8_answer_b33  (M : gM) (a1 : Int32)  : gR := (f_X8_answer_b34  M a1 0)
def f_X8_answer (M : gM) (a1 : Int32) : gR := (rb (f_X8_checkClaim M a1) (fun _ M5 => (rb (f_X8_isUnanswered M5 a1) (fun x8 M7 => (if x8 = 0 then (f_X8_answer_b33  M7 a1 ) else (rb (f_X3_answerStart M7 a1) (fun x10 M9 => (rb (f_X8_isLate M9 x10) (fun x12 M11 => (if x12 = 0 then (f_X8_answer_b34  M11 a1 1) else (f_X8_answer_b33  M11 a1 )))))))))))
abbrev rm_X8_answer : Room := { frames := 7, cells := 2, slots := 12, locals := 134 }
set_option maxRecDepth 20000 in
set_option maxHeartbeats 4000000 in
theorem g_X8_answer_b34 {p : Program} {l : Launch} {e : Env} {s : State} {m : MethodId} {args : Array Value} {below : List Frame} {meth : Method} {c : Code} {Z : gZ} (hC : gC p l s m args meth c cX8_answer 2 RX8 (some .int) Z)   (M : gM) (a1 : Int32) (t1 : Int32) : gW p l e rm_X8_answer s m args below meth c 2 Z 1 2 1 M 34 [(0, .ref (zad Z 0)), (1, .int a1)] [.int t1, .ref (zad Z 0)] (f_X8_answer_b34  M a1 t1) := by
  unfold f_X8_answer_b34
  refine g_callVv (n := 1) hC [.int t1] 0 8 (by decide) rfl rfl (fun hne => c_X8_allow hC.2.2.2.2.2.2.2.1 Z M t1 hne) lk_X8_201 mw_X8_allow.1 mw_X8_allow.2.1 mw_X8_allow.2.2.1 mw_X8_allow.2.2.2 ⟨rfl, by decide, by decide, by decide +kernel⟩ rfl rfl ⟨by decide, by decide⟩ rfl rfl (Nat.le_of_ble_eq_true rfl) (by decide) (by decide) (by decide) dX8_answer_34 (fun M1 => ?_)
  refine g_aload_n hC 0 dX8_answer_37 rfl rfl ?_
  refine g_iconst hC (v := 1) dX8_answer_38 (by decide) ?_
  refine g_iload_n hC 1 dX8_answer_39 rfl rfl ?_
  refine g_iconst hC (v := 0) dX8_answer_40 (by decide) ?_
  refine g_iconst hC (v := 0) dX8_answer_41 (by decide) ?_
  refine g_callVi (n := 4) hC [.int 1, .int a1, .int 0, .int 0] 0 8 (by decide) rfl rfl (fun hne => c_X8_enter hC.2.2.2.2.2.2.2.1 Z M1 1 a1 0 0 hne) lk_X8_205 mw_X8_enter.1 mw_X8_enter.2.1 mw_X8_enter.2.2.1 mw_X8_enter.2.2.2 ⟨rfl, by decide, by decide, by decide +kernel⟩ rfl rfl ⟨by decide, by decide⟩ rfl rfl (Nat.le_of_ble_eq_true rfl) (by decide) (by decide) (by decide) dX8_answer_42 (fun x4 M3 => ?_)
  exact g_iret hC rfl (by decide) dX8_answer_45
set_option maxRecDepth 20000 in
set_option maxHeartbeats 4000000 in
theorem g_X8_answer_b33 {p : Program} {l : Launch} {e : Env} {s : State} {m : MethodId} {args : Array Value} {below : List Frame} {meth : Method} {c : Code} {Z : gZ} (hC : gC p l s m args meth c cX8_answer 2 RX8 (some .int) Z)   (M : gM) (a1 : Int32)  : gW p l e rm_X8_answer s m args below meth c 2 Z 1 2 1 M 33 [(0, .ref (zad Z 0)), (1, .int a1)] [.ref (zad Z 0)] (f_X8_answer_b33  M a1 ) := by
  unfold f_X8_answer_b33
  refine g_iconst hC (v := 0) dX8_answer_33 (by decide) ?_
  exact g_X8_answer_b34 hC  M a1 0
set_option maxRecDepth 20000 in
set_option maxHeartbeats 4000000 in
theorem c_X8_answer {l : Launch} (hfl : l.stackTraces = false) (Z : gZ) (M : gM) (a1 : Int32) : gMet l yX8_answer cX8_answer 2 (some .int) rm_X8_answer 1 2 Z M [.ref (zad Z 0), .int a1] (f_X8_answer M a1) := by
  refine g_enter hfl (by decide) (Nat.le_of_ble_eq_true rfl) (fun p e s m args below meth c hC => ?_)
  refine g_eq (F := f_X8_answer M a1) rfl ?_
  refine g_lv0 (lv1 := [(0, .ref (zad Z 0)), (1, .int a1)]) rfl ?_
  unfold f_X8_answer
  refine g_aload_n hC 0 dX8_answer_0 rfl rfl ?_
  refine g_iload_n hC 1 dX8_answer_1 rfl rfl ?_
  refine g_callVv (n := 1) hC [.int a1] 0 8 (by decide) rfl rfl (fun hne => c_X8_checkClaim hC.2.2.2.2.2.2.2.1 Z M a1 hne) lk_X8_169 mw_X8_checkClaim.1 mw_X8_checkClaim.2.1 mw_X8_checkClaim.2.2.1 mw_X8_checkClaim.2.2.2 ⟨rfl, by decide, by decide, by decide +kernel⟩ rfl rfl ⟨by decide, by decide⟩ rfl rfl (Nat.le_of_ble_eq_true rfl) (by decide) (by decide) (by decide) dX8_answer_2 (fun M5 => ?_)
  refine g_aload_n hC 0 dX8_answer_5 rfl rfl ?_
  refine g_aload_n hC 0 dX8_answer_6 rfl rfl ?_
  refine g_iload_n hC 1 dX8_answer_7 rfl rfl ?_
  refine g_callVi (n := 1) hC [.int a1] 0 8 (by decide) rfl rfl (fun hne => c_X8_isUnanswered hC.2.2.2.2.2.2.2.1 Z M5 a1 hne) lk_X8_214 mw_X8_isUnanswered.1 mw_X8_isUnanswered.2.1 mw_X8_isUnanswered.2.2.1 mw_X8_isUnanswered.2.2.2 ⟨rfl, by decide, by decide, by decide +kernel⟩ rfl rfl ⟨by decide, by decide⟩ rfl rfl (Nat.le_of_ble_eq_true rfl) (by decide) (by decide) (by decide) dX8_answer_8 (fun x8 M7 => ?_)
  refine g_if_eq (tgt := 33) hC dX8_answer_11 (by decide) (fun _ => ?_) (fun _ => ?_)
  · exact g_X8_answer_b33 hC  M7 a1
  · refine g_aload_n hC 0 dX8_answer_14 rfl rfl ?_
    refine g_aload_n hC 0 dX8_answer_15 rfl rfl ?_
    refine gf_X8_33 hC dX8_answer_16 ?_
    refine g_iload_n hC 1 dX8_answer_19 rfl rfl ?_
    refine g_callVi (n := 1) hC [.int a1] 4 3 (by decide) rfl rfl (fun hne => c_X3_answerStart hC.2.2.2.2.2.2.2.1 Z M7 a1 hne) lk_X8_217 mw_X3_answerStart.1 mw_X3_answerStart.2.1 mw_X3_answerStart.2.2.1 mw_X3_answerStart.2.2.2 ⟨rfl, by decide, by decide, by decide +kernel⟩ rfl rfl ⟨by decide, by decide⟩ rfl rfl (Nat.le_of_ble_eq_true rfl) (by decide) (by decide) (by decide) dX8_answer_20 (fun x10 M9 => ?_)
    refine g_callVi (n := 1) hC [.int x10] 0 8 (by decide) rfl rfl (fun hne => c_X8_isLate hC.2.2.2.2.2.2.2.1 Z M9 x10 hne) lk_X8_220 mw_X8_isLate.1 mw_X8_isLate.2.1 mw_X8_isLate.2.2.1 mw_X8_isLate.2.2.2 ⟨rfl, by decide, by decide, by decide +kernel⟩ rfl rfl ⟨by decide, by decide⟩ rfl rfl (Nat.le_of_ble_eq_true rfl) (by decide) (by decide) (by decide) dX8_answer_23 (fun x12 M11 => ?_)
    refine g_if_ne (tgt := 33) hC dX8_answer_26 (by decide) (fun _ => ?_) (fun _ => ?_)
    · refine g_iconst hC (v := 1) dX8_answer_29 (by decide) ?_
      refine g_goto (tgt := 34) hC dX8_answer_30 (by decide) ?_
      exact g_X8_answer_b34 hC  M11 a1 1
    · exact g_X8_answer_b33 hC  M11 a1

-- ===== X8_motion =====
def f_X8_motion_b34  (M : gM) (a1 : Int32) (t1 : Int32) : gR := (rb (f_X8_allow M t1) (fun _ M1 => (rb (f_X8_enter M1 2 a1 0 0) (fun x4 M3 => (rRet x4 M3)))))
def f_X8_motion_b33  (M : gM) (a1 : Int32)  : gR := (f_X8_motion_b34  M a1 0)
def f_X8_motion (M : gM) (a1 : Int32) : gR := (rb (f_X8_checkClaim M a1) (fun _ M5 => (rb (f_X8_isUnanswered M5 a1) (fun x8 M7 => (if x8 = 0 then (f_X8_motion_b33  M7 a1 ) else (rb (f_X3_answerStart M7 a1) (fun x10 M9 => (rb (f_X8_isLate M9 x10) (fun x12 M11 => (if x12 = 0 then (f_X8_motion_b34  M11 a1 1) else (f_X8_motion_b33  M11 a1 )))))))))))
abbrev rm_X8_motion : Room := { frames := 7, cells := 2, slots := 12, locals := 134 }
set_option maxRecDepth 20000 in
set_option maxHeartbeats 4000000 in
theorem g_X8_motion_b34 {p : Program} {l : Launch} {e : Env} {s : State} {m : MethodId} {args : Array Value} {below : List Frame} {meth : Method} {c : Code} {Z : gZ} (hC : gC p l s m args meth c cX8_motion 2 RX8 (some .int) Z)   (M : gM) (a1 : Int32) (t1 : Int32) : gW p l e rm_X8_motion s m args below meth c 2 Z 1 2 1 M 34 [(0, .ref (zad Z 0)), (1, .int a1)] [.int t1, .ref (zad Z 0)] (f_X8_motion_b34  M a1 t1) := by
  unfold f_X8_motion_b34
  refine g_callVv (n := 1) hC [.int t1] 0 8 (by decide) rfl rfl (fun hne => c_X8_allow hC.2.2.2.2.2.2.2.1 Z M t1 hne) lk_X8_201 mw_X8_allow.1 mw_X8_allow.2.1 mw_X8_allow.2.2.1 mw_X8_allow.2.2.2 ⟨rfl, by decide, by decide, by decide +kernel⟩ rfl rfl ⟨by decide, by decide⟩ rfl rfl (Nat.le_of_ble_eq_true rfl) (by decide) (by decide) (by decide) dX8_motion_34 (fun M1 => ?_)
  refine g_aload_n hC 0 dX8_motion_37 rfl rfl ?_
  refine g_iconst hC (v := 2) dX8_motion_38 (by decide) ?_
  refine g_iload_n hC 1 dX8_motion_39 rfl rfl ?_
  refine g_iconst hC (v := 0) dX8_motion_40 (by decide) ?_
  refine g_iconst hC (v := 0) dX8_motion_41 (by decide) ?_
  refine g_callVi (n := 4) hC [.int 2, .int a1, .int 0, .int 0] 0 8 (by decide) rfl rfl (fun hne => c_X8_enter hC.2.2.2.2.2.2.2.1 Z M1 2 a1 0 0 hne) lk_X8_205 mw_X8_enter.1 mw_X8_enter.2.1 mw_X8_enter.2.2.1 mw_X8_enter.2.2.2 ⟨rfl, by decide, by decide, by decide +kernel⟩ rfl rfl ⟨by decide, by decide⟩ rfl rfl (Nat.le_of_ble_eq_true rfl) (by decide) (by decide) (by decide) dX8_motion_42 (fun x4 M3 => ?_)
  exact g_iret hC rfl (by decide) dX8_motion_45
set_option maxRecDepth 20000 in
set_option maxHeartbeats 4000000 in
theorem g_X8_motion_b33 {p : Program} {l : Launch} {e : Env} {s : State} {m : MethodId} {args : Array Value} {below : List Frame} {meth : Method} {c : Code} {Z : gZ} (hC : gC p l s m args meth c cX8_motion 2 RX8 (some .int) Z)   (M : gM) (a1 : Int32)  : gW p l e rm_X8_motion s m args below meth c 2 Z 1 2 1 M 33 [(0, .ref (zad Z 0)), (1, .int a1)] [.ref (zad Z 0)] (f_X8_motion_b33  M a1 ) := by
  unfold f_X8_motion_b33
  refine g_iconst hC (v := 0) dX8_motion_33 (by decide) ?_
  exact g_X8_motion_b34 hC  M a1 0
set_option maxRecDepth 20000 in
set_option maxHeartbeats 4000000 in
theorem c_X8_motion {l : Launch} (hfl : l.stackTraces = false) (Z : gZ) (M : gM) (a1 : Int32) : gMet l yX8_motion cX8_motion 2 (some .int) rm_X8_motion 1 2 Z M [.ref (zad Z 0), .int a1] (f_X8_motion M a1) := by
  refine g_enter hfl (by decide) (Nat.le_of_ble_eq_true rfl) (fun p e s m args below meth c hC => ?_)
  refine g_eq (F := f_X8_motion M a1) rfl ?_
  refine g_lv0 (lv1 := [(0, .ref (zad Z 0)), (1, .int a1)]) rfl ?_
  unfold f_X8_motion
  refine g_aload_n hC 0 dX8_motion_0 rfl rfl ?_
  refine g_iload_n hC 1 dX8_motion_1 rfl rfl ?_
  refine g_callVv (n := 1) hC [.int a1] 0 8 (by decide) rfl rfl (fun hne => c_X8_checkClaim hC.2.2.2.2.2.2.2.1 Z M a1 hne) lk_X8_169 mw_X8_checkClaim.1 mw_X8_checkClaim.2.1 mw_X8_checkClaim.2.2.1 mw_X8_checkClaim.2.2.2 ⟨rfl, by decide, by decide, by decide +kernel⟩ rfl rfl ⟨by decide, by decide⟩ rfl rfl (Nat.le_of_ble_eq_true rfl) (by decide) (by decide) (by decide) dX8_motion_2 (fun M5 => ?_)
  refine g_aload_n hC 0 dX8_motion_5 rfl rfl ?_
  refine g_aload_n hC 0 dX8_motion_6 rfl rfl ?_
  refine g_iload_n hC 1 dX8_motion_7 rfl rfl ?_
  refine g_callVi (n := 1) hC [.int a1] 0 8 (by decide) rfl rfl (fun hne => c_X8_isUnanswered hC.2.2.2.2.2.2.2.1 Z M5 a1 hne) lk_X8_214 mw_X8_isUnanswered.1 mw_X8_isUnanswered.2.1 mw_X8_isUnanswered.2.2.1 mw_X8_isUnanswered.2.2.2 ⟨rfl, by decide, by decide, by decide +kernel⟩ rfl rfl ⟨by decide, by decide⟩ rfl rfl (Nat.le_of_ble_eq_true rfl) (by decide) (by decide) (by decide) dX8_motion_8 (fun x8 M7 => ?_)
  refine g_if_eq (tgt := 33) hC dX8_motion_11 (by decide) (fun _ => ?_) (fun _ => ?_)
  · exact g_X8_motion_b33 hC  M7 a1
  · refine g_aload_n hC 0 dX8_motion_14 rfl rfl ?_
    refine g_aload_n hC 0 dX8_motion_15 rfl rfl ?_
    refine gf_X8_33 hC dX8_motion_16 ?_
    refine g_iload_n hC 1 dX8_motion_19 rfl rfl ?_
    refine g_callVi (n := 1) hC [.int a1] 4 3 (by decide) rfl rfl (fun hne => c_X3_answerStart hC.2.2.2.2.2.2.2.1 Z M7 a1 hne) lk_X8_217 mw_X3_answerStart.1 mw_X3_answerStart.2.1 mw_X3_answerStart.2.2.1 mw_X3_answerStart.2.2.2 ⟨rfl, by decide, by decide, by decide +kernel⟩ rfl rfl ⟨by decide, by decide⟩ rfl rfl (Nat.le_of_ble_eq_true rfl) (by decide) (by decide) (by decide) dX8_motion_20 (fun x10 M9 => ?_)
    refine g_callVi (n := 1) hC [.int x10] 0 8 (by decide) rfl rfl (fun hne => c_X8_isLate hC.2.2.2.2.2.2.2.1 Z M9 x10 hne) lk_X8_220 mw_X8_isLate.1 mw_X8_isLate.2.1 mw_X8_isLate.2.2.1 mw_X8_isLate.2.2.2 ⟨rfl, by decide, by decide, by decide +kernel⟩ rfl rfl ⟨by decide, by decide⟩ rfl rfl (Nat.le_of_ble_eq_true rfl) (by decide) (by decide) (by decide) dX8_motion_23 (fun x12 M11 => ?_)
    refine g_if_ne (tgt := 33) hC dX8_motion_26 (by decide) (fun _ => ?_) (fun _ => ?_)
    · refine g_iconst hC (v := 1) dX8_motion_29 (by decide) ?_
      refine g_goto (tgt := 34) hC dX8_motion_30 (by decide) ?_
      exact g_X8_motion_b34 hC  M11 a1 1
    · exact g_X8_motion_b33 hC  M11 a1

-- ===== X8_checkEntry =====
def f_X8_checkEntry (M : gM) (a1 : Int32) : gR := (if a1 < 0 then (rThr 0 M) else (if a1 < (M 4 0) then (rRet 0 M) else (rThr 0 M)))
abbrev rm_X8_checkEntry : Room := { frames := 6, cells := 1, slots := 6, locals := 90 }
set_option maxRecDepth 20000 in
set_option maxHeartbeats 4000000 in
theorem c_X8_checkEntry {l : Launch} (hfl : l.stackTraces = false) (Z : gZ) (M : gM) (a1 : Int32) : gMet l yX8_checkEntry cX8_checkEntry 2 none rm_X8_checkEntry 0 1 Z M [.ref (zad Z 0), .int a1] (f_X8_checkEntry M a1) := by
  refine g_enter hfl (by decide) (Nat.le_of_ble_eq_true rfl) (fun p e s m args below meth c hC => ?_)
  refine g_eq (F := f_X8_checkEntry M a1) rfl ?_
  refine g_lv0 (lv1 := [(0, .ref (zad Z 0)), (1, .int a1)]) rfl ?_
  unfold f_X8_checkEntry
  refine g_iload_n hC 1 dX8_checkEntry_0 rfl rfl ?_
  refine g_if_lt (tgt := 15) hC dX8_checkEntry_1 (by decide) (fun _ => ?_) (fun _ => ?_)
  · exact g_throwSW (text := "no such entry") hC 0 (by decide) thr_c0 thr_i0 (by decide) thr_a0 thr_n0 thr_g0 (by decide) (by decide) (Nat.le_of_ble_eq_true rfl) (by decide) (by decide) (by decide) dX8_checkEntry_15 dX8_checkEntry_18 dX8_checkEntry_19 dX8_checkEntry_22 dX8_checkEntry_25
  · refine g_iload_n hC 1 dX8_checkEntry_4 rfl rfl ?_
    refine g_aload_n hC 0 dX8_checkEntry_5 rfl rfl ?_
    refine gf_X8_33 hC dX8_checkEntry_6 ?_
    refine gf_X8_457 hC dX8_checkEntry_9 ?_
    refine g_icmp_lt (tgt := 26) hC dX8_checkEntry_12 (by decide) (fun _ => ?_) (fun _ => ?_)
    · exact g_vret hC rfl (by decide) dX8_checkEntry_26
    · exact g_throwSW (text := "no such entry") hC 0 (by decide) thr_c0 thr_i0 (by decide) thr_a0 thr_n0 thr_g0 (by decide) (by decide) (Nat.le_of_ble_eq_true rfl) (by decide) (by decide) (by decide) dX8_checkEntry_15 dX8_checkEntry_18 dX8_checkEntry_19 dX8_checkEntry_22 dX8_checkEntry_25

-- ===== X8_checkMotion =====
def f_X8_checkMotion (M : gM) (a1 : Int32) : gR := (rb (f_X8_checkEntry M a1) (fun _ M1 => (gI a1 160 (if (M1 55 a1.toNatClampNeg) = 2 then (rRet 0 M1) else (rThr 0 M1)))))
abbrev rm_X8_checkMotion : Room := { frames := 7, cells := 2, slots := 12, locals := 111 }
set_option maxRecDepth 20000 in
set_option maxHeartbeats 4000000 in
theorem c_X8_checkMotion {l : Launch} (hfl : l.stackTraces = false) (Z : gZ) (M : gM) (a1 : Int32) : gMet l yX8_checkMotion cX8_checkMotion 2 none rm_X8_checkMotion 0 2 Z M [.ref (zad Z 0), .int a1] (f_X8_checkMotion M a1) := by
  refine g_enter hfl (by decide) (Nat.le_of_ble_eq_true rfl) (fun p e s m args below meth c hC => ?_)
  refine g_eq (F := f_X8_checkMotion M a1) rfl ?_
  refine g_lv0 (lv1 := [(0, .ref (zad Z 0)), (1, .int a1)]) rfl ?_
  unfold f_X8_checkMotion
  refine g_aload_n hC 0 dX8_checkMotion_0 rfl rfl ?_
  refine g_iload_n hC 1 dX8_checkMotion_1 rfl rfl ?_
  refine g_callVv (n := 1) hC [.int a1] 0 8 (by decide) rfl rfl (fun hne => c_X8_checkEntry hC.2.2.2.2.2.2.2.1 Z M a1 hne) lk_X8_298 mw_X8_checkEntry.1 mw_X8_checkEntry.2.1 mw_X8_checkEntry.2.2.1 mw_X8_checkEntry.2.2.2 ⟨rfl, by decide, by decide, by decide +kernel⟩ rfl rfl ⟨by decide, by decide⟩ rfl rfl (Nat.le_of_ble_eq_true rfl) (by decide) (by decide) (by decide) dX8_checkMotion_2 (fun M1 => ?_)
  refine g_aload_n hC 0 dX8_checkMotion_5 rfl rfl ?_
  refine gf_X8_33 hC dX8_checkMotion_6 ?_
  refine gf_X8_301 hC dX8_checkMotion_9 ?_
  refine g_iload_n hC 1 dX8_checkMotion_12 rfl rfl ?_
  refine g_iald hC 55 (by decide) rfl dX8_checkMotion_13 ?_
  refine g_iconst hC (v := 2) dX8_checkMotion_14 (by decide) ?_
  refine g_icmp_eq (tgt := 29) hC dX8_checkMotion_15 (by decide) (fun _ => ?_) (fun _ => ?_)
  · exact g_vret hC rfl (by decide) dX8_checkMotion_29
  · exact g_throwSW (text := "no such motion") hC 0 (by decide) thr_c0 thr_i0 (by decide) thr_a0 thr_n0 thr_g0 (by decide) (by decide) (Nat.le_of_ble_eq_true rfl) (by decide) (by decide) (by decide) dX8_checkMotion_18 dX8_checkMotion_21 dX8_checkMotion_22 dX8_checkMotion_25 dX8_checkMotion_28

-- ===== X8_hasResponse =====
def f_X8_hasResponse_lb2  (self2 : gM → Int32 → Int32 → gR) (M : gM) (a1 : Int32) (a2 : Int32) : gR := (if (M 4 0) ≤ a2 then (rRet 0 M) else (gI a2 160 (if (M 55 a2.toNatClampNeg) = 3 then (gI a2 160 (if (M 58 a2.toNatClampNeg) = a1 then (rb (f_X8_isCounting M a2) (fun x2 M1 => (if x2 = 0 then (bV (a2 + 1) (fun x3 => (self2 M1 a1 x3))) else (rRet 1 M1)))) else (bV (a2 + 1) (fun x4 => (self2 M a1 x4))))) else (bV (a2 + 1) (fun x5 => (self2 M a1 x5))))))
def f_X8_hasResponse_l2  : Nat → gM → Int32 → Int32 → gR
  | 0, _, _, _ => rStuck
  | n + 1, M, a1, a2 => f_X8_hasResponse_lb2  (f_X8_hasResponse_l2  n) M a1 a2
def f_X8_hasResponse (M : gM) (a1 : Int32) : gR := (f_X8_hasResponse_l2  5000 M a1 a1)
abbrev rm_X8_hasResponse : Room := { frames := 3, cells := 0, slots := 0, locals := 70 }
set_option maxRecDepth 20000 in
set_option maxHeartbeats 4000000 in
theorem g_X8_hasResponse_lb2 {p : Program} {l : Launch} {e : Env} {s : State} {m : MethodId} {args : Array Value} {below : List Frame} {meth : Method} {c : Code} {Z : gZ} (hC : gC p l s m args meth c cX8_hasResponse 3 RX8 (some .boolean) Z)  {self2 : gM → Int32 → Int32 → gR}  (hs2 : ∀ (M : gM) (a1 : Int32) (a2 : Int32) , gW p l e rm_X8_hasResponse s m args below meth c 3 Z 1 0 0 M 2 [(0, .ref (zad Z 0)), (1, .int a1), (2, .int a2)] [] (self2 M a1 a2)) (M : gM) (a1 : Int32) (a2 : Int32) : gW p l e rm_X8_hasResponse s m args below meth c 3 Z 1 0 0 M 2 [(0, .ref (zad Z 0)), (1, .int a1), (2, .int a2)] [] (f_X8_hasResponse_lb2  self2 M a1 a2) := by
  unfold f_X8_hasResponse_lb2
  refine g_iload_n hC 2 dX8_hasResponse_2 rfl rfl ?_
  refine g_aload_n hC 0 dX8_hasResponse_3 rfl rfl ?_
  refine gf_X8_33 hC dX8_hasResponse_4 ?_
  refine gf_X8_457 hC dX8_hasResponse_7 ?_
  refine g_icmp_ge (tgt := 55) hC dX8_hasResponse_10 (by decide) (fun _ => ?_) (fun _ => ?_)
  · refine g_iconst hC (v := 0) dX8_hasResponse_55 (by decide) ?_
    exact g_zret0 hC rfl (by decide) dX8_hasResponse_56
  · refine g_aload_n hC 0 dX8_hasResponse_13 rfl rfl ?_
    refine gf_X8_33 hC dX8_hasResponse_14 ?_
    refine gf_X8_301 hC dX8_hasResponse_17 ?_
    refine g_iload_n hC 2 dX8_hasResponse_20 rfl rfl ?_
    refine g_iald hC 55 (by decide) rfl dX8_hasResponse_21 ?_
    refine g_iconst hC (v := 3) dX8_hasResponse_22 (by decide) ?_
    refine g_icmp_ne (tgt := 49) hC dX8_hasResponse_23 (by decide) (fun _ => ?_) (fun _ => ?_)
    · refine g_aload_n hC 0 dX8_hasResponse_26 rfl rfl ?_
      refine gf_X8_33 hC dX8_hasResponse_27 ?_
      refine gf_X8_458 hC dX8_hasResponse_30 ?_
      refine g_iload_n hC 2 dX8_hasResponse_33 rfl rfl ?_
      refine g_iald hC 58 (by decide) rfl dX8_hasResponse_34 ?_
      refine g_iload_n hC 1 dX8_hasResponse_35 rfl rfl ?_
      refine g_icmp_ne (tgt := 49) hC dX8_hasResponse_36 (by decide) (fun _ => ?_) (fun _ => ?_)
      · refine g_aload_n hC 0 dX8_hasResponse_39 rfl rfl ?_
        refine g_iload_n hC 2 dX8_hasResponse_40 rfl rfl ?_
        refine g_callVi (n := 1) hC [.int a2] 0 8 (by decide) rfl rfl (fun hne => c_X8_isCounting hC.2.2.2.2.2.2.2.1 Z M a2 hne) lk_X8_466 mw_X8_isCounting.1 mw_X8_isCounting.2.1 mw_X8_isCounting.2.2.1 mw_X8_isCounting.2.2.2 ⟨rfl, by decide, by decide, by decide +kernel⟩ rfl rfl ⟨by decide, by decide⟩ rfl rfl (Nat.le_of_ble_eq_true rfl) (by decide) (by decide) (by decide) dX8_hasResponse_41 (fun x2 M1 => ?_)
        refine g_if_eq (tgt := 49) hC dX8_hasResponse_44 (by decide) (fun _ => ?_) (fun _ => ?_)
        · refine g_iinc hC 2 (v := 1) (fun x3 => [(2, .int x3), (0, .ref (zad Z 0)), (1, .int a1)]) dX8_hasResponse_49 rfl (by decide) (by decide) (fun _ => rfl) (fun x3 => ?_)
          refine g_goto (tgt := 2) hC dX8_hasResponse_52 (by decide) ?_
          refine g_sub (lv1 := [(0, .ref (zad Z 0)), (1, .int a1), (2, .int x3)]) [1, 2, 0] rfl ?_
          exact hs2 M1 a1 x3
        · refine g_iconst hC (v := 1) dX8_hasResponse_47 (by decide) ?_
          exact g_zret1 hC rfl (by decide) dX8_hasResponse_48
      · refine g_iinc hC 2 (v := 1) (fun x4 => [(2, .int x4), (0, .ref (zad Z 0)), (1, .int a1)]) dX8_hasResponse_49 rfl (by decide) (by decide) (fun _ => rfl) (fun x4 => ?_)
        refine g_goto (tgt := 2) hC dX8_hasResponse_52 (by decide) ?_
        refine g_sub (lv1 := [(0, .ref (zad Z 0)), (1, .int a1), (2, .int x4)]) [1, 2, 0] rfl ?_
        exact hs2 M a1 x4
    · refine g_iinc hC 2 (v := 1) (fun x5 => [(2, .int x5), (0, .ref (zad Z 0)), (1, .int a1)]) dX8_hasResponse_49 rfl (by decide) (by decide) (fun _ => rfl) (fun x5 => ?_)
      refine g_goto (tgt := 2) hC dX8_hasResponse_52 (by decide) ?_
      refine g_sub (lv1 := [(0, .ref (zad Z 0)), (1, .int a1), (2, .int x5)]) [1, 2, 0] rfl ?_
      exact hs2 M a1 x5
set_option maxRecDepth 20000 in
set_option maxHeartbeats 4000000 in
theorem g_X8_hasResponse_l2 {p : Program} {l : Launch} {e : Env} {s : State} {m : MethodId} {args : Array Value} {below : List Frame} {meth : Method} {c : Code} {Z : gZ} (hC : gC p l s m args meth c cX8_hasResponse 3 RX8 (some .boolean) Z)   : ∀ (n : Nat) (M : gM) (a1 : Int32) (a2 : Int32), gW p l e rm_X8_hasResponse s m args below meth c 3 Z 1 0 0 M 2 [(0, .ref (zad Z 0)), (1, .int a1), (2, .int a2)] [] (f_X8_hasResponse_l2  n M a1 a2)
  | 0, _, _, _ => g_stuck
  | n + 1, M, a1, a2 => g_X8_hasResponse_lb2 hC  (g_X8_hasResponse_l2 hC  n) M a1 a2
set_option maxRecDepth 20000 in
set_option maxHeartbeats 4000000 in
theorem c_X8_hasResponse {l : Launch} (hfl : l.stackTraces = false) (Z : gZ) (M : gM) (a1 : Int32) : gMet l yX8_hasResponse cX8_hasResponse 3 (some .boolean) rm_X8_hasResponse 1 0 Z M [.ref (zad Z 0), .int a1] (f_X8_hasResponse M a1) := by
  refine g_enter hfl (by decide) (Nat.le_of_ble_eq_true rfl) (fun p e s m args below meth c hC => ?_)
  refine g_eq (F := f_X8_hasResponse M a1) rfl ?_
  refine g_lv0 (lv1 := [(0, .ref (zad Z 0)), (1, .int a1)]) rfl ?_
  unfold f_X8_hasResponse
  refine g_iload_n hC 1 dX8_hasResponse_0 rfl rfl ?_
  refine g_istore_n hC (lv1 := [(2, .int a1), (0, .ref (zad Z 0)), (1, .int a1)]) dX8_hasResponse_1 rfl (by decide) rfl ?_
  refine g_sub (lv1 := [(0, .ref (zad Z 0)), (1, .int a1), (2, .int a1)]) [1, 2, 0] rfl ?_
  exact g_X8_hasResponse_l2 hC  5000 M a1 a1

-- ===== X8_respond =====
def f_X8_respond_b35  (M : gM) (a1 : Int32) (t1 : Int32) : gR := (rb (f_X8_allow M t1) (fun _ M1 => (gI a1 160 (rb (f_X8_enter M1 3 (M1 57 a1.toNatClampNeg) a1 0) (fun x4 M3 => (rRet x4 M3))))))
def f_X8_respond_b34  (M : gM) (a1 : Int32)  : gR := (f_X8_respond_b35  M a1 0)
def f_X8_respond (M : gM) (a1 : Int32) : gR := (rb (f_X8_checkMotion M a1) (fun _ M5 => (rb (f_X8_isOpenMotion M5 a1) (fun x8 M7 => (if x8 = 0 then (f_X8_respond_b34  M7 a1 ) else (rb (f_X8_hasResponse M7 a1) (fun x10 M9 => (if x10 = 0 then (rb (f_X8_isLate M9 a1) (fun x12 M11 => (if x12 = 0 then (f_X8_respond_b35  M11 a1 1) else (f_X8_respond_b34  M11 a1 )))) else (f_X8_respond_b34  M9 a1 )))))))))
abbrev rm_X8_respond : Room := { frames := 8, cells := 3, slots := 18, locals := 132 }
set_option maxRecDepth 20000 in
set_option maxHeartbeats 4000000 in
theorem g_X8_respond_b35 {p : Program} {l : Launch} {e : Env} {s : State} {m : MethodId} {args : Array Value} {below : List Frame} {meth : Method} {c : Code} {Z : gZ} (hC : gC p l s m args meth c cX8_respond 2 RX8 (some .int) Z)   (M : gM) (a1 : Int32) (t1 : Int32) : gW p l e rm_X8_respond s m args below meth c 2 Z 1 3 2 M 35 [(0, .ref (zad Z 0)), (1, .int a1)] [.int t1, .ref (zad Z 0)] (f_X8_respond_b35  M a1 t1) := by
  unfold f_X8_respond_b35
  refine g_callVv (n := 1) hC [.int t1] 0 8 (by decide) rfl rfl (fun hne => c_X8_allow hC.2.2.2.2.2.2.2.1 Z M t1 hne) lk_X8_201 mw_X8_allow.1 mw_X8_allow.2.1 mw_X8_allow.2.2.1 mw_X8_allow.2.2.2 ⟨rfl, by decide, by decide, by decide +kernel⟩ rfl rfl ⟨by decide, by decide⟩ rfl rfl (Nat.le_of_ble_eq_true rfl) (by decide) (by decide) (by decide) dX8_respond_35 (fun M1 => ?_)
  refine g_aload_n hC 0 dX8_respond_38 rfl rfl ?_
  refine g_iconst hC (v := 3) dX8_respond_39 (by decide) ?_
  refine g_aload_n hC 0 dX8_respond_40 rfl rfl ?_
  refine gf_X8_33 hC dX8_respond_41 ?_
  refine gf_X8_232 hC dX8_respond_44 ?_
  refine g_iload_n hC 1 dX8_respond_47 rfl rfl ?_
  refine g_iald hC 57 (by decide) rfl dX8_respond_48 ?_
  refine g_iload_n hC 1 dX8_respond_49 rfl rfl ?_
  refine g_iconst hC (v := 0) dX8_respond_50 (by decide) ?_
  refine g_callVi (n := 4) hC [.int 3, .int (M1 57 a1.toNatClampNeg), .int a1, .int 0] 0 8 (by decide) rfl rfl (fun hne => c_X8_enter hC.2.2.2.2.2.2.2.1 Z M1 3 (M1 57 a1.toNatClampNeg) a1 0 hne) lk_X8_205 mw_X8_enter.1 mw_X8_enter.2.1 mw_X8_enter.2.2.1 mw_X8_enter.2.2.2 ⟨rfl, by decide, by decide, by decide +kernel⟩ rfl rfl ⟨by decide, by decide⟩ rfl rfl (Nat.le_of_ble_eq_true rfl) (by decide) (by decide) (by decide) dX8_respond_51 (fun x4 M3 => ?_)
  exact g_iret hC rfl (by decide) dX8_respond_54
set_option maxRecDepth 20000 in
set_option maxHeartbeats 4000000 in
theorem g_X8_respond_b34 {p : Program} {l : Launch} {e : Env} {s : State} {m : MethodId} {args : Array Value} {below : List Frame} {meth : Method} {c : Code} {Z : gZ} (hC : gC p l s m args meth c cX8_respond 2 RX8 (some .int) Z)   (M : gM) (a1 : Int32)  : gW p l e rm_X8_respond s m args below meth c 2 Z 1 3 2 M 34 [(0, .ref (zad Z 0)), (1, .int a1)] [.ref (zad Z 0)] (f_X8_respond_b34  M a1 ) := by
  unfold f_X8_respond_b34
  refine g_iconst hC (v := 0) dX8_respond_34 (by decide) ?_
  exact g_X8_respond_b35 hC  M a1 0
set_option maxRecDepth 20000 in
set_option maxHeartbeats 4000000 in
theorem c_X8_respond {l : Launch} (hfl : l.stackTraces = false) (Z : gZ) (M : gM) (a1 : Int32) : gMet l yX8_respond cX8_respond 2 (some .int) rm_X8_respond 1 3 Z M [.ref (zad Z 0), .int a1] (f_X8_respond M a1) := by
  refine g_enter hfl (by decide) (Nat.le_of_ble_eq_true rfl) (fun p e s m args below meth c hC => ?_)
  refine g_eq (F := f_X8_respond M a1) rfl ?_
  refine g_lv0 (lv1 := [(0, .ref (zad Z 0)), (1, .int a1)]) rfl ?_
  unfold f_X8_respond
  refine g_aload_n hC 0 dX8_respond_0 rfl rfl ?_
  refine g_iload_n hC 1 dX8_respond_1 rfl rfl ?_
  refine g_callVv (n := 1) hC [.int a1] 0 8 (by decide) rfl rfl (fun hne => c_X8_checkMotion hC.2.2.2.2.2.2.2.1 Z M a1 hne) lk_X8_223 mw_X8_checkMotion.1 mw_X8_checkMotion.2.1 mw_X8_checkMotion.2.2.1 mw_X8_checkMotion.2.2.2 ⟨rfl, by decide, by decide, by decide +kernel⟩ rfl rfl ⟨by decide, by decide⟩ rfl rfl (Nat.le_of_ble_eq_true rfl) (by decide) (by decide) (by decide) dX8_respond_2 (fun M5 => ?_)
  refine g_aload_n hC 0 dX8_respond_5 rfl rfl ?_
  refine g_aload_n hC 0 dX8_respond_6 rfl rfl ?_
  refine g_iload_n hC 1 dX8_respond_7 rfl rfl ?_
  refine g_callVi (n := 1) hC [.int a1] 0 8 (by decide) rfl rfl (fun hne => c_X8_isOpenMotion hC.2.2.2.2.2.2.2.1 Z M5 a1 hne) lk_X8_226 mw_X8_isOpenMotion.1 mw_X8_isOpenMotion.2.1 mw_X8_isOpenMotion.2.2.1 mw_X8_isOpenMotion.2.2.2 ⟨rfl, by decide, by decide, by decide +kernel⟩ rfl rfl ⟨by decide, by decide⟩ rfl rfl (Nat.le_of_ble_eq_true rfl) (by decide) (by decide) (by decide) dX8_respond_8 (fun x8 M7 => ?_)
  refine g_if_eq (tgt := 34) hC dX8_respond_11 (by decide) (fun _ => ?_) (fun _ => ?_)
  · exact g_X8_respond_b34 hC  M7 a1
  · refine g_aload_n hC 0 dX8_respond_14 rfl rfl ?_
    refine g_iload_n hC 1 dX8_respond_15 rfl rfl ?_
    refine g_callVi (n := 1) hC [.int a1] 0 8 (by decide) rfl rfl (fun hne => c_X8_hasResponse hC.2.2.2.2.2.2.2.1 Z M7 a1 hne) lk_X8_229 mw_X8_hasResponse.1 mw_X8_hasResponse.2.1 mw_X8_hasResponse.2.2.1 mw_X8_hasResponse.2.2.2 ⟨rfl, by decide, by decide, by decide +kernel⟩ rfl rfl ⟨by decide, by decide⟩ rfl rfl (Nat.le_of_ble_eq_true rfl) (by decide) (by decide) (by decide) dX8_respond_16 (fun x10 M9 => ?_)
    refine g_if_ne (tgt := 34) hC dX8_respond_19 (by decide) (fun _ => ?_) (fun _ => ?_)
    · refine g_aload_n hC 0 dX8_respond_22 rfl rfl ?_
      refine g_iload_n hC 1 dX8_respond_23 rfl rfl ?_
      refine g_callVi (n := 1) hC [.int a1] 0 8 (by decide) rfl rfl (fun hne => c_X8_isLate hC.2.2.2.2.2.2.2.1 Z M9 a1 hne) lk_X8_220 mw_X8_isLate.1 mw_X8_isLate.2.1 mw_X8_isLate.2.2.1 mw_X8_isLate.2.2.2 ⟨rfl, by decide, by decide, by decide +kernel⟩ rfl rfl ⟨by decide, by decide⟩ rfl rfl (Nat.le_of_ble_eq_true rfl) (by decide) (by decide) (by decide) dX8_respond_24 (fun x12 M11 => ?_)
      refine g_if_ne (tgt := 34) hC dX8_respond_27 (by decide) (fun _ => ?_) (fun _ => ?_)
      · refine g_iconst hC (v := 1) dX8_respond_30 (by decide) ?_
        refine g_goto (tgt := 35) hC dX8_respond_31 (by decide) ?_
        exact g_X8_respond_b35 hC  M11 a1 1
      · exact g_X8_respond_b34 hC  M11 a1
    · exact g_X8_respond_b34 hC  M9 a1

-- ===== X8_ruling =====
def f_X8_ruling_b85  (M : gM) (a1 : Int32) (a2 : Int32) (a3 : Int32) (t1 : Int32) : gR := (rb (f_X8_allow M t1) (fun _ M1 => (rb (f_X8_enter M1 4 a3 a2 a1) (fun x4 M3 => (gZ01 1 (gI a1 160 (bM (gset M3 62 a1.toNatClampNeg 1) (fun M5 => (if a2 = 0 then (gI a3 24 (bM (gset M5 51 a3.toNatClampNeg 1) (fun M6 => (rRet x4 M6)))) else (if a2 = (-1) then (rRet x4 M5) else (gI a3 24 (bM (gset M5 50 a3.toNatClampNeg a2) (fun M7 => (rRet x4 M7))))))))))))))
def f_X8_ruling_b80  (M : gM) (a1 : Int32) (a2 : Int32) (a3 : Int32)  : gR := (f_X8_ruling_b85  M a1 a2 a3 1)
def f_X8_ruling_b84  (M : gM) (a1 : Int32) (a2 : Int32) (a3 : Int32)  : gR := (f_X8_ruling_b85  M a1 a2 a3 0)
def f_X8_ruling (M : gM) (a1 : Int32) (a2 : Int32) : gR := (rb (f_X8_checkMotion M a1) (fun _ M8 => (gI a1 160 (bV (M8 57 a1.toNatClampNeg) (fun x10 => (if a2 < (-1) then (rThr 1 M8) else (gI x10 24 (if a2 < (M8 50 x10.toNatClampNeg) then (rb (f_X8_isOpenMotion M8 a1) (fun x12 M11 => (if x12 = 0 then (f_X8_ruling_b84  M11 a1 a2 x10 ) else (gI x10 24 (if (M11 51 x10.toNatClampNeg) = 0 then (rb (f_X8_hasResponse M11 a1) (fun x14 M13 => (if x14 = 0 then (rb (f_X8_isLate M13 a1) (fun x16 M15 => (if x16 = 0 then (f_X8_ruling_b84  M15 a1 a2 x10 ) else (f_X8_ruling_b80  M15 a1 a2 x10 )))) else (f_X8_ruling_b80  M13 a1 a2 x10 )))) else (f_X8_ruling_b84  M11 a1 a2 x10 )))))) else (rThr 1 M8)))))))))
abbrev rm_X8_ruling : Room := { frames := 8, cells := 3, slots := 18, locals := 132 }
set_option maxRecDepth 20000 in
set_option maxHeartbeats 4000000 in
theorem g_X8_ruling_b85 {p : Program} {l : Launch} {e : Env} {s : State} {m : MethodId} {args : Array Value} {below : List Frame} {meth : Method} {c : Code} {Z : gZ} (hC : gC p l s m args meth c cX8_ruling 5 RX8 (some .int) Z)   (M : gM) (a1 : Int32) (a2 : Int32) (a3 : Int32) (t1 : Int32) : gW p l e rm_X8_ruling s m args below meth c 5 Z 1 3 2 M 85 [(0, .ref (zad Z 0)), (1, .int a1), (2, .int a2), (3, .int a3)] [.int t1, .ref (zad Z 0)] (f_X8_ruling_b85  M a1 a2 a3 t1) := by
  unfold f_X8_ruling_b85
  refine g_callVv (n := 1) hC [.int t1] 0 8 (by decide) rfl rfl (fun hne => c_X8_allow hC.2.2.2.2.2.2.2.1 Z M t1 hne) lk_X8_201 mw_X8_allow.1 mw_X8_allow.2.1 mw_X8_allow.2.2.1 mw_X8_allow.2.2.2 ⟨rfl, by decide, by decide, by decide +kernel⟩ rfl rfl ⟨by decide, by decide⟩ rfl rfl (Nat.le_of_ble_eq_true rfl) (by decide) (by decide) (by decide) dX8_ruling_85 (fun M1 => ?_)
  refine g_aload_n hC 0 dX8_ruling_88 rfl rfl ?_
  refine g_iconst hC (v := 4) dX8_ruling_89 (by decide) ?_
  refine g_iload_n hC 3 dX8_ruling_90 rfl rfl ?_
  refine g_iload_n hC 2 dX8_ruling_91 rfl rfl ?_
  refine g_iload_n hC 1 dX8_ruling_92 rfl rfl ?_
  refine g_callVi (n := 4) hC [.int 4, .int a3, .int a2, .int a1] 0 8 (by decide) rfl rfl (fun hne => c_X8_enter hC.2.2.2.2.2.2.2.1 Z M1 4 a3 a2 a1 hne) lk_X8_205 mw_X8_enter.1 mw_X8_enter.2.1 mw_X8_enter.2.2.1 mw_X8_enter.2.2.2 ⟨rfl, by decide, by decide, by decide +kernel⟩ rfl rfl ⟨by decide, by decide⟩ rfl rfl (Nat.le_of_ble_eq_true rfl) (by decide) (by decide) (by decide) dX8_ruling_93 (fun x4 M3 => ?_)
  refine g_istore hC (lv1 := [(4, .int x4), (0, .ref (zad Z 0)), (1, .int a1), (2, .int a2), (3, .int a3)]) dX8_ruling_96 (by decide) rfl ?_
  refine g_aload_n hC 1 dX8_ruling_98 rfl rfl ?_
  refine gf_X8_33 hC dX8_ruling_99 ?_
  refine gf_X8_240 hC dX8_ruling_102 ?_
  refine g_iload_n hC 2 dX8_ruling_105 rfl rfl ?_
  refine g_iconst hC (v := 1) dX8_ruling_106 (by decide) ?_
  refine g_zast hC 62 (by decide) rfl dX8_ruling_107 (fun M5 => ?_)
  refine g_iload_n hC 3 dX8_ruling_108 rfl rfl ?_
  refine g_if_ne (tgt := 125) hC dX8_ruling_109 (by decide) (fun _ => ?_) (fun _ => ?_)
  · refine g_aload_n hC 1 dX8_ruling_112 rfl rfl ?_
    refine gf_X8_26 hC dX8_ruling_113 ?_
    refine gf_X8_195 hC dX8_ruling_116 ?_
    refine g_iload_n hC 4 dX8_ruling_119 rfl rfl ?_
    refine g_iconst hC (v := 1) dX8_ruling_120 (by decide) ?_
    refine g_iast hC 51 (by decide) rfl dX8_ruling_121 (fun M6 => ?_)
    refine g_goto (tgt := 140) hC dX8_ruling_122 (by decide) ?_
    refine g_iload hC 0 dX8_ruling_140 rfl ?_
    exact g_iret hC rfl (by decide) dX8_ruling_142
  · refine g_iload_n hC 3 dX8_ruling_125 rfl rfl ?_
    refine g_iconst hC (v := (-1)) dX8_ruling_126 (by decide) ?_
    refine g_icmp_eq (tgt := 140) hC dX8_ruling_127 (by decide) (fun _ => ?_) (fun _ => ?_)
    · refine g_iload hC 0 dX8_ruling_140 rfl ?_
      exact g_iret hC rfl (by decide) dX8_ruling_142
    · refine g_aload_n hC 1 dX8_ruling_130 rfl rfl ?_
      refine gf_X8_26 hC dX8_ruling_131 ?_
      refine gf_X8_235 hC dX8_ruling_134 ?_
      refine g_iload_n hC 4 dX8_ruling_137 rfl rfl ?_
      refine g_iload_n hC 3 dX8_ruling_138 rfl rfl ?_
      refine g_iast hC 50 (by decide) rfl dX8_ruling_139 (fun M7 => ?_)
      refine g_iload hC 0 dX8_ruling_140 rfl ?_
      exact g_iret hC rfl (by decide) dX8_ruling_142
set_option maxRecDepth 20000 in
set_option maxHeartbeats 4000000 in
theorem g_X8_ruling_b80 {p : Program} {l : Launch} {e : Env} {s : State} {m : MethodId} {args : Array Value} {below : List Frame} {meth : Method} {c : Code} {Z : gZ} (hC : gC p l s m args meth c cX8_ruling 5 RX8 (some .int) Z)   (M : gM) (a1 : Int32) (a2 : Int32) (a3 : Int32)  : gW p l e rm_X8_ruling s m args below meth c 5 Z 1 3 2 M 80 [(0, .ref (zad Z 0)), (1, .int a1), (2, .int a2), (3, .int a3)] [.ref (zad Z 0)] (f_X8_ruling_b80  M a1 a2 a3 ) := by
  unfold f_X8_ruling_b80
  refine g_iconst hC (v := 1) dX8_ruling_80 (by decide) ?_
  refine g_goto (tgt := 85) hC dX8_ruling_81 (by decide) ?_
  exact g_X8_ruling_b85 hC  M a1 a2 a3 1
set_option maxRecDepth 20000 in
set_option maxHeartbeats 4000000 in
theorem g_X8_ruling_b84 {p : Program} {l : Launch} {e : Env} {s : State} {m : MethodId} {args : Array Value} {below : List Frame} {meth : Method} {c : Code} {Z : gZ} (hC : gC p l s m args meth c cX8_ruling 5 RX8 (some .int) Z)   (M : gM) (a1 : Int32) (a2 : Int32) (a3 : Int32)  : gW p l e rm_X8_ruling s m args below meth c 5 Z 1 3 2 M 84 [(0, .ref (zad Z 0)), (1, .int a1), (2, .int a2), (3, .int a3)] [.ref (zad Z 0)] (f_X8_ruling_b84  M a1 a2 a3 ) := by
  unfold f_X8_ruling_b84
  refine g_iconst hC (v := 0) dX8_ruling_84 (by decide) ?_
  exact g_X8_ruling_b85 hC  M a1 a2 a3 0
set_option maxRecDepth 20000 in
set_option maxHeartbeats 4000000 in
theorem c_X8_ruling {l : Launch} (hfl : l.stackTraces = false) (Z : gZ) (M : gM) (a1 : Int32) (a2 : Int32) : gMet l yX8_ruling cX8_ruling 5 (some .int) rm_X8_ruling 1 3 Z M [.ref (zad Z 0), .int a1, .int a2] (f_X8_ruling M a1 a2) := by
  refine g_enter hfl (by decide) (Nat.le_of_ble_eq_true rfl) (fun p e s m args below meth c hC => ?_)
  refine g_eq (F := f_X8_ruling M a1 a2) rfl ?_
  refine g_lv0 (lv1 := [(0, .ref (zad Z 0)), (1, .int a1), (2, .int a2)]) rfl ?_
  unfold f_X8_ruling
  refine g_aload_n hC 0 dX8_ruling_0 rfl rfl ?_
  refine g_iload_n hC 1 dX8_ruling_1 rfl rfl ?_
  refine g_callVv (n := 1) hC [.int a1] 0 8 (by decide) rfl rfl (fun hne => c_X8_checkMotion hC.2.2.2.2.2.2.2.1 Z M a1 hne) lk_X8_223 mw_X8_checkMotion.1 mw_X8_checkMotion.2.1 mw_X8_checkMotion.2.2.1 mw_X8_checkMotion.2.2.2 ⟨rfl, by decide, by decide, by decide +kernel⟩ rfl rfl ⟨by decide, by decide⟩ rfl rfl (Nat.le_of_ble_eq_true rfl) (by decide) (by decide) (by decide) dX8_ruling_2 (fun M8 => ?_)
  refine g_aload_n hC 0 dX8_ruling_5 rfl rfl ?_
  refine gf_X8_33 hC dX8_ruling_6 ?_
  refine gf_X8_232 hC dX8_ruling_9 ?_
  refine g_iload_n hC 1 dX8_ruling_12 rfl rfl ?_
  refine g_iald hC 57 (by decide) rfl dX8_ruling_13 ?_
  refine g_bv (fun x10 => ?_)
  refine g_istore_n hC (lv1 := [(3, .int x10), (0, .ref (zad Z 0)), (1, .int a1), (2, .int a2)]) dX8_ruling_14 rfl (by decide) rfl ?_
  refine g_iload_n hC 3 dX8_ruling_15 rfl rfl ?_
  refine g_iconst hC (v := (-1)) dX8_ruling_16 (by decide) ?_
  refine g_icmp_lt (tgt := 33) hC dX8_ruling_17 (by decide) (fun _ => ?_) (fun _ => ?_)
  · exact g_throwS (text := "amount out of range") hC 1 (by decide) thr_c1 thr_i1 (by decide) thr_a1 thr_n1 thr_g1 (by decide) (by decide) (Nat.le_of_ble_eq_true rfl) (by decide) (by decide) (by decide) dX8_ruling_33 dX8_ruling_36 dX8_ruling_37 dX8_ruling_39 dX8_ruling_42
  · refine g_iload_n hC 3 dX8_ruling_20 rfl rfl ?_
    refine g_aload_n hC 1 dX8_ruling_21 rfl rfl ?_
    refine gf_X8_26 hC dX8_ruling_22 ?_
    refine gf_X8_235 hC dX8_ruling_25 ?_
    refine g_iload_n hC 0 dX8_ruling_28 rfl rfl ?_
    refine g_iald hC 50 (by decide) rfl dX8_ruling_29 ?_
    refine g_icmp_lt (tgt := 43) hC dX8_ruling_30 (by decide) (fun _ => ?_) (fun _ => ?_)
    · refine g_aload_n hC 1 dX8_ruling_43 rfl rfl ?_
      refine g_aload_n hC 1 dX8_ruling_44 rfl rfl ?_
      refine g_iload_n hC 2 dX8_ruling_45 rfl rfl ?_
      refine g_callVi (n := 1) hC [.int a1] 0 8 (by decide) rfl rfl (fun hne => c_X8_isOpenMotion hC.2.2.2.2.2.2.2.1 Z M8 a1 hne) lk_X8_226 mw_X8_isOpenMotion.1 mw_X8_isOpenMotion.2.1 mw_X8_isOpenMotion.2.2.1 mw_X8_isOpenMotion.2.2.2 ⟨rfl, by decide, by decide, by decide +kernel⟩ rfl rfl ⟨by decide, by decide⟩ rfl rfl (Nat.le_of_ble_eq_true rfl) (by decide) (by decide) (by decide) dX8_ruling_46 (fun x12 M11 => ?_)
      refine g_if_eq (tgt := 84) hC dX8_ruling_49 (by decide) (fun _ => ?_) (fun _ => ?_)
      · refine g_sub (lv1 := [(0, .ref (zad Z 0)), (1, .int a1), (2, .int a2), (3, .int x10)]) [1, 2, 3, 0] rfl ?_
        exact g_X8_ruling_b84 hC  M11 a1 a2 x10 
      · refine g_aload_n hC 1 dX8_ruling_52 rfl rfl ?_
        refine gf_X8_26 hC dX8_ruling_53 ?_
        refine gf_X8_195 hC dX8_ruling_56 ?_
        refine g_iload_n hC 0 dX8_ruling_59 rfl rfl ?_
        refine g_iald hC 51 (by decide) rfl dX8_ruling_60 ?_
        refine g_if_ne (tgt := 84) hC dX8_ruling_61 (by decide) (fun _ => ?_) (fun _ => ?_)
        · refine g_aload_n hC 1 dX8_ruling_64 rfl rfl ?_
          refine g_iload_n hC 2 dX8_ruling_65 rfl rfl ?_
          refine g_callVi (n := 1) hC [.int a1] 0 8 (by decide) rfl rfl (fun hne => c_X8_hasResponse hC.2.2.2.2.2.2.2.1 Z M11 a1 hne) lk_X8_229 mw_X8_hasResponse.1 mw_X8_hasResponse.2.1 mw_X8_hasResponse.2.2.1 mw_X8_hasResponse.2.2.2 ⟨rfl, by decide, by decide, by decide +kernel⟩ rfl rfl ⟨by decide, by decide⟩ rfl rfl (Nat.le_of_ble_eq_true rfl) (by decide) (by decide) (by decide) dX8_ruling_66 (fun x14 M13 => ?_)
          refine g_if_ne (tgt := 80) hC dX8_ruling_69 (by decide) (fun _ => ?_) (fun _ => ?_)
          · refine g_aload_n hC 1 dX8_ruling_72 rfl rfl ?_
            refine g_iload_n hC 2 dX8_ruling_73 rfl rfl ?_
            refine g_callVi (n := 1) hC [.int a1] 0 8 (by decide) rfl rfl (fun hne => c_X8_isLate hC.2.2.2.2.2.2.2.1 Z M13 a1 hne) lk_X8_220 mw_X8_isLate.1 mw_X8_isLate.2.1 mw_X8_isLate.2.2.1 mw_X8_isLate.2.2.2 ⟨rfl, by decide, by decide, by decide +kernel⟩ rfl rfl ⟨by decide, by decide⟩ rfl rfl (Nat.le_of_ble_eq_true rfl) (by decide) (by decide) (by decide) dX8_ruling_74 (fun x16 M15 => ?_)
            refine g_if_eq (tgt := 84) hC dX8_ruling_77 (by decide) (fun _ => ?_) (fun _ => ?_)
            · refine g_sub (lv1 := [(0, .ref (zad Z 0)), (1, .int a1), (2, .int a2), (3, .int x10)]) [1, 2, 3, 0] rfl ?_
              exact g_X8_ruling_b84 hC  M15 a1 a2 x10 
            · refine g_sub (lv1 := [(0, .ref (zad Z 0)), (1, .int a1), (2, .int a2), (3, .int x10)]) [1, 2, 3, 0] rfl ?_
              exact g_X8_ruling_b80 hC  M15 a1 a2 x10 
          · refine g_sub (lv1 := [(0, .ref (zad Z 0)), (1, .int a1), (2, .int a2), (3, .int x10)]) [1, 2, 3, 0] rfl ?_
            exact g_X8_ruling_b80 hC  M13 a1 a2 x10 
        · refine g_sub (lv1 := [(0, .ref (zad Z 0)), (1, .int a1), (2, .int a2), (3, .int x10)]) [1, 2, 3, 0] rfl ?_
          exact g_X8_ruling_b84 hC  M11 a1 a2 x10 
    · exact g_throwS (text := "amount out of range") hC 1 (by decide) thr_c1 thr_i1 (by decide) thr_a1 thr_n1 thr_g1 (by decide) (by decide) (Nat.le_of_ble_eq_true rfl) (by decide) (by decide) (by decide) dX8_ruling_33 dX8_ruling_36 dX8_ruling_37 dX8_ruling_39 dX8_ruling_42

-- ===== X8_judge =====
def f_X8_judge_b152  (M : gM) (a1 : Int32) (t0 : Int32) : gR := (rb (f_X8_enter M 5 a1 t0 0) (fun x2 M1 => (if t0 = 0 then (gI a1 24 (bM (gset M1 51 a1.toNatClampNeg 1) (fun M3 => (rRet x2 M3)))) else (gI a1 24 (bM (gset M1 51 a1.toNatClampNeg 2) (fun M4 => (gI a1 24 (bM (gset M4 50 a1.toNatClampNeg t0) (fun M5 => (rRet x2 M5))))))))))
def f_X8_judge_b136  (M : gM) (a1 : Int32) (a2 : Int32) (a3 : Int32)  : gR := (if a3 = 0 then (f_X8_judge_b152  M a1 a2) else (rb (f_X2_amountByDefault M a1) (fun x7 M6 => (f_X8_judge_b152  M6 a1 x7))))
def f_X8_judge_b89  (M : gM) (a1 : Int32) (a2 : Int32) (a3 : Int32) (t1 : Int32) : gR := (rb (f_X8_allow M t1) (fun _ M8 => (f_X8_judge_b136  M8 a1 a2 a3 )))
def f_X8_judge_b88  (M : gM) (a1 : Int32) (a2 : Int32) (a3 : Int32)  : gR := (f_X8_judge_b89  M a1 a2 a3 0)
def f_X8_judge_b133  (M : gM) (a1 : Int32) (a2 : Int32) (a3 : Int32) (t1 : Int32) : gR := (rb (f_X8_allow M t1) (fun _ M10 => (f_X8_judge_b136  M10 a1 a2 a3 )))
def f_X8_judge_b132  (M : gM) (a1 : Int32) (a2 : Int32) (a3 : Int32)  : gR := (f_X8_judge_b133  M a1 a2 a3 0)
def f_X8_judge_b43  (M : gM) (a1 : Int32) (a2 : Int32) (t0 : Int32) : gR := (if t0 = 0 then (gI a1 24 (if (M 51 a1.toNatClampNeg) = 0 then (rb (f_X8_hasAnswer M a1) (fun x13 M12 => (if x13 = 0 then (f_X8_judge_b132  M12 a1 a2 t0 ) else (rb (f_X2_isAboveCap M12 a1 a2) (fun x15 M14 => (if x15 = 0 then (f_X8_judge_b133  M14 a1 a2 t0 1) else (f_X8_judge_b132  M14 a1 a2 t0 ))))))) else (f_X8_judge_b132  M a1 a2 t0 ))) else (rb (f_X8_isUnanswered M a1) (fun x17 M16 => (if x17 = 0 then (f_X8_judge_b88  M16 a1 a2 t0 ) else (rb (f_X3_answerStart M16 a1) (fun x19 M18 => (rb (f_X8_isLate M18 x19) (fun x21 M20 => (if x21 = 0 then (f_X8_judge_b88  M20 a1 a2 t0 ) else (gI a1 24 (if (M20 52 a1.toNatClampNeg) = 0 then (f_X8_judge_b88  M20 a1 a2 t0 ) else (f_X8_judge_b89  M20 a1 a2 t0 1))))))))))))
def f_X8_judge (M : gM) (a1 : Int32) (a2 : Int32) : gR := (rb (f_X8_checkClaim M a1) (fun _ M22 => (if a2 < (-1) then (rThr 1 M22) else (gI a1 24 (if a2 ≤ (M22 50 a1.toNatClampNeg) then (if a2 = (-1) then (f_X8_judge_b43  M22 a1 a2 1) else (f_X8_judge_b43  M22 a1 a2 0)) else (rThr 1 M22))))))
abbrev rm_X8_judge : Room := { frames := 7, cells := 2, slots := 12, locals := 134 }
set_option maxRecDepth 20000 in
set_option maxHeartbeats 4000000 in
theorem g_X8_judge_b152 {p : Program} {l : Launch} {e : Env} {s : State} {m : MethodId} {args : Array Value} {below : List Frame} {meth : Method} {c : Code} {Z : gZ} (hC : gC p l s m args meth c cX8_judge 6 RX8 (some .int) Z)   (M : gM) (a1 : Int32) (t0 : Int32) : gW p l e rm_X8_judge s m args below meth c 6 Z 1 2 2 M 152 [(0, .ref (zad Z 0)), (1, .int a1)] [.int t0] (f_X8_judge_b152  M a1 t0) := by
  unfold f_X8_judge_b152
  refine g_istore hC (lv1 := [(4, .int t0), (0, .ref (zad Z 0)), (1, .int a1)]) dX8_judge_152 (by decide) rfl ?_
  refine g_aload_n hC 1 dX8_judge_154 rfl rfl ?_
  refine g_iconst hC (v := 5) dX8_judge_155 (by decide) ?_
  refine g_iload_n hC 2 dX8_judge_156 rfl rfl ?_
  refine g_iload hC 0 dX8_judge_157 rfl ?_
  refine g_iconst hC (v := 0) dX8_judge_159 (by decide) ?_
  refine g_callVi (n := 4) hC [.int 5, .int a1, .int t0, .int 0] 0 8 (by decide) rfl rfl (fun hne => c_X8_enter hC.2.2.2.2.2.2.2.1 Z M 5 a1 t0 0 hne) lk_X8_205 mw_X8_enter.1 mw_X8_enter.2.1 mw_X8_enter.2.2.1 mw_X8_enter.2.2.2 ⟨rfl, by decide, by decide, by decide +kernel⟩ rfl rfl ⟨by decide, by decide⟩ rfl rfl (Nat.le_of_ble_eq_true rfl) (by decide) (by decide) (by decide) dX8_judge_160 (fun x2 M1 => ?_)
  refine g_istore hC (lv1 := [(5, .int x2), (4, .int t0), (0, .ref (zad Z 0)), (1, .int a1)]) dX8_judge_163 (by decide) rfl ?_
  refine g_iload hC 1 dX8_judge_165 rfl ?_
  refine g_if_ne (tgt := 183) hC dX8_judge_167 (by decide) (fun _ => ?_) (fun _ => ?_)
  · refine g_aload_n hC 2 dX8_judge_170 rfl rfl ?_
    refine gf_X8_26 hC dX8_judge_171 ?_
    refine gf_X8_195 hC dX8_judge_174 ?_
    refine g_iload_n hC 3 dX8_judge_177 rfl rfl ?_
    refine g_iconst hC (v := 1) dX8_judge_178 (by decide) ?_
    refine g_iast hC 51 (by decide) rfl dX8_judge_179 (fun M3 => ?_)
    refine g_goto (tgt := 204) hC dX8_judge_180 (by decide) ?_
    refine g_iload hC 0 dX8_judge_204 rfl ?_
    exact g_iret hC rfl (by decide) dX8_judge_206
  · refine g_aload_n hC 2 dX8_judge_183 rfl rfl ?_
    refine gf_X8_26 hC dX8_judge_184 ?_
    refine gf_X8_195 hC dX8_judge_187 ?_
    refine g_iload_n hC 3 dX8_judge_190 rfl rfl ?_
    refine g_iconst hC (v := 2) dX8_judge_191 (by decide) ?_
    refine g_iast hC 51 (by decide) rfl dX8_judge_192 (fun M4 => ?_)
    refine g_aload_n hC 2 dX8_judge_193 rfl rfl ?_
    refine gf_X8_26 hC dX8_judge_194 ?_
    refine gf_X8_235 hC dX8_judge_197 ?_
    refine g_iload_n hC 3 dX8_judge_200 rfl rfl ?_
    refine g_iload hC 1 dX8_judge_201 rfl ?_
    refine g_iast hC 50 (by decide) rfl dX8_judge_203 (fun M5 => ?_)
    refine g_iload hC 0 dX8_judge_204 rfl ?_
    exact g_iret hC rfl (by decide) dX8_judge_206
set_option maxRecDepth 20000 in
set_option maxHeartbeats 4000000 in
theorem g_X8_judge_b136 {p : Program} {l : Launch} {e : Env} {s : State} {m : MethodId} {args : Array Value} {below : List Frame} {meth : Method} {c : Code} {Z : gZ} (hC : gC p l s m args meth c cX8_judge 6 RX8 (some .int) Z)   (M : gM) (a1 : Int32) (a2 : Int32) (a3 : Int32)  : gW p l e rm_X8_judge s m args below meth c 6 Z 1 2 2 M 136 [(0, .ref (zad Z 0)), (1, .int a1), (2, .int a2), (3, .int a3)] [] (f_X8_judge_b136  M a1 a2 a3 ) := by
  unfold f_X8_judge_b136
  refine g_iload_n hC 3 dX8_judge_136 rfl rfl ?_
  refine g_if_eq (tgt := 151) hC dX8_judge_137 (by decide) (fun _ => ?_) (fun _ => ?_)
  · refine g_iload_n hC 2 dX8_judge_151 rfl rfl ?_
    refine g_sub (lv1 := [(0, .ref (zad Z 0)), (1, .int a1)]) [0, 1] rfl ?_
    exact g_X8_judge_b152 hC  M a1 a2
  · refine g_aload_n hC 0 dX8_judge_140 rfl rfl ?_
    refine gf_X8_26 hC dX8_judge_141 ?_
    refine g_iload_n hC 1 dX8_judge_144 rfl rfl ?_
    refine g_callVi (n := 1) hC [.int a1] 3 2 (by decide) rfl rfl (fun hne => c_X2_amountByDefault hC.2.2.2.2.2.2.2.1 Z M a1 hne) lk_X8_252 mw_X2_amountByDefault.1 mw_X2_amountByDefault.2.1 mw_X2_amountByDefault.2.2.1 mw_X2_amountByDefault.2.2.2 ⟨rfl, by decide, by decide, by decide +kernel⟩ rfl rfl ⟨by decide, by decide⟩ rfl rfl (Nat.le_of_ble_eq_true rfl) (by decide) (by decide) (by decide) dX8_judge_145 (fun x7 M6 => ?_)
    refine g_goto (tgt := 152) hC dX8_judge_148 (by decide) ?_
    refine g_sub (lv1 := [(0, .ref (zad Z 0)), (1, .int a1)]) [0, 1] rfl ?_
    exact g_X8_judge_b152 hC  M6 a1 x7
set_option maxRecDepth 20000 in
set_option maxHeartbeats 4000000 in
theorem g_X8_judge_b89 {p : Program} {l : Launch} {e : Env} {s : State} {m : MethodId} {args : Array Value} {below : List Frame} {meth : Method} {c : Code} {Z : gZ} (hC : gC p l s m args meth c cX8_judge 6 RX8 (some .int) Z)   (M : gM) (a1 : Int32) (a2 : Int32) (a3 : Int32) (t1 : Int32) : gW p l e rm_X8_judge s m args below meth c 6 Z 1 2 1 M 89 [(0, .ref (zad Z 0)), (1, .int a1), (2, .int a2), (3, .int a3)] [.int t1, .ref (zad Z 0)] (f_X8_judge_b89  M a1 a2 a3 t1) := by
  unfold f_X8_judge_b89
  refine g_callVv (n := 1) hC [.int t1] 0 8 (by decide) rfl rfl (fun hne => c_X8_allow hC.2.2.2.2.2.2.2.1 Z M t1 hne) lk_X8_201 mw_X8_allow.1 mw_X8_allow.2.1 mw_X8_allow.2.2.1 mw_X8_allow.2.2.2 ⟨rfl, by decide, by decide, by decide +kernel⟩ rfl rfl ⟨by decide, by decide⟩ rfl rfl (Nat.le_of_ble_eq_true rfl) (by decide) (by decide) (by decide) dX8_judge_89 (fun M8 => ?_)
  refine g_goto (tgt := 136) hC dX8_judge_92 (by decide) ?_
  exact g_X8_judge_b136 hC  M8 a1 a2 a3 
set_option maxRecDepth 20000 in
set_option maxHeartbeats 4000000 in
theorem g_X8_judge_b88 {p : Program} {l : Launch} {e : Env} {s : State} {m : MethodId} {args : Array Value} {below : List Frame} {meth : Method} {c : Code} {Z : gZ} (hC : gC p l s m args meth c cX8_judge 6 RX8 (some .int) Z)   (M : gM) (a1 : Int32) (a2 : Int32) (a3 : Int32)  : gW p l e rm_X8_judge s m args below meth c 6 Z 1 2 1 M 88 [(0, .ref (zad Z 0)), (1, .int a1), (2, .int a2), (3, .int a3)] [.ref (zad Z 0)] (f_X8_judge_b88  M a1 a2 a3 ) := by
  unfold f_X8_judge_b88
  refine g_iconst hC (v := 0) dX8_judge_88 (by decide) ?_
  exact g_X8_judge_b89 hC  M a1 a2 a3 0
set_option maxRecDepth 20000 in
set_option maxHeartbeats 4000000 in
theorem g_X8_judge_b133 {p : Program} {l : Launch} {e : Env} {s : State} {m : MethodId} {args : Array Value} {below : List Frame} {meth : Method} {c : Code} {Z : gZ} (hC : gC p l s m args meth c cX8_judge 6 RX8 (some .int) Z)   (M : gM) (a1 : Int32) (a2 : Int32) (a3 : Int32) (t1 : Int32) : gW p l e rm_X8_judge s m args below meth c 6 Z 1 2 1 M 133 [(0, .ref (zad Z 0)), (1, .int a1), (2, .int a2), (3, .int a3)] [.int t1, .ref (zad Z 0)] (f_X8_judge_b133  M a1 a2 a3 t1) := by
  unfold f_X8_judge_b133
  refine g_callVv (n := 1) hC [.int t1] 0 8 (by decide) rfl rfl (fun hne => c_X8_allow hC.2.2.2.2.2.2.2.1 Z M t1 hne) lk_X8_201 mw_X8_allow.1 mw_X8_allow.2.1 mw_X8_allow.2.2.1 mw_X8_allow.2.2.2 ⟨rfl, by decide, by decide, by decide +kernel⟩ rfl rfl ⟨by decide, by decide⟩ rfl rfl (Nat.le_of_ble_eq_true rfl) (by decide) (by decide) (by decide) dX8_judge_133 (fun M10 => ?_)
  exact g_X8_judge_b136 hC  M10 a1 a2 a3 
set_option maxRecDepth 20000 in
set_option maxHeartbeats 4000000 in
theorem g_X8_judge_b132 {p : Program} {l : Launch} {e : Env} {s : State} {m : MethodId} {args : Array Value} {below : List Frame} {meth : Method} {c : Code} {Z : gZ} (hC : gC p l s m args meth c cX8_judge 6 RX8 (some .int) Z)   (M : gM) (a1 : Int32) (a2 : Int32) (a3 : Int32)  : gW p l e rm_X8_judge s m args below meth c 6 Z 1 2 1 M 132 [(0, .ref (zad Z 0)), (1, .int a1), (2, .int a2), (3, .int a3)] [.ref (zad Z 0)] (f_X8_judge_b132  M a1 a2 a3 ) := by
  unfold f_X8_judge_b132
  refine g_iconst hC (v := 0) dX8_judge_132 (by decide) ?_
  exact g_X8_judge_b133 hC  M a1 a2 a3 0
set_option maxRecDepth 20000 in
set_option maxHeartbeats 4000000 in
theorem g_X8_judge_b43 {p : Program} {l : Launch} {e : Env} {s : State} {m : MethodId} {args : Array Value} {below : List Frame} {meth : Method} {c : Code} {Z : gZ} (hC : gC p l s m args meth c cX8_judge 6 RX8 (some .int) Z)   (M : gM) (a1 : Int32) (a2 : Int32) (t0 : Int32) : gW p l e rm_X8_judge s m args below meth c 6 Z 1 2 1 M 43 [(0, .ref (zad Z 0)), (1, .int a1), (2, .int a2)] [.int t0] (f_X8_judge_b43  M a1 a2 t0) := by
  unfold f_X8_judge_b43
  refine g_istore_n hC (lv1 := [(3, .int t0), (0, .ref (zad Z 0)), (1, .int a1), (2, .int a2)]) dX8_judge_43 rfl (by decide) rfl ?_
  refine g_iload_n hC 0 dX8_judge_44 rfl rfl ?_
  refine g_if_eq (tgt := 95) hC dX8_judge_45 (by decide) (fun _ => ?_) (fun _ => ?_)
  · refine g_aload_n hC 1 dX8_judge_95 rfl rfl ?_
    refine g_aload_n hC 1 dX8_judge_96 rfl rfl ?_
    refine gf_X8_26 hC dX8_judge_97 ?_
    refine gf_X8_195 hC dX8_judge_100 ?_
    refine g_iload_n hC 2 dX8_judge_103 rfl rfl ?_
    refine g_iald hC 51 (by decide) rfl dX8_judge_104 ?_
    refine g_if_ne (tgt := 132) hC dX8_judge_105 (by decide) (fun _ => ?_) (fun _ => ?_)
    · refine g_aload_n hC 1 dX8_judge_108 rfl rfl ?_
      refine g_iload_n hC 2 dX8_judge_109 rfl rfl ?_
      refine g_callVi (n := 1) hC [.int a1] 0 8 (by decide) rfl rfl (fun hne => c_X8_hasAnswer hC.2.2.2.2.2.2.2.1 Z M a1 hne) lk_X8_246 mw_X8_hasAnswer.1 mw_X8_hasAnswer.2.1 mw_X8_hasAnswer.2.2.1 mw_X8_hasAnswer.2.2.2 ⟨rfl, by decide, by decide, by decide +kernel⟩ rfl rfl ⟨by decide, by decide⟩ rfl rfl (Nat.le_of_ble_eq_true rfl) (by decide) (by decide) (by decide) dX8_judge_110 (fun x13 M12 => ?_)
      refine g_if_eq (tgt := 132) hC dX8_judge_113 (by decide) (fun _ => ?_) (fun _ => ?_)
      · refine g_sub (lv1 := [(0, .ref (zad Z 0)), (1, .int a1), (2, .int a2), (3, .int t0)]) [1, 2, 3, 0] rfl ?_
        exact g_X8_judge_b132 hC  M12 a1 a2 t0 
      · refine g_aload_n hC 1 dX8_judge_116 rfl rfl ?_
        refine gf_X8_26 hC dX8_judge_117 ?_
        refine g_iload_n hC 2 dX8_judge_120 rfl rfl ?_
        refine g_iload_n hC 3 dX8_judge_121 rfl rfl ?_
        refine g_callVi (n := 2) hC [.int a1, .int a2] 3 2 (by decide) rfl rfl (fun hne => c_X2_isAboveCap hC.2.2.2.2.2.2.2.1 Z M12 a1 a2 hne) lk_X8_249 mw_X2_isAboveCap.1 mw_X2_isAboveCap.2.1 mw_X2_isAboveCap.2.2.1 mw_X2_isAboveCap.2.2.2 ⟨rfl, by decide, by decide, by decide +kernel⟩ rfl rfl ⟨by decide, by decide⟩ rfl rfl (Nat.le_of_ble_eq_true rfl) (by decide) (by decide) (by decide) dX8_judge_122 (fun x15 M14 => ?_)
        refine g_if_ne (tgt := 132) hC dX8_judge_125 (by decide) (fun _ => ?_) (fun _ => ?_)
        · refine g_iconst hC (v := 1) dX8_judge_128 (by decide) ?_
          refine g_goto (tgt := 133) hC dX8_judge_129 (by decide) ?_
          refine g_sub (lv1 := [(0, .ref (zad Z 0)), (1, .int a1), (2, .int a2), (3, .int t0)]) [1, 2, 3, 0] rfl ?_
          exact g_X8_judge_b133 hC  M14 a1 a2 t0 1
        · refine g_sub (lv1 := [(0, .ref (zad Z 0)), (1, .int a1), (2, .int a2), (3, .int t0)]) [1, 2, 3, 0] rfl ?_
          exact g_X8_judge_b132 hC  M14 a1 a2 t0 
    · refine g_sub (lv1 := [(0, .ref (zad Z 0)), (1, .int a1), (2, .int a2), (3, .int t0)]) [1, 2, 3, 0] rfl ?_
      exact g_X8_judge_b132 hC  M a1 a2 t0 
  · refine g_aload_n hC 1 dX8_judge_48 rfl rfl ?_
    refine g_aload_n hC 1 dX8_judge_49 rfl rfl ?_
    refine g_iload_n hC 2 dX8_judge_50 rfl rfl ?_
    refine g_callVi (n := 1) hC [.int a1] 0 8 (by decide) rfl rfl (fun hne => c_X8_isUnanswered hC.2.2.2.2.2.2.2.1 Z M a1 hne) lk_X8_214 mw_X8_isUnanswered.1 mw_X8_isUnanswered.2.1 mw_X8_isUnanswered.2.2.1 mw_X8_isUnanswered.2.2.2 ⟨rfl, by decide, by decide, by decide +kernel⟩ rfl rfl ⟨by decide, by decide⟩ rfl rfl (Nat.le_of_ble_eq_true rfl) (by decide) (by decide) (by decide) dX8_judge_51 (fun x17 M16 => ?_)
    refine g_if_eq (tgt := 88) hC dX8_judge_54 (by decide) (fun _ => ?_) (fun _ => ?_)
    · refine g_sub (lv1 := [(0, .ref (zad Z 0)), (1, .int a1), (2, .int a2), (3, .int t0)]) [1, 2, 3, 0] rfl ?_
      exact g_X8_judge_b88 hC  M16 a1 a2 t0 
    · refine g_aload_n hC 1 dX8_judge_57 rfl rfl ?_
      refine g_aload_n hC 1 dX8_judge_58 rfl rfl ?_
      refine gf_X8_33 hC dX8_judge_59 ?_
      refine g_iload_n hC 2 dX8_judge_62 rfl rfl ?_
      refine g_callVi (n := 1) hC [.int a1] 4 3 (by decide) rfl rfl (fun hne => c_X3_answerStart hC.2.2.2.2.2.2.2.1 Z M16 a1 hne) lk_X8_217 mw_X3_answerStart.1 mw_X3_answerStart.2.1 mw_X3_answerStart.2.2.1 mw_X3_answerStart.2.2.2 ⟨rfl, by decide, by decide, by decide +kernel⟩ rfl rfl ⟨by decide, by decide⟩ rfl rfl (Nat.le_of_ble_eq_true rfl) (by decide) (by decide) (by decide) dX8_judge_63 (fun x19 M18 => ?_)
      refine g_callVi (n := 1) hC [.int x19] 0 8 (by decide) rfl rfl (fun hne => c_X8_isLate hC.2.2.2.2.2.2.2.1 Z M18 x19 hne) lk_X8_220 mw_X8_isLate.1 mw_X8_isLate.2.1 mw_X8_isLate.2.2.1 mw_X8_isLate.2.2.2 ⟨rfl, by decide, by decide, by decide +kernel⟩ rfl rfl ⟨by decide, by decide⟩ rfl rfl (Nat.le_of_ble_eq_true rfl) (by decide) (by decide) (by decide) dX8_judge_66 (fun x21 M20 => ?_)
      refine g_if_eq (tgt := 88) hC dX8_judge_69 (by decide) (fun _ => ?_) (fun _ => ?_)
      · refine g_sub (lv1 := [(0, .ref (zad Z 0)), (1, .int a1), (2, .int a2), (3, .int t0)]) [1, 2, 3, 0] rfl ?_
        exact g_X8_judge_b88 hC  M20 a1 a2 t0 
      · refine g_aload_n hC 1 dX8_judge_72 rfl rfl ?_
        refine gf_X8_26 hC dX8_judge_73 ?_
        refine gf_X8_243 hC dX8_judge_76 ?_
        refine g_iload_n hC 2 dX8_judge_79 rfl rfl ?_
        refine g_iald hC 52 (by decide) rfl dX8_judge_80 ?_
        refine g_if_eq (tgt := 88) hC dX8_judge_81 (by decide) (fun _ => ?_) (fun _ => ?_)
        · refine g_sub (lv1 := [(0, .ref (zad Z 0)), (1, .int a1), (2, .int a2), (3, .int t0)]) [1, 2, 3, 0] rfl ?_
          exact g_X8_judge_b88 hC  M20 a1 a2 t0 
        · refine g_iconst hC (v := 1) dX8_judge_84 (by decide) ?_
          refine g_goto (tgt := 89) hC dX8_judge_85 (by decide) ?_
          refine g_sub (lv1 := [(0, .ref (zad Z 0)), (1, .int a1), (2, .int a2), (3, .int t0)]) [1, 2, 3, 0] rfl ?_
          exact g_X8_judge_b89 hC  M20 a1 a2 t0 1
set_option maxRecDepth 20000 in
set_option maxHeartbeats 4000000 in
theorem c_X8_judge {l : Launch} (hfl : l.stackTraces = false) (Z : gZ) (M : gM) (a1 : Int32) (a2 : Int32) : gMet l yX8_judge cX8_judge 6 (some .int) rm_X8_judge 1 2 Z M [.ref (zad Z 0), .int a1, .int a2] (f_X8_judge M a1 a2) := by
  refine g_enter hfl (by decide) (Nat.le_of_ble_eq_true rfl) (fun p e s m args below meth c hC => ?_)
  refine g_eq (F := f_X8_judge M a1 a2) rfl ?_
  refine g_lv0 (lv1 := [(0, .ref (zad Z 0)), (1, .int a1), (2, .int a2)]) rfl ?_
  unfold f_X8_judge
  refine g_aload_n hC 0 dX8_judge_0 rfl rfl ?_
  refine g_iload_n hC 1 dX8_judge_1 rfl rfl ?_
  refine g_callVv (n := 1) hC [.int a1] 0 8 (by decide) rfl rfl (fun hne => c_X8_checkClaim hC.2.2.2.2.2.2.2.1 Z M a1 hne) lk_X8_169 mw_X8_checkClaim.1 mw_X8_checkClaim.2.1 mw_X8_checkClaim.2.2.1 mw_X8_checkClaim.2.2.2 ⟨rfl, by decide, by decide, by decide +kernel⟩ rfl rfl ⟨by decide, by decide⟩ rfl rfl (Nat.le_of_ble_eq_true rfl) (by decide) (by decide) (by decide) dX8_judge_2 (fun M22 => ?_)
  refine g_iload_n hC 2 dX8_judge_5 rfl rfl ?_
  refine g_iconst hC (v := (-1)) dX8_judge_6 (by decide) ?_
  refine g_icmp_lt (tgt := 23) hC dX8_judge_7 (by decide) (fun _ => ?_) (fun _ => ?_)
  · exact g_throwS (text := "amount out of range") hC 1 (by decide) thr_c1 thr_i1 (by decide) thr_a1 thr_n1 thr_g1 (by decide) (by decide) (Nat.le_of_ble_eq_true rfl) (by decide) (by decide) (by decide) dX8_judge_23 dX8_judge_26 dX8_judge_27 dX8_judge_29 dX8_judge_32
  · refine g_iload_n hC 2 dX8_judge_10 rfl rfl ?_
    refine g_aload_n hC 0 dX8_judge_11 rfl rfl ?_
    refine gf_X8_26 hC dX8_judge_12 ?_
    refine gf_X8_235 hC dX8_judge_15 ?_
    refine g_iload_n hC 1 dX8_judge_18 rfl rfl ?_
    refine g_iald hC 50 (by decide) rfl dX8_judge_19 ?_
    refine g_icmp_le (tgt := 33) hC dX8_judge_20 (by decide) (fun _ => ?_) (fun _ => ?_)
    · refine g_iload_n hC 2 dX8_judge_33 rfl rfl ?_
      refine g_iconst hC (v := (-1)) dX8_judge_34 (by decide) ?_
      refine g_icmp_ne (tgt := 42) hC dX8_judge_35 (by decide) (fun _ => ?_) (fun _ => ?_)
      · refine g_iconst hC (v := 1) dX8_judge_38 (by decide) ?_
        refine g_goto (tgt := 43) hC dX8_judge_39 (by decide) ?_
        exact g_X8_judge_b43 hC  M22 a1 a2 1
      · refine g_iconst hC (v := 0) dX8_judge_42 (by decide) ?_
        exact g_X8_judge_b43 hC  M22 a1 a2 0
    · exact g_throwS (text := "amount out of range") hC 1 (by decide) thr_c1 thr_i1 (by decide) thr_a1 thr_n1 thr_g1 (by decide) (by decide) (Nat.le_of_ble_eq_true rfl) (by decide) (by decide) (by decide) dX8_judge_23 dX8_judge_26 dX8_judge_27 dX8_judge_29 dX8_judge_32

-- ===== X8_canBeVacated =====
def f_X8_canBeVacated (M : gM) (a1 : Int32) : gR := (gI a1 160 (bV (M 55 a1.toNatClampNeg) (fun x1 => (if x1 = 5 then (rRet 1 M) else (if x1 = 4 then (gI a1 160 (if (M 58 a1.toNatClampNeg) = (-1) then (rRet 0 M) else (rRet 1 M))) else (rRet 0 M))))))
abbrev rm_X8_canBeVacated : Room := { frames := 0, cells := 0, slots := 0, locals := 0 }
set_option maxRecDepth 20000 in
set_option maxHeartbeats 4000000 in
theorem c_X8_canBeVacated {l : Launch} (hfl : l.stackTraces = false) (Z : gZ) (M : gM) (a1 : Int32) : gMet l yX8_canBeVacated cX8_canBeVacated 3 (some .boolean) rm_X8_canBeVacated 1 0 Z M [.ref (zad Z 0), .int a1] (f_X8_canBeVacated M a1) := by
  refine g_enter hfl (by decide) (Nat.le_of_ble_eq_true rfl) (fun p e s m args below meth c hC => ?_)
  refine g_eq (F := f_X8_canBeVacated M a1) rfl ?_
  refine g_lv0 (lv1 := [(0, .ref (zad Z 0)), (1, .int a1)]) rfl ?_
  unfold f_X8_canBeVacated
  refine g_aload_n hC 0 dX8_canBeVacated_0 rfl rfl ?_
  refine gf_X8_33 hC dX8_canBeVacated_1 ?_
  refine gf_X8_301 hC dX8_canBeVacated_4 ?_
  refine g_iload_n hC 1 dX8_canBeVacated_7 rfl rfl ?_
  refine g_iald hC 55 (by decide) rfl dX8_canBeVacated_8 ?_
  refine g_bv (fun x1 => ?_)
  refine g_istore_n hC (lv1 := [(2, .int x1), (0, .ref (zad Z 0)), (1, .int a1)]) dX8_canBeVacated_9 rfl (by decide) rfl ?_
  refine g_iload_n hC 0 dX8_canBeVacated_10 rfl rfl ?_
  refine g_iconst hC (v := 5) dX8_canBeVacated_11 (by decide) ?_
  refine g_icmp_eq (tgt := 33) hC dX8_canBeVacated_12 (by decide) (fun _ => ?_) (fun _ => ?_)
  · refine g_iconst hC (v := 1) dX8_canBeVacated_33 (by decide) ?_
    refine g_goto (tgt := 38) hC dX8_canBeVacated_34 (by decide) ?_
    exact g_zret1 hC rfl (by decide) dX8_canBeVacated_38
  · refine g_iload_n hC 0 dX8_canBeVacated_15 rfl rfl ?_
    refine g_iconst hC (v := 4) dX8_canBeVacated_16 (by decide) ?_
    refine g_icmp_ne (tgt := 37) hC dX8_canBeVacated_17 (by decide) (fun _ => ?_) (fun _ => ?_)
    · refine g_aload_n hC 1 dX8_canBeVacated_20 rfl rfl ?_
      refine gf_X8_33 hC dX8_canBeVacated_21 ?_
      refine gf_X8_458 hC dX8_canBeVacated_24 ?_
      refine g_iload_n hC 2 dX8_canBeVacated_27 rfl rfl ?_
      refine g_iald hC 58 (by decide) rfl dX8_canBeVacated_28 ?_
      refine g_iconst hC (v := (-1)) dX8_canBeVacated_29 (by decide) ?_
      refine g_icmp_eq (tgt := 37) hC dX8_canBeVacated_30 (by decide) (fun _ => ?_) (fun _ => ?_)
      · refine g_iconst hC (v := 0) dX8_canBeVacated_37 (by decide) ?_
        exact g_zret0 hC rfl (by decide) dX8_canBeVacated_38
      · refine g_iconst hC (v := 1) dX8_canBeVacated_33 (by decide) ?_
        refine g_goto (tgt := 38) hC dX8_canBeVacated_34 (by decide) ?_
        exact g_zret1 hC rfl (by decide) dX8_canBeVacated_38
    · refine g_iconst hC (v := 0) dX8_canBeVacated_37 (by decide) ?_
      exact g_zret0 hC rfl (by decide) dX8_canBeVacated_38

-- ===== X8_vacate =====
def f_X8_vacate_b33  (M : gM) (a1 : Int32) (a2 : Int32) (t1 : Int32) : gR := (rb (f_X8_allow M t1) (fun _ M1 => (rb (f_X8_enter M1 6 a1 a2 0) (fun x4 M3 => (gZ01 1 (gI a2 160 (bM (gset M3 61 a2.toNatClampNeg 1) (fun M5 => (gI a1 24 (bM (gset M5 51 a1.toNatClampNeg 0) (fun M6 => (gI a2 160 (gI a1 24 (bM (gset M6 50 a1.toNatClampNeg (M6 60 a2.toNatClampNeg)) (fun M7 => (rRet x4 M7))))))))))))))))
def f_X8_vacate_b32  (M : gM) (a1 : Int32) (a2 : Int32)  : gR := (f_X8_vacate_b33  M a1 a2 0)
def f_X8_vacate (M : gM) (a1 : Int32) : gR := (rb (f_X8_checkClaim M a1) (fun _ M8 => (rb (f_X3_latestOrder M8 a1) (fun x11 M10 => (if x11 = (-1) then (f_X8_vacate_b32  M10 a1 x11 ) else (rb (f_X8_canBeVacated M10 x11) (fun x13 M12 => (if x13 = 0 then (f_X8_vacate_b32  M12 a1 x11 ) else (f_X8_vacate_b33  M12 a1 x11 1)))))))))
abbrev rm_X8_vacate : Room := { frames := 7, cells := 2, slots := 12, locals := 111 }
set_option maxRecDepth 20000 in
set_option maxHeartbeats 4000000 in
theorem g_X8_vacate_b33 {p : Program} {l : Launch} {e : Env} {s : State} {m : MethodId} {args : Array Value} {below : List Frame} {meth : Method} {c : Code} {Z : gZ} (hC : gC p l s m args meth c cX8_vacate 4 RX8 (some .int) Z)   (M : gM) (a1 : Int32) (a2 : Int32) (t1 : Int32) : gW p l e rm_X8_vacate s m args below meth c 4 Z 1 2 1 M 33 [(0, .ref (zad Z 0)), (1, .int a1), (2, .int a2)] [.int t1, .ref (zad Z 0)] (f_X8_vacate_b33  M a1 a2 t1) := by
  unfold f_X8_vacate_b33
  refine g_callVv (n := 1) hC [.int t1] 0 8 (by decide) rfl rfl (fun hne => c_X8_allow hC.2.2.2.2.2.2.2.1 Z M t1 hne) lk_X8_201 mw_X8_allow.1 mw_X8_allow.2.1 mw_X8_allow.2.2.1 mw_X8_allow.2.2.2 ⟨rfl, by decide, by decide, by decide +kernel⟩ rfl rfl ⟨by decide, by decide⟩ rfl rfl (Nat.le_of_ble_eq_true rfl) (by decide) (by decide) (by decide) dX8_vacate_33 (fun M1 => ?_)
  refine g_aload_n hC 0 dX8_vacate_36 rfl rfl ?_
  refine g_bipush hC (v := 6) dX8_vacate_37 (by decide) ?_
  refine g_iload_n hC 1 dX8_vacate_39 rfl rfl ?_
  refine g_iload_n hC 2 dX8_vacate_40 rfl rfl ?_
  refine g_iconst hC (v := 0) dX8_vacate_41 (by decide) ?_
  refine g_callVi (n := 4) hC [.int 6, .int a1, .int a2, .int 0] 0 8 (by decide) rfl rfl (fun hne => c_X8_enter hC.2.2.2.2.2.2.2.1 Z M1 6 a1 a2 0 hne) lk_X8_205 mw_X8_enter.1 mw_X8_enter.2.1 mw_X8_enter.2.2.1 mw_X8_enter.2.2.2 ⟨rfl, by decide, by decide, by decide +kernel⟩ rfl rfl ⟨by decide, by decide⟩ rfl rfl (Nat.le_of_ble_eq_true rfl) (by decide) (by decide) (by decide) dX8_vacate_42 (fun x4 M3 => ?_)
  refine g_istore_n hC (lv1 := [(3, .int x4), (0, .ref (zad Z 0)), (1, .int a1), (2, .int a2)]) dX8_vacate_45 rfl (by decide) rfl ?_
  refine g_aload_n hC 1 dX8_vacate_46 rfl rfl ?_
  refine gf_X8_33 hC dX8_vacate_47 ?_
  refine gf_X8_261 hC dX8_vacate_50 ?_
  refine g_iload_n hC 3 dX8_vacate_53 rfl rfl ?_
  refine g_iconst hC (v := 1) dX8_vacate_54 (by decide) ?_
  refine g_zast hC 61 (by decide) rfl dX8_vacate_55 (fun M5 => ?_)
  refine g_aload_n hC 1 dX8_vacate_56 rfl rfl ?_
  refine gf_X8_26 hC dX8_vacate_57 ?_
  refine gf_X8_195 hC dX8_vacate_60 ?_
  refine g_iload_n hC 2 dX8_vacate_63 rfl rfl ?_
  refine g_iconst hC (v := 0) dX8_vacate_64 (by decide) ?_
  refine g_iast hC 51 (by decide) rfl dX8_vacate_65 (fun M6 => ?_)
  refine g_aload_n hC 1 dX8_vacate_66 rfl rfl ?_
  refine gf_X8_26 hC dX8_vacate_67 ?_
  refine gf_X8_235 hC dX8_vacate_70 ?_
  refine g_iload_n hC 2 dX8_vacate_73 rfl rfl ?_
  refine g_aload_n hC 1 dX8_vacate_74 rfl rfl ?_
  refine gf_X8_33 hC dX8_vacate_75 ?_
  refine gf_X8_264 hC dX8_vacate_78 ?_
  refine g_iload_n hC 3 dX8_vacate_81 rfl rfl ?_
  refine g_iald hC 60 (by decide) rfl dX8_vacate_82 ?_
  refine g_iast hC 50 (by decide) rfl dX8_vacate_83 (fun M7 => ?_)
  refine g_iload_n hC 0 dX8_vacate_84 rfl rfl ?_
  exact g_iret hC rfl (by decide) dX8_vacate_85
set_option maxRecDepth 20000 in
set_option maxHeartbeats 4000000 in
theorem g_X8_vacate_b32 {p : Program} {l : Launch} {e : Env} {s : State} {m : MethodId} {args : Array Value} {below : List Frame} {meth : Method} {c : Code} {Z : gZ} (hC : gC p l s m args meth c cX8_vacate 4 RX8 (some .int) Z)   (M : gM) (a1 : Int32) (a2 : Int32)  : gW p l e rm_X8_vacate s m args below meth c 4 Z 1 2 1 M 32 [(0, .ref (zad Z 0)), (1, .int a1), (2, .int a2)] [.ref (zad Z 0)] (f_X8_vacate_b32  M a1 a2 ) := by
  unfold f_X8_vacate_b32
  refine g_iconst hC (v := 0) dX8_vacate_32 (by decide) ?_
  exact g_X8_vacate_b33 hC  M a1 a2 0
set_option maxRecDepth 20000 in
set_option maxHeartbeats 4000000 in
theorem c_X8_vacate {l : Launch} (hfl : l.stackTraces = false) (Z : gZ) (M : gM) (a1 : Int32) : gMet l yX8_vacate cX8_vacate 4 (some .int) rm_X8_vacate 1 2 Z M [.ref (zad Z 0), .int a1] (f_X8_vacate M a1) := by
  refine g_enter hfl (by decide) (Nat.le_of_ble_eq_true rfl) (fun p e s m args below meth c hC => ?_)
  refine g_eq (F := f_X8_vacate M a1) rfl ?_
  refine g_lv0 (lv1 := [(0, .ref (zad Z 0)), (1, .int a1)]) rfl ?_
  unfold f_X8_vacate
  refine g_aload_n hC 0 dX8_vacate_0 rfl rfl ?_
  refine g_iload_n hC 1 dX8_vacate_1 rfl rfl ?_
  refine g_callVv (n := 1) hC [.int a1] 0 8 (by decide) rfl rfl (fun hne => c_X8_checkClaim hC.2.2.2.2.2.2.2.1 Z M a1 hne) lk_X8_169 mw_X8_checkClaim.1 mw_X8_checkClaim.2.1 mw_X8_checkClaim.2.2.1 mw_X8_checkClaim.2.2.2 ⟨rfl, by decide, by decide, by decide +kernel⟩ rfl rfl ⟨by decide, by decide⟩ rfl rfl (Nat.le_of_ble_eq_true rfl) (by decide) (by decide) (by decide) dX8_vacate_2 (fun M8 => ?_)
  refine g_aload_n hC 0 dX8_vacate_5 rfl rfl ?_
  refine gf_X8_33 hC dX8_vacate_6 ?_
  refine g_iload_n hC 1 dX8_vacate_9 rfl rfl ?_
  refine g_callVi (n := 1) hC [.int a1] 4 3 (by decide) rfl rfl (fun hne => c_X3_latestOrder hC.2.2.2.2.2.2.2.1 Z M8 a1 hne) lk_X8_255 mw_X3_latestOrder.1 mw_X3_latestOrder.2.1 mw_X3_latestOrder.2.2.1 mw_X3_latestOrder.2.2.2 ⟨rfl, by decide, by decide, by decide +kernel⟩ rfl rfl ⟨by decide, by decide⟩ rfl rfl (Nat.le_of_ble_eq_true rfl) (by decide) (by decide) (by decide) dX8_vacate_10 (fun x11 M10 => ?_)
  refine g_istore_n hC (lv1 := [(2, .int x11), (0, .ref (zad Z 0)), (1, .int a1)]) dX8_vacate_13 rfl (by decide) rfl ?_
  refine g_aload_n hC 1 dX8_vacate_14 rfl rfl ?_
  refine g_iload_n hC 0 dX8_vacate_15 rfl rfl ?_
  refine g_iconst hC (v := (-1)) dX8_vacate_16 (by decide) ?_
  refine g_icmp_eq (tgt := 32) hC dX8_vacate_17 (by decide) (fun _ => ?_) (fun _ => ?_)
  · refine g_sub (lv1 := [(0, .ref (zad Z 0)), (1, .int a1), (2, .int x11)]) [1, 2, 0] rfl ?_
    exact g_X8_vacate_b32 hC  M10 a1 x11 
  · refine g_aload_n hC 1 dX8_vacate_20 rfl rfl ?_
    refine g_iload_n hC 0 dX8_vacate_21 rfl rfl ?_
    refine g_callVi (n := 1) hC [.int x11] 0 8 (by decide) rfl rfl (fun hne => c_X8_canBeVacated hC.2.2.2.2.2.2.2.1 Z M10 x11 hne) lk_X8_258 mw_X8_canBeVacated.1 mw_X8_canBeVacated.2.1 mw_X8_canBeVacated.2.2.1 mw_X8_canBeVacated.2.2.2 ⟨rfl, by decide, by decide, by decide +kernel⟩ rfl rfl ⟨by decide, by decide⟩ rfl rfl (Nat.le_of_ble_eq_true rfl) (by decide) (by decide) (by decide) dX8_vacate_22 (fun x13 M12 => ?_)
    refine g_if_eq (tgt := 32) hC dX8_vacate_25 (by decide) (fun _ => ?_) (fun _ => ?_)
    · refine g_sub (lv1 := [(0, .ref (zad Z 0)), (1, .int a1), (2, .int x11)]) [1, 2, 0] rfl ?_
      exact g_X8_vacate_b32 hC  M12 a1 x11 
    · refine g_iconst hC (v := 1) dX8_vacate_28 (by decide) ?_
      refine g_goto (tgt := 33) hC dX8_vacate_29 (by decide) ?_
      refine g_sub (lv1 := [(0, .ref (zad Z 0)), (1, .int a1), (2, .int x11)]) [1, 2, 0] rfl ?_
      exact g_X8_vacate_b33 hC  M12 a1 x11 1

-- ===== X8_appeal =====
def f_X8_appeal_b63  (M : gM) (a1 : Int32) (t1 : Int32) : gR := (rb (f_X8_allow M t1) (fun _ M1 => (rb (f_X8_enter M1 7 a1 0 0) (fun x4 M3 => (gI a1 24 (bM (gset M3 51 a1.toNatClampNeg 3) (fun M5 => (rRet x4 M5))))))))
def f_X8_appeal_b62  (M : gM) (a1 : Int32)  : gR := (f_X8_appeal_b63  M a1 0)
def f_X8_appeal (M : gM) (a1 : Int32) : gR := (rb (f_X8_checkClaim M a1) (fun _ M6 => (gI a1 24 (if (M6 51 a1.toNatClampNeg) = 2 then (gI a1 24 (if (M6 53 a1.toNatClampNeg) = 0 then (rb (f_X3_appealsSinceJudgement M6 a1) (fun x9 M8 => (if 2 ≤ x9 then (f_X8_appeal_b62  M8 a1 ) else (rb (f_X3_appealStart M8 a1) (fun x11 M10 => (rb (f_X8_isLate M10 x11) (fun x13 M12 => (if x13 = 0 then (f_X8_appeal_b63  M12 a1 1) else (f_X8_appeal_b62  M12 a1 ))))))))) else (f_X8_appeal_b62  M6 a1 ))) else (f_X8_appeal_b62  M6 a1 )))))
abbrev rm_X8_appeal : Room := { frames := 7, cells := 2, slots := 12, locals := 111 }
set_option maxRecDepth 20000 in
set_option maxHeartbeats 4000000 in
theorem g_X8_appeal_b63 {p : Program} {l : Launch} {e : Env} {s : State} {m : MethodId} {args : Array Value} {below : List Frame} {meth : Method} {c : Code} {Z : gZ} (hC : gC p l s m args meth c cX8_appeal 3 RX8 (some .int) Z)   (M : gM) (a1 : Int32) (t1 : Int32) : gW p l e rm_X8_appeal s m args below meth c 3 Z 1 2 1 M 63 [(0, .ref (zad Z 0)), (1, .int a1)] [.int t1, .ref (zad Z 0)] (f_X8_appeal_b63  M a1 t1) := by
  unfold f_X8_appeal_b63
  refine g_callVv (n := 1) hC [.int t1] 0 8 (by decide) rfl rfl (fun hne => c_X8_allow hC.2.2.2.2.2.2.2.1 Z M t1 hne) lk_X8_201 mw_X8_allow.1 mw_X8_allow.2.1 mw_X8_allow.2.2.1 mw_X8_allow.2.2.2 ⟨rfl, by decide, by decide, by decide +kernel⟩ rfl rfl ⟨by decide, by decide⟩ rfl rfl (Nat.le_of_ble_eq_true rfl) (by decide) (by decide) (by decide) dX8_appeal_63 (fun M1 => ?_)
  refine g_aload_n hC 0 dX8_appeal_66 rfl rfl ?_
  refine g_bipush hC (v := 7) dX8_appeal_67 (by decide) ?_
  refine g_iload_n hC 1 dX8_appeal_69 rfl rfl ?_
  refine g_iconst hC (v := 0) dX8_appeal_70 (by decide) ?_
  refine g_iconst hC (v := 0) dX8_appeal_71 (by decide) ?_
  refine g_callVi (n := 4) hC [.int 7, .int a1, .int 0, .int 0] 0 8 (by decide) rfl rfl (fun hne => c_X8_enter hC.2.2.2.2.2.2.2.1 Z M1 7 a1 0 0 hne) lk_X8_205 mw_X8_enter.1 mw_X8_enter.2.1 mw_X8_enter.2.2.1 mw_X8_enter.2.2.2 ⟨rfl, by decide, by decide, by decide +kernel⟩ rfl rfl ⟨by decide, by decide⟩ rfl rfl (Nat.le_of_ble_eq_true rfl) (by decide) (by decide) (by decide) dX8_appeal_72 (fun x4 M3 => ?_)
  refine g_istore_n hC (lv1 := [(2, .int x4), (0, .ref (zad Z 0)), (1, .int a1)]) dX8_appeal_75 rfl (by decide) rfl ?_
  refine g_aload_n hC 1 dX8_appeal_76 rfl rfl ?_
  refine gf_X8_26 hC dX8_appeal_77 ?_
  refine gf_X8_195 hC dX8_appeal_80 ?_
  refine g_iload_n hC 2 dX8_appeal_83 rfl rfl ?_
  refine g_iconst hC (v := 3) dX8_appeal_84 (by decide) ?_
  refine g_iast hC 51 (by decide) rfl dX8_appeal_85 (fun M5 => ?_)
  refine g_iload_n hC 0 dX8_appeal_86 rfl rfl ?_
  exact g_iret hC rfl (by decide) dX8_appeal_87
set_option maxRecDepth 20000 in
set_option maxHeartbeats 4000000 in
theorem g_X8_appeal_b62 {p : Program} {l : Launch} {e : Env} {s : State} {m : MethodId} {args : Array Value} {below : List Frame} {meth : Method} {c : Code} {Z : gZ} (hC : gC p l s m args meth c cX8_appeal 3 RX8 (some .int) Z)   (M : gM) (a1 : Int32)  : gW p l e rm_X8_appeal s m args below meth c 3 Z 1 2 1 M 62 [(0, .ref (zad Z 0)), (1, .int a1)] [.ref (zad Z 0)] (f_X8_appeal_b62  M a1 ) := by
  unfold f_X8_appeal_b62
  refine g_iconst hC (v := 0) dX8_appeal_62 (by decide) ?_
  exact g_X8_appeal_b63 hC  M a1 0
set_option maxRecDepth 20000 in
set_option maxHeartbeats 4000000 in
theorem c_X8_appeal {l : Launch} (hfl : l.stackTraces = false) (Z : gZ) (M : gM) (a1 : Int32) : gMet l yX8_appeal cX8_appeal 3 (some .int) rm_X8_appeal 1 2 Z M [.ref (zad Z 0), .int a1] (f_X8_appeal M a1) := by
  refine g_enter hfl (by decide) (Nat.le_of_ble_eq_true rfl) (fun p e s m args below meth c hC => ?_)
  refine g_eq (F := f_X8_appeal M a1) rfl ?_
  refine g_lv0 (lv1 := [(0, .ref (zad Z 0)), (1, .int a1)]) rfl ?_
  unfold f_X8_appeal
  refine g_aload_n hC 0 dX8_appeal_0 rfl rfl ?_
  refine g_iload_n hC 1 dX8_appeal_1 rfl rfl ?_
  refine g_callVv (n := 1) hC [.int a1] 0 8 (by decide) rfl rfl (fun hne => c_X8_checkClaim hC.2.2.2.2.2.2.2.1 Z M a1 hne) lk_X8_169 mw_X8_checkClaim.1 mw_X8_checkClaim.2.1 mw_X8_checkClaim.2.2.1 mw_X8_checkClaim.2.2.2 ⟨rfl, by decide, by decide, by decide +kernel⟩ rfl rfl ⟨by decide, by decide⟩ rfl rfl (Nat.le_of_ble_eq_true rfl) (by decide) (by decide) (by decide) dX8_appeal_2 (fun M6 => ?_)
  refine g_aload_n hC 0 dX8_appeal_5 rfl rfl ?_
  refine g_aload_n hC 0 dX8_appeal_6 rfl rfl ?_
  refine gf_X8_26 hC dX8_appeal_7 ?_
  refine gf_X8_195 hC dX8_appeal_10 ?_
  refine g_iload_n hC 1 dX8_appeal_13 rfl rfl ?_
  refine g_iald hC 51 (by decide) rfl dX8_appeal_14 ?_
  refine g_iconst hC (v := 2) dX8_appeal_15 (by decide) ?_
  refine g_icmp_ne (tgt := 62) hC dX8_appeal_16 (by decide) (fun _ => ?_) (fun _ => ?_)
  · refine g_aload_n hC 0 dX8_appeal_19 rfl rfl ?_
    refine gf_X8_26 hC dX8_appeal_20 ?_
    refine gf_X8_267 hC dX8_appeal_23 ?_
    refine g_iload_n hC 1 dX8_appeal_26 rfl rfl ?_
    refine g_iald hC 53 (by decide) rfl dX8_appeal_27 ?_
    refine g_if_ne (tgt := 62) hC dX8_appeal_28 (by decide) (fun _ => ?_) (fun _ => ?_)
    · refine g_aload_n hC 0 dX8_appeal_31 rfl rfl ?_
      refine gf_X8_33 hC dX8_appeal_32 ?_
      refine g_iload_n hC 1 dX8_appeal_35 rfl rfl ?_
      refine g_callVi (n := 1) hC [.int a1] 4 3 (by decide) rfl rfl (fun hne => c_X3_appealsSinceJudgement hC.2.2.2.2.2.2.2.1 Z M6 a1 hne) lk_X8_270 mw_X3_appealsSinceJudgement.1 mw_X3_appealsSinceJudgement.2.1 mw_X3_appealsSinceJudgement.2.2.1 mw_X3_appealsSinceJudgement.2.2.2 ⟨rfl, by decide, by decide, by decide +kernel⟩ rfl rfl ⟨by decide, by decide⟩ rfl rfl (Nat.le_of_ble_eq_true rfl) (by decide) (by decide) (by decide) dX8_appeal_36 (fun x9 M8 => ?_)
      refine g_iconst hC (v := 2) dX8_appeal_39 (by decide) ?_
      refine g_icmp_ge (tgt := 62) hC dX8_appeal_40 (by decide) (fun _ => ?_) (fun _ => ?_)
      · exact g_X8_appeal_b62 hC  M8 a1
      · refine g_aload_n hC 0 dX8_appeal_43 rfl rfl ?_
        refine g_aload_n hC 0 dX8_appeal_44 rfl rfl ?_
        refine gf_X8_33 hC dX8_appeal_45 ?_
        refine g_iload_n hC 1 dX8_appeal_48 rfl rfl ?_
        refine g_callVi (n := 1) hC [.int a1] 4 3 (by decide) rfl rfl (fun hne => c_X3_appealStart hC.2.2.2.2.2.2.2.1 Z M8 a1 hne) lk_X8_273 mw_X3_appealStart.1 mw_X3_appealStart.2.1 mw_X3_appealStart.2.2.1 mw_X3_appealStart.2.2.2 ⟨rfl, by decide, by decide, by decide +kernel⟩ rfl rfl ⟨by decide, by decide⟩ rfl rfl (Nat.le_of_ble_eq_true rfl) (by decide) (by decide) (by decide) dX8_appeal_49 (fun x11 M10 => ?_)
        refine g_callVi (n := 1) hC [.int x11] 0 8 (by decide) rfl rfl (fun hne => c_X8_isLate hC.2.2.2.2.2.2.2.1 Z M10 x11 hne) lk_X8_220 mw_X8_isLate.1 mw_X8_isLate.2.1 mw_X8_isLate.2.2.1 mw_X8_isLate.2.2.2 ⟨rfl, by decide, by decide, by decide +kernel⟩ rfl rfl ⟨by decide, by decide⟩ rfl rfl (Nat.le_of_ble_eq_true rfl) (by decide) (by decide) (by decide) dX8_appeal_52 (fun x13 M12 => ?_)
        refine g_if_ne (tgt := 62) hC dX8_appeal_55 (by decide) (fun _ => ?_) (fun _ => ?_)
        · refine g_iconst hC (v := 1) dX8_appeal_58 (by decide) ?_
          refine g_goto (tgt := 63) hC dX8_appeal_59 (by decide) ?_
          exact g_X8_appeal_b63 hC  M12 a1 1
        · exact g_X8_appeal_b62 hC  M12 a1
    · exact g_X8_appeal_b62 hC  M6 a1
  · exact g_X8_appeal_b62 hC  M6 a1

-- ===== X8_stateByDecision =====
def f_X8_stateByDecision (M : gM) (a0 : Int32) : gR := (if a0 = 0 then (rRet 2 M) else (if a0 = 1 then (rRet 1 M) else (rRet 0 M)))
abbrev rm_X8_stateByDecision : Room := { frames := 0, cells := 0, slots := 0, locals := 0 }
set_option maxRecDepth 20000 in
set_option maxHeartbeats 4000000 in
theorem c_X8_stateByDecision {l : Launch} (hfl : l.stackTraces = false) (Z : gZ) (M : gM) (a0 : Int32) : gMet l yX8_stateByDecision cX8_stateByDecision 1 (some .int) rm_X8_stateByDecision 1 0 Z M [.int a0] (f_X8_stateByDecision M a0) := by
  refine g_enter hfl (by decide) (Nat.le_of_ble_eq_true rfl) (fun p e s m args below meth c hC => ?_)
  refine g_eq (F := f_X8_stateByDecision M a0) rfl ?_
  refine g_lv0 (lv1 := [(0, .int a0)]) rfl ?_
  unfold f_X8_stateByDecision
  refine g_iload_n hC 0 dX8_stateByDecision_0 rfl rfl ?_
  refine g_if_ne (tgt := 6) hC dX8_stateByDecision_1 (by decide) (fun _ => ?_) (fun _ => ?_)
  · refine g_iconst hC (v := 2) dX8_stateByDecision_4 (by decide) ?_
    exact g_iret hC rfl (by decide) dX8_stateByDecision_5
  · refine g_iload_n hC 0 dX8_stateByDecision_6 rfl rfl ?_
    refine g_iconst hC (v := 1) dX8_stateByDecision_7 (by decide) ?_
    refine g_icmp_ne (tgt := 15) hC dX8_stateByDecision_8 (by decide) (fun _ => ?_) (fun _ => ?_)
    · refine g_iconst hC (v := 1) dX8_stateByDecision_11 (by decide) ?_
      refine g_goto (tgt := 16) hC dX8_stateByDecision_12 (by decide) ?_
      exact g_iret hC rfl (by decide) dX8_stateByDecision_16
    · refine g_iconst hC (v := 0) dX8_stateByDecision_15 (by decide) ?_
      exact g_iret hC rfl (by decide) dX8_stateByDecision_16

-- ===== X8_decide =====
def f_X8_decide_b106  (M : gM) (a1 : Int32) (a2 : Int32) (a3 : Int32) (a4 : Int32) (t1 : Int32) (t2 : Int32) (t3 : Int32) (t4 : Int32) : gR := (rb (f_X8_enter M t1 t2 t3 t4) (fun x2 M1 => (rb (f_X8_stateByDecision M1 a2) (fun x4 M3 => (gI a1 24 (bM (gset M3 51 a1.toNatClampNeg x4) (fun M5 => (if a2 = 2 then (gI a1 24 (bM (gset M5 52 a1.toNatClampNeg a3) (fun M6 => (if a4 = (-1) then (rRet x2 M6) else (gI a4 160 (gI a1 24 (bM (gset M6 50 a1.toNatClampNeg (M6 60 a4.toNatClampNeg)) (fun M7 => (rRet x2 M7))))))))) else (rRet x2 M5)))))))))
def f_X8_decide_b77  (M : gM) (a1 : Int32) (a2 : Int32) (a3 : Int32) (t1 : Int32) : gR := (rb (f_X8_allow M t1) (fun _ M8 => (rb (f_X3_latest M8 5 a1) (fun x11 M10 => (if a2 = 2 then (f_X8_decide_b106  M10 a1 a2 a3 x11 8 a1 a2 a3) else (f_X8_decide_b106  M10 a1 a2 a3 x11 8 a1 a2 0))))))
def f_X8_decide_b58  (M : gM) (a1 : Int32) (a2 : Int32) (a3 : Int32)  : gR := (gI a1 24 (if (M 51 a1.toNatClampNeg) = 3 then (f_X8_decide_b77  M a1 a2 a3 1) else (f_X8_decide_b77  M a1 a2 a3 0)))
def f_X8_decide (M : gM) (a1 : Int32) (a2 : Int32) (a3 : Int32) : gR := (rb (f_X8_checkClaim M a1) (fun _ M12 => (if a2 < 0 then (rThr 1 M12) else (if a2 ≤ 2 then (if a2 = 2 then (if a3 < 0 then (rThr 1 M12) else (gI a1 24 (if a3 ≤ (M12 50 a1.toNatClampNeg) then (f_X8_decide_b58  M12 a1 a2 a3 ) else (rThr 1 M12)))) else (f_X8_decide_b58  M12 a1 a2 a3 )) else (rThr 1 M12)))))
abbrev rm_X8_decide : Room := { frames := 7, cells := 2, slots := 12, locals := 111 }
set_option maxRecDepth 20000 in
set_option maxHeartbeats 4000000 in
theorem g_X8_decide_b106 {p : Program} {l : Launch} {e : Env} {s : State} {m : MethodId} {args : Array Value} {below : List Frame} {meth : Method} {c : Code} {Z : gZ} (hC : gC p l s m args meth c cX8_decide 6 RX8 (some .int) Z)   (M : gM) (a1 : Int32) (a2 : Int32) (a3 : Int32) (a4 : Int32) (t1 : Int32) (t2 : Int32) (t3 : Int32) (t4 : Int32) : gW p l e rm_X8_decide s m args below meth c 6 Z 1 2 2 M 106 [(0, .ref (zad Z 0)), (1, .int a1), (2, .int a2), (3, .int a3), (4, .int a4)] [.int t4, .int t3, .int t2, .int t1, .ref (zad Z 0)] (f_X8_decide_b106  M a1 a2 a3 a4 t1 t2 t3 t4) := by
  unfold f_X8_decide_b106
  refine g_callVi (n := 4) hC [.int t1, .int t2, .int t3, .int t4] 0 8 (by decide) rfl rfl (fun hne => c_X8_enter hC.2.2.2.2.2.2.2.1 Z M t1 t2 t3 t4 hne) lk_X8_205 mw_X8_enter.1 mw_X8_enter.2.1 mw_X8_enter.2.2.1 mw_X8_enter.2.2.2 ⟨rfl, by decide, by decide, by decide +kernel⟩ rfl rfl ⟨by decide, by decide⟩ rfl rfl (Nat.le_of_ble_eq_true rfl) (by decide) (by decide) (by decide) dX8_decide_106 (fun x2 M1 => ?_)
  refine g_istore hC (lv1 := [(5, .int x2), (0, .ref (zad Z 0)), (1, .int a1), (2, .int a2), (3, .int a3), (4, .int a4)]) dX8_decide_109 (by decide) rfl ?_
  refine g_aload_n hC 1 dX8_decide_111 rfl rfl ?_
  refine gf_X8_26 hC dX8_decide_112 ?_
  refine gf_X8_195 hC dX8_decide_115 ?_
  refine g_iload_n hC 2 dX8_decide_118 rfl rfl ?_
  refine g_iload_n hC 3 dX8_decide_119 rfl rfl ?_
  refine g_callSi (n := 1) hC [.int a2] (fun hne => c_X8_stateByDecision hC.2.2.2.2.2.2.2.1 Z M1 a2 hne) lk_X8_284 mw_X8_stateByDecision.1 mw_X8_stateByDecision.2.1 mw_X8_stateByDecision.2.2 ⟨by decide, by decide, by decide +kernel⟩ rfl rfl ⟨by decide, by decide⟩ rfl rfl (Nat.le_of_ble_eq_true rfl) (by decide) (by decide) (by decide) dX8_decide_120 (fun x4 M3 => ?_)
  refine g_iast hC 51 (by decide) rfl dX8_decide_123 (fun M5 => ?_)
  refine g_iload_n hC 3 dX8_decide_124 rfl rfl ?_
  refine g_iconst hC (v := 2) dX8_decide_125 (by decide) ?_
  refine g_icmp_ne (tgt := 164) hC dX8_decide_126 (by decide) (fun _ => ?_) (fun _ => ?_)
  · refine g_aload_n hC 1 dX8_decide_129 rfl rfl ?_
    refine gf_X8_26 hC dX8_decide_130 ?_
    refine gf_X8_243 hC dX8_decide_133 ?_
    refine g_iload_n hC 2 dX8_decide_136 rfl rfl ?_
    refine g_iload_n hC 4 dX8_decide_137 rfl rfl ?_
    refine g_iast hC 52 (by decide) rfl dX8_decide_138 (fun M6 => ?_)
    refine g_iload hC 5 dX8_decide_139 rfl ?_
    refine g_iconst hC (v := (-1)) dX8_decide_141 (by decide) ?_
    refine g_icmp_eq (tgt := 164) hC dX8_decide_142 (by decide) (fun _ => ?_) (fun _ => ?_)
    · refine g_iload hC 0 dX8_decide_164 rfl ?_
      exact g_iret hC rfl (by decide) dX8_decide_166
    · refine g_aload_n hC 1 dX8_decide_145 rfl rfl ?_
      refine gf_X8_26 hC dX8_decide_146 ?_
      refine gf_X8_235 hC dX8_decide_149 ?_
      refine g_iload_n hC 2 dX8_decide_152 rfl rfl ?_
      refine g_aload_n hC 1 dX8_decide_153 rfl rfl ?_
      refine gf_X8_33 hC dX8_decide_154 ?_
      refine gf_X8_264 hC dX8_decide_157 ?_
      refine g_iload hC 5 dX8_decide_160 rfl ?_
      refine g_iald hC 60 (by decide) rfl dX8_decide_162 ?_
      refine g_iast hC 50 (by decide) rfl dX8_decide_163 (fun M7 => ?_)
      refine g_iload hC 0 dX8_decide_164 rfl ?_
      exact g_iret hC rfl (by decide) dX8_decide_166
  · refine g_iload hC 0 dX8_decide_164 rfl ?_
    exact g_iret hC rfl (by decide) dX8_decide_166
set_option maxRecDepth 20000 in
set_option maxHeartbeats 4000000 in
theorem g_X8_decide_b77 {p : Program} {l : Launch} {e : Env} {s : State} {m : MethodId} {args : Array Value} {below : List Frame} {meth : Method} {c : Code} {Z : gZ} (hC : gC p l s m args meth c cX8_decide 6 RX8 (some .int) Z)   (M : gM) (a1 : Int32) (a2 : Int32) (a3 : Int32) (t1 : Int32) : gW p l e rm_X8_decide s m args below meth c 6 Z 1 2 1 M 77 [(0, .ref (zad Z 0)), (1, .int a1), (2, .int a2), (3, .int a3)] [.int t1, .ref (zad Z 0)] (f_X8_decide_b77  M a1 a2 a3 t1) := by
  unfold f_X8_decide_b77
  refine g_callVv (n := 1) hC [.int t1] 0 8 (by decide) rfl rfl (fun hne => c_X8_allow hC.2.2.2.2.2.2.2.1 Z M t1 hne) lk_X8_201 mw_X8_allow.1 mw_X8_allow.2.1 mw_X8_allow.2.2.1 mw_X8_allow.2.2.2 ⟨rfl, by decide, by decide, by decide +kernel⟩ rfl rfl ⟨by decide, by decide⟩ rfl rfl (Nat.le_of_ble_eq_true rfl) (by decide) (by decide) (by decide) dX8_decide_77 (fun M8 => ?_)
  refine g_aload_n hC 0 dX8_decide_80 rfl rfl ?_
  refine gf_X8_33 hC dX8_decide_81 ?_
  refine g_iconst hC (v := 5) dX8_decide_84 (by decide) ?_
  refine g_iload_n hC 1 dX8_decide_85 rfl rfl ?_
  refine g_callVi (n := 2) hC [.int 5, .int a1] 4 3 (by decide) rfl rfl (fun hne => c_X3_latest hC.2.2.2.2.2.2.2.1 Z M8 5 a1 hne) lk_X8_280 mw_X3_latest.1 mw_X3_latest.2.1 mw_X3_latest.2.2.1 mw_X3_latest.2.2.2 ⟨rfl, by decide, by decide, by decide +kernel⟩ rfl rfl ⟨by decide, by decide⟩ rfl rfl (Nat.le_of_ble_eq_true rfl) (by decide) (by decide) (by decide) dX8_decide_86 (fun x11 M10 => ?_)
  refine g_istore hC (lv1 := [(4, .int x11), (0, .ref (zad Z 0)), (1, .int a1), (2, .int a2), (3, .int a3)]) dX8_decide_89 (by decide) rfl ?_
  refine g_aload_n hC 1 dX8_decide_91 rfl rfl ?_
  refine g_bipush hC (v := 8) dX8_decide_92 (by decide) ?_
  refine g_iload_n hC 2 dX8_decide_94 rfl rfl ?_
  refine g_iload_n hC 3 dX8_decide_95 rfl rfl ?_
  refine g_iload_n hC 3 dX8_decide_96 rfl rfl ?_
  refine g_iconst hC (v := 2) dX8_decide_97 (by decide) ?_
  refine g_icmp_ne (tgt := 105) hC dX8_decide_98 (by decide) (fun _ => ?_) (fun _ => ?_)
  · refine g_iload_n hC 4 dX8_decide_101 rfl rfl ?_
    refine g_goto (tgt := 106) hC dX8_decide_102 (by decide) ?_
    refine g_sub (lv1 := [(0, .ref (zad Z 0)), (1, .int a1), (2, .int a2), (3, .int a3), (4, .int x11)]) [1, 2, 3, 4, 0] rfl ?_
    exact g_X8_decide_b106 hC  M10 a1 a2 a3 x11 8 a1 a2 a3
  · refine g_iconst hC (v := 0) dX8_decide_105 (by decide) ?_
    refine g_sub (lv1 := [(0, .ref (zad Z 0)), (1, .int a1), (2, .int a2), (3, .int a3), (4, .int x11)]) [1, 2, 3, 4, 0] rfl ?_
    exact g_X8_decide_b106 hC  M10 a1 a2 a3 x11 8 a1 a2 0
set_option maxRecDepth 20000 in
set_option maxHeartbeats 4000000 in
theorem g_X8_decide_b58 {p : Program} {l : Launch} {e : Env} {s : State} {m : MethodId} {args : Array Value} {below : List Frame} {meth : Method} {c : Code} {Z : gZ} (hC : gC p l s m args meth c cX8_decide 6 RX8 (some .int) Z)   (M : gM) (a1 : Int32) (a2 : Int32) (a3 : Int32)  : gW p l e rm_X8_decide s m args below meth c 6 Z 1 2 1 M 58 [(0, .ref (zad Z 0)), (1, .int a1), (2, .int a2), (3, .int a3)] [] (f_X8_decide_b58  M a1 a2 a3 ) := by
  unfold f_X8_decide_b58
  refine g_aload_n hC 0 dX8_decide_58 rfl rfl ?_
  refine g_aload_n hC 0 dX8_decide_59 rfl rfl ?_
  refine gf_X8_26 hC dX8_decide_60 ?_
  refine gf_X8_195 hC dX8_decide_63 ?_
  refine g_iload_n hC 1 dX8_decide_66 rfl rfl ?_
  refine g_iald hC 51 (by decide) rfl dX8_decide_67 ?_
  refine g_iconst hC (v := 3) dX8_decide_68 (by decide) ?_
  refine g_icmp_ne (tgt := 76) hC dX8_decide_69 (by decide) (fun _ => ?_) (fun _ => ?_)
  · refine g_iconst hC (v := 1) dX8_decide_72 (by decide) ?_
    refine g_goto (tgt := 77) hC dX8_decide_73 (by decide) ?_
    exact g_X8_decide_b77 hC  M a1 a2 a3 1
  · refine g_iconst hC (v := 0) dX8_decide_76 (by decide) ?_
    exact g_X8_decide_b77 hC  M a1 a2 a3 0
set_option maxRecDepth 20000 in
set_option maxHeartbeats 4000000 in
theorem c_X8_decide {l : Launch} (hfl : l.stackTraces = false) (Z : gZ) (M : gM) (a1 : Int32) (a2 : Int32) (a3 : Int32) : gMet l yX8_decide cX8_decide 6 (some .int) rm_X8_decide 1 2 Z M [.ref (zad Z 0), .int a1, .int a2, .int a3] (f_X8_decide M a1 a2 a3) := by
  refine g_enter hfl (by decide) (Nat.le_of_ble_eq_true rfl) (fun p e s m args below meth c hC => ?_)
  refine g_eq (F := f_X8_decide M a1 a2 a3) rfl ?_
  refine g_lv0 (lv1 := [(0, .ref (zad Z 0)), (1, .int a1), (2, .int a2), (3, .int a3)]) rfl ?_
  unfold f_X8_decide
  refine g_aload_n hC 0 dX8_decide_0 rfl rfl ?_
  refine g_iload_n hC 1 dX8_decide_1 rfl rfl ?_
  refine g_callVv (n := 1) hC [.int a1] 0 8 (by decide) rfl rfl (fun hne => c_X8_checkClaim hC.2.2.2.2.2.2.2.1 Z M a1 hne) lk_X8_169 mw_X8_checkClaim.1 mw_X8_checkClaim.2.1 mw_X8_checkClaim.2.2.1 mw_X8_checkClaim.2.2.2 ⟨rfl, by decide, by decide, by decide +kernel⟩ rfl rfl ⟨by decide, by decide⟩ rfl rfl (Nat.le_of_ble_eq_true rfl) (by decide) (by decide) (by decide) dX8_decide_2 (fun M12 => ?_)
  refine g_iload_n hC 2 dX8_decide_5 rfl rfl ?_
  refine g_if_lt (tgt := 14) hC dX8_decide_6 (by decide) (fun _ => ?_) (fun _ => ?_)
  · exact g_throwSW (text := "outcome out of range") hC 1 (by decide) thr_c1 thr_i1 (by decide) thr_a1 thr_n1 thr_g1 (by decide) (by decide) (Nat.le_of_ble_eq_true rfl) (by decide) (by decide) (by decide) dX8_decide_14 dX8_decide_17 dX8_decide_18 dX8_decide_21 dX8_decide_24
  · refine g_iload_n hC 2 dX8_decide_9 rfl rfl ?_
    refine g_iconst hC (v := 2) dX8_decide_10 (by decide) ?_
    refine g_icmp_le (tgt := 25) hC dX8_decide_11 (by decide) (fun _ => ?_) (fun _ => ?_)
    · refine g_iload_n hC 2 dX8_decide_25 rfl rfl ?_
      refine g_iconst hC (v := 2) dX8_decide_26 (by decide) ?_
      refine g_icmp_ne (tgt := 58) hC dX8_decide_27 (by decide) (fun _ => ?_) (fun _ => ?_)
      · refine g_iload_n hC 3 dX8_decide_30 rfl rfl ?_
        refine g_if_lt (tgt := 47) hC dX8_decide_31 (by decide) (fun _ => ?_) (fun _ => ?_)
        · exact g_throwSW (text := "cap out of range") hC 1 (by decide) thr_c1 thr_i1 (by decide) thr_a1 thr_n1 thr_g1 (by decide) (by decide) (Nat.le_of_ble_eq_true rfl) (by decide) (by decide) (by decide) dX8_decide_47 dX8_decide_50 dX8_decide_51 dX8_decide_54 dX8_decide_57
        · refine g_iload_n hC 3 dX8_decide_34 rfl rfl ?_
          refine g_aload_n hC 0 dX8_decide_35 rfl rfl ?_
          refine gf_X8_26 hC dX8_decide_36 ?_
          refine gf_X8_235 hC dX8_decide_39 ?_
          refine g_iload_n hC 1 dX8_decide_42 rfl rfl ?_
          refine g_iald hC 50 (by decide) rfl dX8_decide_43 ?_
          refine g_icmp_le (tgt := 58) hC dX8_decide_44 (by decide) (fun _ => ?_) (fun _ => ?_)
          · exact g_X8_decide_b58 hC  M12 a1 a2 a3
          · exact g_throwSW (text := "cap out of range") hC 1 (by decide) thr_c1 thr_i1 (by decide) thr_a1 thr_n1 thr_g1 (by decide) (by decide) (Nat.le_of_ble_eq_true rfl) (by decide) (by decide) (by decide) dX8_decide_47 dX8_decide_50 dX8_decide_51 dX8_decide_54 dX8_decide_57
      · exact g_X8_decide_b58 hC  M12 a1 a2 a3
    · exact g_throwSW (text := "outcome out of range") hC 1 (by decide) thr_c1 thr_i1 (by decide) thr_a1 thr_n1 thr_g1 (by decide) (by decide) (Nat.le_of_ble_eq_true rfl) (by decide) (by decide) (by decide) dX8_decide_14 dX8_decide_17 dX8_decide_18 dX8_decide_21 dX8_decide_24

-- ===== X8_settle =====
def f_X8_settle_b35  (M : gM) (a1 : Int32) (t1 : Int32) : gR := (rb (f_X8_allow M t1) (fun _ M1 => (rb (f_X8_enter M1 9 a1 0 0) (fun x4 M3 => (gI a1 24 (bM (gset M3 51 a1.toNatClampNeg 4) (fun M5 => (rRet x4 M5))))))))
def f_X8_settle_b30  (M : gM) (a1 : Int32)  : gR := (f_X8_settle_b35  M a1 1)
def f_X8_settle (M : gM) (a1 : Int32) : gR := (rb (f_X8_checkClaim M a1) (fun _ M6 => (gI a1 24 (bV (M6 51 a1.toNatClampNeg) (fun x8 => (if x8 = 0 then (f_X8_settle_b30  M6 a1 ) else (if x8 = 2 then (f_X8_settle_b30  M6 a1 ) else (if x8 = 3 then (f_X8_settle_b30  M6 a1 ) else (f_X8_settle_b35  M6 a1 0)))))))))
abbrev rm_X8_settle : Room := { frames := 7, cells := 2, slots := 12, locals := 111 }
set_option maxRecDepth 20000 in
set_option maxHeartbeats 4000000 in
theorem g_X8_settle_b35 {p : Program} {l : Launch} {e : Env} {s : State} {m : MethodId} {args : Array Value} {below : List Frame} {meth : Method} {c : Code} {Z : gZ} (hC : gC p l s m args meth c cX8_settle 4 RX8 (some .int) Z)   (M : gM) (a1 : Int32) (t1 : Int32) : gW p l e rm_X8_settle s m args below meth c 4 Z 1 2 1 M 35 [(0, .ref (zad Z 0)), (1, .int a1)] [.int t1, .ref (zad Z 0)] (f_X8_settle_b35  M a1 t1) := by
  unfold f_X8_settle_b35
  refine g_callVv (n := 1) hC [.int t1] 0 8 (by decide) rfl rfl (fun hne => c_X8_allow hC.2.2.2.2.2.2.2.1 Z M t1 hne) lk_X8_201 mw_X8_allow.1 mw_X8_allow.2.1 mw_X8_allow.2.2.1 mw_X8_allow.2.2.2 ⟨rfl, by decide, by decide, by decide +kernel⟩ rfl rfl ⟨by decide, by decide⟩ rfl rfl (Nat.le_of_ble_eq_true rfl) (by decide) (by decide) (by decide) dX8_settle_35 (fun M1 => ?_)
  refine g_aload_n hC 0 dX8_settle_38 rfl rfl ?_
  refine g_bipush hC (v := 9) dX8_settle_39 (by decide) ?_
  refine g_iload_n hC 1 dX8_settle_41 rfl rfl ?_
  refine g_iconst hC (v := 0) dX8_settle_42 (by decide) ?_
  refine g_iconst hC (v := 0) dX8_settle_43 (by decide) ?_
  refine g_callVi (n := 4) hC [.int 9, .int a1, .int 0, .int 0] 0 8 (by decide) rfl rfl (fun hne => c_X8_enter hC.2.2.2.2.2.2.2.1 Z M1 9 a1 0 0 hne) lk_X8_205 mw_X8_enter.1 mw_X8_enter.2.1 mw_X8_enter.2.2.1 mw_X8_enter.2.2.2 ⟨rfl, by decide, by decide, by decide +kernel⟩ rfl rfl ⟨by decide, by decide⟩ rfl rfl (Nat.le_of_ble_eq_true rfl) (by decide) (by decide) (by decide) dX8_settle_44 (fun x4 M3 => ?_)
  refine g_istore_n hC (lv1 := [(3, .int x4), (0, .ref (zad Z 0)), (1, .int a1)]) dX8_settle_47 rfl (by decide) rfl ?_
  refine g_aload_n hC 1 dX8_settle_48 rfl rfl ?_
  refine gf_X8_26 hC dX8_settle_49 ?_
  refine gf_X8_195 hC dX8_settle_52 ?_
  refine g_iload_n hC 2 dX8_settle_55 rfl rfl ?_
  refine g_iconst hC (v := 4) dX8_settle_56 (by decide) ?_
  refine g_iast hC 51 (by decide) rfl dX8_settle_57 (fun M5 => ?_)
  refine g_iload_n hC 0 dX8_settle_58 rfl rfl ?_
  exact g_iret hC rfl (by decide) dX8_settle_59
set_option maxRecDepth 20000 in
set_option maxHeartbeats 4000000 in
theorem g_X8_settle_b30 {p : Program} {l : Launch} {e : Env} {s : State} {m : MethodId} {args : Array Value} {below : List Frame} {meth : Method} {c : Code} {Z : gZ} (hC : gC p l s m args meth c cX8_settle 4 RX8 (some .int) Z)   (M : gM) (a1 : Int32)  : gW p l e rm_X8_settle s m args below meth c 4 Z 1 2 1 M 30 [(0, .ref (zad Z 0)), (1, .int a1)] [.ref (zad Z 0)] (f_X8_settle_b30  M a1 ) := by
  unfold f_X8_settle_b30
  refine g_iconst hC (v := 1) dX8_settle_30 (by decide) ?_
  refine g_goto (tgt := 35) hC dX8_settle_31 (by decide) ?_
  exact g_X8_settle_b35 hC  M a1 1
set_option maxRecDepth 20000 in
set_option maxHeartbeats 4000000 in
theorem c_X8_settle {l : Launch} (hfl : l.stackTraces = false) (Z : gZ) (M : gM) (a1 : Int32) : gMet l yX8_settle cX8_settle 4 (some .int) rm_X8_settle 1 2 Z M [.ref (zad Z 0), .int a1] (f_X8_settle M a1) := by
  refine g_enter hfl (by decide) (Nat.le_of_ble_eq_true rfl) (fun p e s m args below meth c hC => ?_)
  refine g_eq (F := f_X8_settle M a1) rfl ?_
  refine g_lv0 (lv1 := [(0, .ref (zad Z 0)), (1, .int a1)]) rfl ?_
  unfold f_X8_settle
  refine g_aload_n hC 0 dX8_settle_0 rfl rfl ?_
  refine g_iload_n hC 1 dX8_settle_1 rfl rfl ?_
  refine g_callVv (n := 1) hC [.int a1] 0 8 (by decide) rfl rfl (fun hne => c_X8_checkClaim hC.2.2.2.2.2.2.2.1 Z M a1 hne) lk_X8_169 mw_X8_checkClaim.1 mw_X8_checkClaim.2.1 mw_X8_checkClaim.2.2.1 mw_X8_checkClaim.2.2.2 ⟨rfl, by decide, by decide, by decide +kernel⟩ rfl rfl ⟨by decide, by decide⟩ rfl rfl (Nat.le_of_ble_eq_true rfl) (by decide) (by decide) (by decide) dX8_settle_2 (fun M6 => ?_)
  refine g_aload_n hC 0 dX8_settle_5 rfl rfl ?_
  refine gf_X8_26 hC dX8_settle_6 ?_
  refine gf_X8_195 hC dX8_settle_9 ?_
  refine g_iload_n hC 1 dX8_settle_12 rfl rfl ?_
  refine g_iald hC 51 (by decide) rfl dX8_settle_13 ?_
  refine g_bv (fun x8 => ?_)
  refine g_istore_n hC (lv1 := [(2, .int x8), (0, .ref (zad Z 0)), (1, .int a1)]) dX8_settle_14 rfl (by decide) rfl ?_
  refine g_aload_n hC 1 dX8_settle_15 rfl rfl ?_
  refine g_iload_n hC 0 dX8_settle_16 rfl rfl ?_
  refine g_if_eq (tgt := 30) hC dX8_settle_17 (by decide) (fun _ => ?_) (fun _ => ?_)
  · refine g_sub (lv1 := [(0, .ref (zad Z 0)), (1, .int a1)]) [1, 2] rfl ?_
    exact g_X8_settle_b30 hC  M6 a1 
  · refine g_iload_n hC 0 dX8_settle_20 rfl rfl ?_
    refine g_iconst hC (v := 2) dX8_settle_21 (by decide) ?_
    refine g_icmp_eq (tgt := 30) hC dX8_settle_22 (by decide) (fun _ => ?_) (fun _ => ?_)
    · refine g_sub (lv1 := [(0, .ref (zad Z 0)), (1, .int a1)]) [1, 2] rfl ?_
      exact g_X8_settle_b30 hC  M6 a1 
    · refine g_iload_n hC 0 dX8_settle_25 rfl rfl ?_
      refine g_iconst hC (v := 3) dX8_settle_26 (by decide) ?_
      refine g_icmp_ne (tgt := 34) hC dX8_settle_27 (by decide) (fun _ => ?_) (fun _ => ?_)
      · refine g_sub (lv1 := [(0, .ref (zad Z 0)), (1, .int a1)]) [1, 2] rfl ?_
        exact g_X8_settle_b30 hC  M6 a1 
      · refine g_iconst hC (v := 0) dX8_settle_34 (by decide) ?_
        refine g_sub (lv1 := [(0, .ref (zad Z 0)), (1, .int a1)]) [1, 2] rfl ?_
        exact g_X8_settle_b35 hC  M6 a1 0

-- ===== X8_owed =====
def f_X8_owed (M : gM) (a0 : Int32) (a1 : Int32) (a2 : Int32) : gR := (gNz 30 (bV ((a2 - a1) / 30) (fun x1 => (gNz 100 (rRet (a0 + ((a0 * x1) / 100)) M)))))
abbrev rm_X8_owed : Room := { frames := 0, cells := 0, slots := 0, locals := 0 }
set_option maxRecDepth 20000 in
set_option maxHeartbeats 4000000 in
theorem c_X8_owed {l : Launch} (hfl : l.stackTraces = false) (Z : gZ) (M : gM) (a0 : Int32) (a1 : Int32) (a2 : Int32) : gMet l yX8_owed cX8_owed 4 (some .int) rm_X8_owed 1 0 Z M [.int a0, .int a1, .int a2] (f_X8_owed M a0 a1 a2) := by
  refine g_enter hfl (by decide) (Nat.le_of_ble_eq_true rfl) (fun p e s m args below meth c hC => ?_)
  refine g_eq (F := f_X8_owed M a0 a1 a2) rfl ?_
  refine g_lv0 (lv1 := [(0, .int a0), (1, .int a1), (2, .int a2)]) rfl ?_
  unfold f_X8_owed
  refine g_iload_n hC 2 dX8_owed_0 rfl rfl ?_
  refine g_iload_n hC 1 dX8_owed_1 rfl rfl ?_
  refine g_isub hC dX8_owed_2 ?_
  refine g_bipush hC (v := 30) dX8_owed_3 (by decide) ?_
  refine g_idiv hC dX8_owed_5 ?_
  refine g_bv (fun x1 => ?_)
  refine g_istore_n hC (lv1 := [(3, .int x1), (0, .int a0), (1, .int a1), (2, .int a2)]) dX8_owed_6 rfl (by decide) rfl ?_
  refine g_iload_n hC 1 dX8_owed_7 rfl rfl ?_
  refine g_iload_n hC 1 dX8_owed_8 rfl rfl ?_
  refine g_iload_n hC 0 dX8_owed_9 rfl rfl ?_
  refine g_imul hC dX8_owed_10 ?_
  refine g_bipush hC (v := 100) dX8_owed_11 (by decide) ?_
  refine g_idiv hC dX8_owed_13 ?_
  refine g_iadd hC dX8_owed_14 ?_
  exact g_iret hC rfl (by decide) dX8_owed_15

-- ===== X8_balanceNow =====
def f_X8_balanceNow (M : gM) (a1 : Int32) : gR := (rb (f_X3_latest M 5 a1) (fun x2 M1 => (gI a1 24 (if (M1 51 a1.toNatClampNeg) = 2 then (if x2 = (-1) then (rRet 0 M1) else (gI a1 24 (gI x2 160 (rb (f_X8_owed M1 (M1 50 a1.toNatClampNeg) (M1 56 x2.toNatClampNeg) (M1 1 0)) (fun x4 M3 => (gI a1 24 (rRet (x4 - (M3 53 a1.toNatClampNeg)) M3))))))) else (rRet 0 M1)))))
abbrev rm_X8_balanceNow : Room := { frames := 1, cells := 0, slots := 0, locals := 23 }
set_option maxRecDepth 20000 in
set_option maxHeartbeats 4000000 in
theorem c_X8_balanceNow {l : Launch} (hfl : l.stackTraces = false) (Z : gZ) (M : gM) (a1 : Int32) : gMet l yX8_balanceNow cX8_balanceNow 3 (some .int) rm_X8_balanceNow 1 0 Z M [.ref (zad Z 0), .int a1] (f_X8_balanceNow M a1) := by
  refine g_enter hfl (by decide) (Nat.le_of_ble_eq_true rfl) (fun p e s m args below meth c hC => ?_)
  refine g_eq (F := f_X8_balanceNow M a1) rfl ?_
  refine g_lv0 (lv1 := [(0, .ref (zad Z 0)), (1, .int a1)]) rfl ?_
  unfold f_X8_balanceNow
  refine g_aload_n hC 0 dX8_balanceNow_0 rfl rfl ?_
  refine gf_X8_33 hC dX8_balanceNow_1 ?_
  refine g_iconst hC (v := 5) dX8_balanceNow_4 (by decide) ?_
  refine g_iload_n hC 1 dX8_balanceNow_5 rfl rfl ?_
  refine g_callVi (n := 2) hC [.int 5, .int a1] 4 3 (by decide) rfl rfl (fun hne => c_X3_latest hC.2.2.2.2.2.2.2.1 Z M 5 a1 hne) lk_X8_280 mw_X3_latest.1 mw_X3_latest.2.1 mw_X3_latest.2.2.1 mw_X3_latest.2.2.2 ⟨rfl, by decide, by decide, by decide +kernel⟩ rfl rfl ⟨by decide, by decide⟩ rfl rfl (Nat.le_of_ble_eq_true rfl) (by decide) (by decide) (by decide) dX8_balanceNow_6 (fun x2 M1 => ?_)
  refine g_istore_n hC (lv1 := [(2, .int x2), (0, .ref (zad Z 0)), (1, .int a1)]) dX8_balanceNow_9 rfl (by decide) rfl ?_
  refine g_aload_n hC 1 dX8_balanceNow_10 rfl rfl ?_
  refine gf_X8_26 hC dX8_balanceNow_11 ?_
  refine gf_X8_195 hC dX8_balanceNow_14 ?_
  refine g_iload_n hC 2 dX8_balanceNow_17 rfl rfl ?_
  refine g_iald hC 51 (by decide) rfl dX8_balanceNow_18 ?_
  refine g_iconst hC (v := 2) dX8_balanceNow_19 (by decide) ?_
  refine g_icmp_ne (tgt := 28) hC dX8_balanceNow_20 (by decide) (fun _ => ?_) (fun _ => ?_)
  · refine g_iload_n hC 0 dX8_balanceNow_23 rfl rfl ?_
    refine g_iconst hC (v := (-1)) dX8_balanceNow_24 (by decide) ?_
    refine g_icmp_ne (tgt := 30) hC dX8_balanceNow_25 (by decide) (fun _ => ?_) (fun _ => ?_)
    · refine g_iconst hC (v := 0) dX8_balanceNow_28 (by decide) ?_
      exact g_iret hC rfl (by decide) dX8_balanceNow_29
    · refine g_aload_n hC 1 dX8_balanceNow_30 rfl rfl ?_
      refine gf_X8_26 hC dX8_balanceNow_31 ?_
      refine gf_X8_235 hC dX8_balanceNow_34 ?_
      refine g_iload_n hC 2 dX8_balanceNow_37 rfl rfl ?_
      refine g_iald hC 50 (by decide) rfl dX8_balanceNow_38 ?_
      refine g_aload_n hC 1 dX8_balanceNow_39 rfl rfl ?_
      refine gf_X8_33 hC dX8_balanceNow_40 ?_
      refine gf_X8_440 hC dX8_balanceNow_43 ?_
      refine g_iload_n hC 0 dX8_balanceNow_46 rfl rfl ?_
      refine g_iald hC 56 (by decide) rfl dX8_balanceNow_47 ?_
      refine g_aload_n hC 1 dX8_balanceNow_48 rfl rfl ?_
      refine gf_X8_12 hC dX8_balanceNow_49 ?_
      refine gf_X8_69 hC dX8_balanceNow_52 ?_
      refine g_callSi (n := 3) hC [.int (M1 50 a1.toNatClampNeg), .int (M1 56 x2.toNatClampNeg), .int (M1 1 0)] (fun hne => c_X8_owed hC.2.2.2.2.2.2.2.1 Z M1 (M1 50 a1.toNatClampNeg) (M1 56 x2.toNatClampNeg) (M1 1 0) hne) lk_X8_472 mw_X8_owed.1 mw_X8_owed.2.1 mw_X8_owed.2.2 ⟨by decide, by decide, by decide +kernel⟩ rfl rfl ⟨by decide, by decide⟩ rfl rfl (Nat.le_of_ble_eq_true rfl) (by decide) (by decide) (by decide) dX8_balanceNow_55 (fun x4 M3 => ?_)
      refine g_aload_n hC 1 dX8_balanceNow_58 rfl rfl ?_
      refine gf_X8_26 hC dX8_balanceNow_59 ?_
      refine gf_X8_267 hC dX8_balanceNow_62 ?_
      refine g_iload_n hC 2 dX8_balanceNow_65 rfl rfl ?_
      refine g_iald hC 53 (by decide) rfl dX8_balanceNow_66 ?_
      refine g_isub hC dX8_balanceNow_67 ?_
      exact g_iret hC rfl (by decide) dX8_balanceNow_68
  · refine g_iconst hC (v := 0) dX8_balanceNow_28 (by decide) ?_
    exact g_iret hC rfl (by decide) dX8_balanceNow_29

-- ===== X8_pay =====
def f_X8_pay_b41  (M : gM) (a1 : Int32) (a2 : Int32) (t1 : Int32) : gR := (rb (f_X8_allow M t1) (fun _ M1 => (rb (f_X8_enter M1 10 a1 a2 0) (fun x4 M3 => (gI a1 24 (gI a1 24 (bM (gset M3 53 a1.toNatClampNeg ((M3 53 a1.toNatClampNeg) + a2)) (fun M5 => (rb (f_X8_balanceNow M5 a1) (fun x7 M6 => (if x7 = 0 then (gI a1 24 (bM (gset M6 51 a1.toNatClampNeg 5) (fun M8 => (rRet x7 M8)))) else (rRet x7 M6))))))))))))
def f_X8_pay_b40  (M : gM) (a1 : Int32) (a2 : Int32)  : gR := (f_X8_pay_b41  M a1 a2 0)
def f_X8_pay (M : gM) (a1 : Int32) (a2 : Int32) : gR := (rb (f_X8_checkClaim M a1) (fun _ M9 => (rb (f_X8_checkAmount M9 a2 999999) (fun _ M11 => (gI a1 24 (if (M11 51 a1.toNatClampNeg) = 2 then (rb (f_X8_balanceNow M11 a1) (fun x14 M13 => (if x14 < a2 then (f_X8_pay_b40  M13 a1 a2 ) else (f_X8_pay_b41  M13 a1 a2 1)))) else (f_X8_pay_b40  M11 a1 a2 )))))))
abbrev rm_X8_pay : Room := { frames := 7, cells := 3, slots := 18, locals := 112 }
set_option maxRecDepth 20000 in
set_option maxHeartbeats 4000000 in
theorem g_X8_pay_b41 {p : Program} {l : Launch} {e : Env} {s : State} {m : MethodId} {args : Array Value} {below : List Frame} {meth : Method} {c : Code} {Z : gZ} (hC : gC p l s m args meth c cX8_pay 4 RX8 (some .int) Z)   (M : gM) (a1 : Int32) (a2 : Int32) (t1 : Int32) : gW p l e rm_X8_pay s m args below meth c 4 Z 1 3 2 M 41 [(0, .ref (zad Z 0)), (1, .int a1), (2, .int a2)] [.int t1, .ref (zad Z 0)] (f_X8_pay_b41  M a1 a2 t1) := by
  unfold f_X8_pay_b41
  refine g_callVv (n := 1) hC [.int t1] 0 8 (by decide) rfl rfl (fun hne => c_X8_allow hC.2.2.2.2.2.2.2.1 Z M t1 hne) lk_X8_201 mw_X8_allow.1 mw_X8_allow.2.1 mw_X8_allow.2.2.1 mw_X8_allow.2.2.2 ⟨rfl, by decide, by decide, by decide +kernel⟩ rfl rfl ⟨by decide, by decide⟩ rfl rfl (Nat.le_of_ble_eq_true rfl) (by decide) (by decide) (by decide) dX8_pay_41 (fun M1 => ?_)
  refine g_aload_n hC 0 dX8_pay_44 rfl rfl ?_
  refine g_bipush hC (v := 10) dX8_pay_45 (by decide) ?_
  refine g_iload_n hC 1 dX8_pay_47 rfl rfl ?_
  refine g_iload_n hC 2 dX8_pay_48 rfl rfl ?_
  refine g_iconst hC (v := 0) dX8_pay_49 (by decide) ?_
  refine g_callVi (n := 4) hC [.int 10, .int a1, .int a2, .int 0] 0 8 (by decide) rfl rfl (fun hne => c_X8_enter hC.2.2.2.2.2.2.2.1 Z M1 10 a1 a2 0 hne) lk_X8_205 mw_X8_enter.1 mw_X8_enter.2.1 mw_X8_enter.2.2.1 mw_X8_enter.2.2.2 ⟨rfl, by decide, by decide, by decide +kernel⟩ rfl rfl ⟨by decide, by decide⟩ rfl rfl (Nat.le_of_ble_eq_true rfl) (by decide) (by decide) (by decide) dX8_pay_50 (fun x4 M3 => ?_)
  refine g_pop hC dX8_pay_53 rfl ?_
  refine g_aload_n hC 0 dX8_pay_54 rfl rfl ?_
  refine gf_X8_26 hC dX8_pay_55 ?_
  refine gf_X8_267 hC dX8_pay_58 ?_
  refine g_iload_n hC 1 dX8_pay_61 rfl rfl ?_
  refine g_dup2 hC dX8_pay_62 rfl rfl ?_
  refine g_iald hC 53 (by decide) rfl dX8_pay_63 ?_
  refine g_iload_n hC 2 dX8_pay_64 rfl rfl ?_
  refine g_iadd hC dX8_pay_65 ?_
  refine g_iast hC 53 (by decide) rfl dX8_pay_66 (fun M5 => ?_)
  refine g_aload_n hC 0 dX8_pay_67 rfl rfl ?_
  refine g_iload_n hC 1 dX8_pay_68 rfl rfl ?_
  refine g_callVi (n := 1) hC [.int a1] 0 8 (by decide) rfl rfl (fun hne => c_X8_balanceNow hC.2.2.2.2.2.2.2.1 Z M5 a1 hne) lk_X8_288 mw_X8_balanceNow.1 mw_X8_balanceNow.2.1 mw_X8_balanceNow.2.2.1 mw_X8_balanceNow.2.2.2 ⟨rfl, by decide, by decide, by decide +kernel⟩ rfl rfl ⟨by decide, by decide⟩ rfl rfl (Nat.le_of_ble_eq_true rfl) (by decide) (by decide) (by decide) dX8_pay_69 (fun x7 M6 => ?_)
  refine g_istore_n hC (lv1 := [(3, .int x7), (0, .ref (zad Z 0)), (1, .int a1), (2, .int a2)]) dX8_pay_72 rfl (by decide) rfl ?_
  refine g_iload_n hC 0 dX8_pay_73 rfl rfl ?_
  refine g_if_ne (tgt := 87) hC dX8_pay_74 (by decide) (fun _ => ?_) (fun _ => ?_)
  · refine g_aload_n hC 1 dX8_pay_77 rfl rfl ?_
    refine gf_X8_26 hC dX8_pay_78 ?_
    refine gf_X8_195 hC dX8_pay_81 ?_
    refine g_iload_n hC 2 dX8_pay_84 rfl rfl ?_
    refine g_iconst hC (v := 5) dX8_pay_85 (by decide) ?_
    refine g_iast hC 51 (by decide) rfl dX8_pay_86 (fun M8 => ?_)
    refine g_iload_n hC 0 dX8_pay_87 rfl rfl ?_
    exact g_iret hC rfl (by decide) dX8_pay_88
  · refine g_iload_n hC 0 dX8_pay_87 rfl rfl ?_
    exact g_iret hC rfl (by decide) dX8_pay_88
set_option maxRecDepth 20000 in
set_option maxHeartbeats 4000000 in
theorem g_X8_pay_b40 {p : Program} {l : Launch} {e : Env} {s : State} {m : MethodId} {args : Array Value} {below : List Frame} {meth : Method} {c : Code} {Z : gZ} (hC : gC p l s m args meth c cX8_pay 4 RX8 (some .int) Z)   (M : gM) (a1 : Int32) (a2 : Int32)  : gW p l e rm_X8_pay s m args below meth c 4 Z 1 3 2 M 40 [(0, .ref (zad Z 0)), (1, .int a1), (2, .int a2)] [.ref (zad Z 0)] (f_X8_pay_b40  M a1 a2 ) := by
  unfold f_X8_pay_b40
  refine g_iconst hC (v := 0) dX8_pay_40 (by decide) ?_
  exact g_X8_pay_b41 hC  M a1 a2 0
set_option maxRecDepth 20000 in
set_option maxHeartbeats 4000000 in
theorem c_X8_pay {l : Launch} (hfl : l.stackTraces = false) (Z : gZ) (M : gM) (a1 : Int32) (a2 : Int32) : gMet l yX8_pay cX8_pay 4 (some .int) rm_X8_pay 1 3 Z M [.ref (zad Z 0), .int a1, .int a2] (f_X8_pay M a1 a2) := by
  refine g_enter hfl (by decide) (Nat.le_of_ble_eq_true rfl) (fun p e s m args below meth c hC => ?_)
  refine g_eq (F := f_X8_pay M a1 a2) rfl ?_
  refine g_lv0 (lv1 := [(0, .ref (zad Z 0)), (1, .int a1), (2, .int a2)]) rfl ?_
  unfold f_X8_pay
  refine g_aload_n hC 0 dX8_pay_0 rfl rfl ?_
  refine g_iload_n hC 1 dX8_pay_1 rfl rfl ?_
  refine g_callVv (n := 1) hC [.int a1] 0 8 (by decide) rfl rfl (fun hne => c_X8_checkClaim hC.2.2.2.2.2.2.2.1 Z M a1 hne) lk_X8_169 mw_X8_checkClaim.1 mw_X8_checkClaim.2.1 mw_X8_checkClaim.2.2.1 mw_X8_checkClaim.2.2.2 ⟨rfl, by decide, by decide, by decide +kernel⟩ rfl rfl ⟨by decide, by decide⟩ rfl rfl (Nat.le_of_ble_eq_true rfl) (by decide) (by decide) (by decide) dX8_pay_2 (fun M9 => ?_)
  refine g_aload_n hC 0 dX8_pay_5 rfl rfl ?_
  refine g_iload_n hC 2 dX8_pay_6 rfl rfl ?_
  refine g_ldcw hC (v := 999999) (gIn (by decide +kernel) (by decide +kernel)) dX8_pay_7 ?_
  refine g_callVv (n := 2) hC [.int a2, .int 999999] 0 8 (by decide) rfl rfl (fun hne => c_X8_checkAmount hC.2.2.2.2.2.2.2.1 Z M9 a2 999999 hne) lk_X8_155 mw_X8_checkAmount.1 mw_X8_checkAmount.2.1 mw_X8_checkAmount.2.2.1 mw_X8_checkAmount.2.2.2 ⟨rfl, by decide, by decide, by decide +kernel⟩ rfl rfl ⟨by decide, by decide⟩ rfl rfl (Nat.le_of_ble_eq_true rfl) (by decide) (by decide) (by decide) dX8_pay_10 (fun M11 => ?_)
  refine g_aload_n hC 0 dX8_pay_13 rfl rfl ?_
  refine g_aload_n hC 0 dX8_pay_14 rfl rfl ?_
  refine gf_X8_26 hC dX8_pay_15 ?_
  refine gf_X8_195 hC dX8_pay_18 ?_
  refine g_iload_n hC 1 dX8_pay_21 rfl rfl ?_
  refine g_iald hC 51 (by decide) rfl dX8_pay_22 ?_
  refine g_iconst hC (v := 2) dX8_pay_23 (by decide) ?_
  refine g_icmp_ne (tgt := 40) hC dX8_pay_24 (by decide) (fun _ => ?_) (fun _ => ?_)
  · refine g_iload_n hC 2 dX8_pay_27 rfl rfl ?_
    refine g_aload_n hC 0 dX8_pay_28 rfl rfl ?_
    refine g_iload_n hC 1 dX8_pay_29 rfl rfl ?_
    refine g_callVi (n := 1) hC [.int a1] 0 8 (by decide) rfl rfl (fun hne => c_X8_balanceNow hC.2.2.2.2.2.2.2.1 Z M11 a1 hne) lk_X8_288 mw_X8_balanceNow.1 mw_X8_balanceNow.2.1 mw_X8_balanceNow.2.2.1 mw_X8_balanceNow.2.2.2 ⟨rfl, by decide, by decide, by decide +kernel⟩ rfl rfl ⟨by decide, by decide⟩ rfl rfl (Nat.le_of_ble_eq_true rfl) (by decide) (by decide) (by decide) dX8_pay_30 (fun x14 M13 => ?_)
    refine g_icmp_gt (tgt := 40) hC dX8_pay_33 (by decide) (fun _ => ?_) (fun _ => ?_)
    · exact g_X8_pay_b40 hC  M13 a1 a2
    · refine g_iconst hC (v := 1) dX8_pay_36 (by decide) ?_
      refine g_goto (tgt := 41) hC dX8_pay_37 (by decide) ?_
      exact g_X8_pay_b41 hC  M13 a1 a2 1
  · exact g_X8_pay_b40 hC  M11 a1 a2

-- ===== X8_stay =====
def f_X8_stay_b38  (M : gM) (a1 : Int32) (a2 : Int32) (t1 : Int32) : gR := (rb (f_X8_enter M t1 a1 0 0) (fun x2 M1 => (rb (f_X0_turnStay M1 a1 a2) (fun _ M3 => (rRet x2 M3)))))
def f_X8_stay_b23  (M : gM) (a1 : Int32) (a2 : Int32) (t1 : Int32) : gR := (rb (f_X8_allow M t1) (fun _ M5 => (if a2 = 0 then (f_X8_stay_b38  M5 a1 a2 12) else (f_X8_stay_b38  M5 a1 a2 11))))
def f_X8_stay (M : gM) (a1 : Int32) (a2 : Int32) : gR := (rb (f_X8_checkCase M a1) (fun _ M7 => (rb (f_X0_isStayOn M7 a1) (fun x10 M9 => (if x10 = a2 then (f_X8_stay_b23  M9 a1 a2 0) else (f_X8_stay_b23  M9 a1 a2 1))))))
abbrev rm_X8_stay : Room := { frames := 7, cells := 2, slots := 12, locals := 111 }
set_option maxRecDepth 20000 in
set_option maxHeartbeats 4000000 in
theorem g_X8_stay_b38 {p : Program} {l : Launch} {e : Env} {s : State} {m : MethodId} {args : Array Value} {below : List Frame} {meth : Method} {c : Code} {Z : gZ} (hC : gC p l s m args meth c cX8_stay 4 RX8 (some .int) Z)   (M : gM) (a1 : Int32) (a2 : Int32) (t1 : Int32) : gW p l e rm_X8_stay s m args below meth c 4 Z 1 2 2 M 38 [(0, .ref (zad Z 0)), (1, .int a1), (2, .int a2)] [.int t1, .ref (zad Z 0)] (f_X8_stay_b38  M a1 a2 t1) := by
  unfold f_X8_stay_b38
  refine g_iload_n hC 1 dX8_stay_38 rfl rfl ?_
  refine g_iconst hC (v := 0) dX8_stay_39 (by decide) ?_
  refine g_iconst hC (v := 0) dX8_stay_40 (by decide) ?_
  refine g_callVi (n := 4) hC [.int t1, .int a1, .int 0, .int 0] 0 8 (by decide) rfl rfl (fun hne => c_X8_enter hC.2.2.2.2.2.2.2.1 Z M t1 a1 0 0 hne) lk_X8_205 mw_X8_enter.1 mw_X8_enter.2.1 mw_X8_enter.2.2.1 mw_X8_enter.2.2.2 ⟨rfl, by decide, by decide, by decide +kernel⟩ rfl rfl ⟨by decide, by decide⟩ rfl rfl (Nat.le_of_ble_eq_true rfl) (by decide) (by decide) (by decide) dX8_stay_41 (fun x2 M1 => ?_)
  refine g_istore_n hC (lv1 := [(3, .int x2), (0, .ref (zad Z 0)), (1, .int a1), (2, .int a2)]) dX8_stay_44 rfl (by decide) rfl ?_
  refine g_aload_n hC 1 dX8_stay_45 rfl rfl ?_
  refine gf_X8_12 hC dX8_stay_46 ?_
  refine g_iload_n hC 2 dX8_stay_49 rfl rfl ?_
  refine g_iload_n hC 3 dX8_stay_50 rfl rfl ?_
  refine g_callVv (n := 2) hC [.int a1, .int a2] 1 0 (by decide) rfl rfl (fun hne => c_X0_turnStay hC.2.2.2.2.2.2.2.1 Z M1 a1 a2 hne) lk_X8_294 mw_X0_turnStay.1 mw_X0_turnStay.2.1 mw_X0_turnStay.2.2.1 mw_X0_turnStay.2.2.2 ⟨rfl, by decide, by decide, by decide +kernel⟩ rfl rfl ⟨by decide, by decide⟩ rfl rfl (Nat.le_of_ble_eq_true rfl) (by decide) (by decide) (by decide) dX8_stay_51 (fun M3 => ?_)
  refine g_iload_n hC 0 dX8_stay_54 rfl rfl ?_
  exact g_iret hC rfl (by decide) dX8_stay_55
set_option maxRecDepth 20000 in
set_option maxHeartbeats 4000000 in
theorem g_X8_stay_b23 {p : Program} {l : Launch} {e : Env} {s : State} {m : MethodId} {args : Array Value} {below : List Frame} {meth : Method} {c : Code} {Z : gZ} (hC : gC p l s m args meth c cX8_stay 4 RX8 (some .int) Z)   (M : gM) (a1 : Int32) (a2 : Int32) (t1 : Int32) : gW p l e rm_X8_stay s m args below meth c 4 Z 1 2 1 M 23 [(0, .ref (zad Z 0)), (1, .int a1), (2, .int a2)] [.int t1, .ref (zad Z 0)] (f_X8_stay_b23  M a1 a2 t1) := by
  unfold f_X8_stay_b23
  refine g_callVv (n := 1) hC [.int t1] 0 8 (by decide) rfl rfl (fun hne => c_X8_allow hC.2.2.2.2.2.2.2.1 Z M t1 hne) lk_X8_201 mw_X8_allow.1 mw_X8_allow.2.1 mw_X8_allow.2.2.1 mw_X8_allow.2.2.2 ⟨rfl, by decide, by decide, by decide +kernel⟩ rfl rfl ⟨by decide, by decide⟩ rfl rfl (Nat.le_of_ble_eq_true rfl) (by decide) (by decide) (by decide) dX8_stay_23 (fun M5 => ?_)
  refine g_aload_n hC 0 dX8_stay_26 rfl rfl ?_
  refine g_iload_n hC 2 dX8_stay_27 rfl rfl ?_
  refine g_if_eq (tgt := 36) hC dX8_stay_28 (by decide) (fun _ => ?_) (fun _ => ?_)
  · refine g_bipush hC (v := 12) dX8_stay_36 (by decide) ?_
    exact g_X8_stay_b38 hC  M5 a1 a2 12
  · refine g_bipush hC (v := 11) dX8_stay_31 (by decide) ?_
    refine g_goto (tgt := 38) hC dX8_stay_33 (by decide) ?_
    exact g_X8_stay_b38 hC  M5 a1 a2 11
set_option maxRecDepth 20000 in
set_option maxHeartbeats 4000000 in
theorem c_X8_stay {l : Launch} (hfl : l.stackTraces = false) (Z : gZ) (M : gM) (a1 : Int32) (a2 : Int32) : gMet l yX8_stay cX8_stay 4 (some .int) rm_X8_stay 1 2 Z M [.ref (zad Z 0), .int a1, .int a2] (f_X8_stay M a1 a2) := by
  refine g_enter hfl (by decide) (Nat.le_of_ble_eq_true rfl) (fun p e s m args below meth c hC => ?_)
  refine g_eq (F := f_X8_stay M a1 a2) rfl ?_
  refine g_lv0 (lv1 := [(0, .ref (zad Z 0)), (1, .int a1), (2, .int a2)]) rfl ?_
  unfold f_X8_stay
  refine g_aload_n hC 0 dX8_stay_0 rfl rfl ?_
  refine g_iload_n hC 1 dX8_stay_1 rfl rfl ?_
  refine g_callVv (n := 1) hC [.int a1] 0 8 (by decide) rfl rfl (fun hne => c_X8_checkCase hC.2.2.2.2.2.2.2.1 Z M a1 hne) lk_X8_124 mw_X8_checkCase.1 mw_X8_checkCase.2.1 mw_X8_checkCase.2.2.1 mw_X8_checkCase.2.2.2 ⟨rfl, by decide, by decide, by decide +kernel⟩ rfl rfl ⟨by decide, by decide⟩ rfl rfl (Nat.le_of_ble_eq_true rfl) (by decide) (by decide) (by decide) dX8_stay_2 (fun M7 => ?_)
  refine g_aload_n hC 0 dX8_stay_5 rfl rfl ?_
  refine g_aload_n hC 0 dX8_stay_6 rfl rfl ?_
  refine gf_X8_12 hC dX8_stay_7 ?_
  refine g_iload_n hC 1 dX8_stay_10 rfl rfl ?_
  refine g_callVi (n := 1) hC [.int a1] 1 0 (by decide) rfl rfl (fun hne => c_X0_isStayOn hC.2.2.2.2.2.2.2.1 Z M7 a1 hne) lk_X8_291 mw_X0_isStayOn.1 mw_X0_isStayOn.2.1 mw_X0_isStayOn.2.2.1 mw_X0_isStayOn.2.2.2 ⟨rfl, by decide, by decide, by decide +kernel⟩ rfl rfl ⟨by decide, by decide⟩ rfl rfl (Nat.le_of_ble_eq_true rfl) (by decide) (by decide) (by decide) dX8_stay_11 (fun x10 M9 => ?_)
  refine g_iload_n hC 2 dX8_stay_14 rfl rfl ?_
  refine g_icmp_eq (tgt := 22) hC dX8_stay_15 (by decide) (fun _ => ?_) (fun _ => ?_)
  · refine g_iconst hC (v := 0) dX8_stay_22 (by decide) ?_
    exact g_X8_stay_b23 hC  M9 a1 a2 0
  · refine g_iconst hC (v := 1) dX8_stay_18 (by decide) ?_
    refine g_goto (tgt := 23) hC dX8_stay_19 (by decide) ?_
    exact g_X8_stay_b23 hC  M9 a1 a2 1

-- ===== X8_defect =====
def f_X8_defect_b35  (M : gM) (a1 : Int32) (t0 : Int32) : gR := (if t0 = 0 then (rThr 2 M) else (rb (f_X3_hasDefect M a1) (fun x2 M1 => (if x2 = 0 then (gI a1 160 (bM (gset M1 65 a1.toNatClampNeg (M1 1 0)) (fun M3 => (gI 4 5 (gI a1 160 (bM (gset M3 66 a1.toNatClampNeg (M3 13 (4 : Int32).toNatClampNeg)) (fun M4 => (gI 4 5 (gZ01 (M4 14 (4 : Int32).toNatClampNeg) (gI a1 160 (bM (gset M4 67 a1.toNatClampNeg (M4 14 (4 : Int32).toNatClampNeg)) (fun M5 => (rb (f_X8_cureDue M5 a1) (fun x7 M6 => (rRet x7 M6))))))))))))))) else (rThr 2 M1)))))
def f_X8_defect_b30  (M : gM) (a1 : Int32)  : gR := (f_X8_defect_b35  M a1 1)
def f_X8_defect (M : gM) (a1 : Int32) : gR := (rb (f_X8_checkEntry M a1) (fun _ M8 => (gI a1 160 (bV (M8 55 a1.toNatClampNeg) (fun x10 => (if x10 = 1 then (f_X8_defect_b30  M8 a1 ) else (if x10 = 2 then (f_X8_defect_b30  M8 a1 ) else (if x10 = 3 then (f_X8_defect_b30  M8 a1 ) else (f_X8_defect_b35  M8 a1 0)))))))))
abbrev rm_X8_defect : Room := { frames := 7, cells := 2, slots := 12, locals := 111 }
set_option maxRecDepth 20000 in
set_option maxHeartbeats 4000000 in
theorem g_X8_defect_b35 {p : Program} {l : Launch} {e : Env} {s : State} {m : MethodId} {args : Array Value} {below : List Frame} {meth : Method} {c : Code} {Z : gZ} (hC : gC p l s m args meth c cX8_defect 4 RX8 (some .int) Z)   (M : gM) (a1 : Int32) (t0 : Int32) : gW p l e rm_X8_defect s m args below meth c 4 Z 1 2 1 M 35 [(0, .ref (zad Z 0)), (1, .int a1)] [.int t0] (f_X8_defect_b35  M a1 t0) := by
  unfold f_X8_defect_b35
  refine g_istore_n hC (lv1 := [(3, .int t0), (0, .ref (zad Z 0)), (1, .int a1)]) dX8_defect_35 rfl (by decide) rfl ?_
  refine g_iload_n hC 0 dX8_defect_36 rfl rfl ?_
  refine g_if_eq (tgt := 51) hC dX8_defect_37 (by decide) (fun _ => ?_) (fun _ => ?_)
  · exact g_throwSW (text := "it can get no defect") hC 2 (by decide) thr_c2 thr_i2 (by decide) thr_a2 thr_n2 thr_g2 (by decide) (by decide) (Nat.le_of_ble_eq_true rfl) (by decide) (by decide) (by decide) dX8_defect_51 dX8_defect_54 dX8_defect_55 dX8_defect_58 dX8_defect_61
  · refine g_aload_n hC 1 dX8_defect_40 rfl rfl ?_
    refine gf_X8_33 hC dX8_defect_41 ?_
    refine g_iload_n hC 2 dX8_defect_44 rfl rfl ?_
    refine g_callVi (n := 1) hC [.int a1] 4 3 (by decide) rfl rfl (fun hne => c_X3_hasDefect hC.2.2.2.2.2.2.2.1 Z M a1 hne) lk_X8_304 mw_X3_hasDefect.1 mw_X3_hasDefect.2.1 mw_X3_hasDefect.2.2.1 mw_X3_hasDefect.2.2.2 ⟨rfl, by decide, by decide, by decide +kernel⟩ rfl rfl ⟨by decide, by decide⟩ rfl rfl (Nat.le_of_ble_eq_true rfl) (by decide) (by decide) (by decide) dX8_defect_45 (fun x2 M1 => ?_)
    refine g_if_eq (tgt := 62) hC dX8_defect_48 (by decide) (fun _ => ?_) (fun _ => ?_)
    · refine g_aload_n hC 1 dX8_defect_62 rfl rfl ?_
      refine gf_X8_33 hC dX8_defect_63 ?_
      refine gf_X8_309 hC dX8_defect_66 ?_
      refine g_iload_n hC 2 dX8_defect_69 rfl rfl ?_
      refine g_aload_n hC 1 dX8_defect_70 rfl rfl ?_
      refine gf_X8_12 hC dX8_defect_71 ?_
      refine gf_X8_69 hC dX8_defect_74 ?_
      refine g_iast hC 65 (by decide) rfl dX8_defect_77 (fun M3 => ?_)
      refine g_aload_n hC 1 dX8_defect_78 rfl rfl ?_
      refine gf_X8_33 hC dX8_defect_79 ?_
      refine gf_X8_312 hC dX8_defect_82 ?_
      refine g_iload_n hC 2 dX8_defect_85 rfl rfl ?_
      refine g_aload_n hC 1 dX8_defect_86 rfl rfl ?_
      refine gf_X8_12 hC dX8_defect_87 ?_
      refine gf_X8_105 hC dX8_defect_90 ?_
      refine g_iconst hC (v := 4) dX8_defect_93 (by decide) ?_
      refine g_iald hC 13 (by decide) rfl dX8_defect_94 ?_
      refine g_iast hC 66 (by decide) rfl dX8_defect_95 (fun M4 => ?_)
      refine g_aload_n hC 1 dX8_defect_96 rfl rfl ?_
      refine gf_X8_33 hC dX8_defect_97 ?_
      refine gf_X8_315 hC dX8_defect_100 ?_
      refine g_iload_n hC 2 dX8_defect_103 rfl rfl ?_
      refine g_aload_n hC 1 dX8_defect_104 rfl rfl ?_
      refine gf_X8_12 hC dX8_defect_105 ?_
      refine gf_X8_109 hC dX8_defect_108 ?_
      refine g_iconst hC (v := 4) dX8_defect_111 (by decide) ?_
      refine g_zald hC 14 (by decide) rfl dX8_defect_112 ?_
      refine g_zast hC 67 (by decide) rfl dX8_defect_113 (fun M5 => ?_)
      refine g_aload_n hC 1 dX8_defect_114 rfl rfl ?_
      refine g_iload_n hC 2 dX8_defect_115 rfl rfl ?_
      refine g_callVi (n := 1) hC [.int a1] 0 8 (by decide) rfl rfl (fun hne => c_X8_cureDue hC.2.2.2.2.2.2.2.1 Z M5 a1 hne) lk_X8_318 mw_X8_cureDue.1 mw_X8_cureDue.2.1 mw_X8_cureDue.2.2.1 mw_X8_cureDue.2.2.2 ⟨rfl, by decide, by decide, by decide +kernel⟩ rfl rfl ⟨by decide, by decide⟩ rfl rfl (Nat.le_of_ble_eq_true rfl) (by decide) (by decide) (by decide) dX8_defect_116 (fun x7 M6 => ?_)
      exact g_iret hC rfl (by decide) dX8_defect_119
    · exact g_throwSW (text := "it can get no defect") hC 2 (by decide) thr_c2 thr_i2 (by decide) thr_a2 thr_n2 thr_g2 (by decide) (by decide) (Nat.le_of_ble_eq_true rfl) (by decide) (by decide) (by decide) dX8_defect_51 dX8_defect_54 dX8_defect_55 dX8_defect_58 dX8_defect_61
set_option maxRecDepth 20000 in
set_option maxHeartbeats 4000000 in
theorem g_X8_defect_b30 {p : Program} {l : Launch} {e : Env} {s : State} {m : MethodId} {args : Array Value} {below : List Frame} {meth : Method} {c : Code} {Z : gZ} (hC : gC p l s m args meth c cX8_defect 4 RX8 (some .int) Z)   (M : gM) (a1 : Int32)  : gW p l e rm_X8_defect s m args below meth c 4 Z 1 2 1 M 30 [(0, .ref (zad Z 0)), (1, .int a1)] [] (f_X8_defect_b30  M a1 ) := by
  unfold f_X8_defect_b30
  refine g_iconst hC (v := 1) dX8_defect_30 (by decide) ?_
  refine g_goto (tgt := 35) hC dX8_defect_31 (by decide) ?_
  exact g_X8_defect_b35 hC  M a1 1
set_option maxRecDepth 20000 in
set_option maxHeartbeats 4000000 in
theorem c_X8_defect {l : Launch} (hfl : l.stackTraces = false) (Z : gZ) (M : gM) (a1 : Int32) : gMet l yX8_defect cX8_defect 4 (some .int) rm_X8_defect 1 2 Z M [.ref (zad Z 0), .int a1] (f_X8_defect M a1) := by
  refine g_enter hfl (by decide) (Nat.le_of_ble_eq_true rfl) (fun p e s m args below meth c hC => ?_)
  refine g_eq (F := f_X8_defect M a1) rfl ?_
  refine g_lv0 (lv1 := [(0, .ref (zad Z 0)), (1, .int a1)]) rfl ?_
  unfold f_X8_defect
  refine g_aload_n hC 0 dX8_defect_0 rfl rfl ?_
  refine g_iload_n hC 1 dX8_defect_1 rfl rfl ?_
  refine g_callVv (n := 1) hC [.int a1] 0 8 (by decide) rfl rfl (fun hne => c_X8_checkEntry hC.2.2.2.2.2.2.2.1 Z M a1 hne) lk_X8_298 mw_X8_checkEntry.1 mw_X8_checkEntry.2.1 mw_X8_checkEntry.2.2.1 mw_X8_checkEntry.2.2.2 ⟨rfl, by decide, by decide, by decide +kernel⟩ rfl rfl ⟨by decide, by decide⟩ rfl rfl (Nat.le_of_ble_eq_true rfl) (by decide) (by decide) (by decide) dX8_defect_2 (fun M8 => ?_)
  refine g_aload_n hC 0 dX8_defect_5 rfl rfl ?_
  refine gf_X8_33 hC dX8_defect_6 ?_
  refine gf_X8_301 hC dX8_defect_9 ?_
  refine g_iload_n hC 1 dX8_defect_12 rfl rfl ?_
  refine g_iald hC 55 (by decide) rfl dX8_defect_13 ?_
  refine g_bv (fun x10 => ?_)
  refine g_istore_n hC (lv1 := [(2, .int x10), (0, .ref (zad Z 0)), (1, .int a1)]) dX8_defect_14 rfl (by decide) rfl ?_
  refine g_iload_n hC 0 dX8_defect_15 rfl rfl ?_
  refine g_iconst hC (v := 1) dX8_defect_16 (by decide) ?_
  refine g_icmp_eq (tgt := 30) hC dX8_defect_17 (by decide) (fun _ => ?_) (fun _ => ?_)
  · refine g_sub (lv1 := [(0, .ref (zad Z 0)), (1, .int a1)]) [1, 2] rfl ?_
    exact g_X8_defect_b30 hC  M8 a1 
  · refine g_iload_n hC 0 dX8_defect_20 rfl rfl ?_
    refine g_iconst hC (v := 2) dX8_defect_21 (by decide) ?_
    refine g_icmp_eq (tgt := 30) hC dX8_defect_22 (by decide) (fun _ => ?_) (fun _ => ?_)
    · refine g_sub (lv1 := [(0, .ref (zad Z 0)), (1, .int a1)]) [1, 2] rfl ?_
      exact g_X8_defect_b30 hC  M8 a1 
    · refine g_iload_n hC 0 dX8_defect_25 rfl rfl ?_
      refine g_iconst hC (v := 3) dX8_defect_26 (by decide) ?_
      refine g_icmp_ne (tgt := 34) hC dX8_defect_27 (by decide) (fun _ => ?_) (fun _ => ?_)
      · refine g_sub (lv1 := [(0, .ref (zad Z 0)), (1, .int a1)]) [1, 2] rfl ?_
        exact g_X8_defect_b30 hC  M8 a1 
      · refine g_iconst hC (v := 0) dX8_defect_34 (by decide) ?_
        refine g_sub (lv1 := [(0, .ref (zad Z 0)), (1, .int a1)]) [1, 2] rfl ?_
        exact g_X8_defect_b35 hC  M8 a1 0

-- ===== X8_cure =====
def f_X8_cure (M : gM) (a1 : Int32) : gR := (rb (f_X8_checkEntry M a1) (fun _ M1 => (rb (f_X3_hasDefect M1 a1) (fun x4 M3 => (if x4 = 0 then (rThr 2 M3) else (gI a1 160 (if (M3 68 a1.toNatClampNeg) = 0 then (rb (f_X8_cureDue M3 a1) (fun x6 M5 => (rb (f_X0_isPast M5 x6) (fun x8 M7 => (if x8 = 0 then (gZ01 1 (gI a1 160 (bM (gset M7 68 a1.toNatClampNeg 1) (fun M9 => (rRet 1 M9))))) else (rThr 2 M7)))))) else (rThr 2 M3))))))))
abbrev rm_X8_cure : Room := { frames := 7, cells := 2, slots := 12, locals := 111 }
set_option maxRecDepth 20000 in
set_option maxHeartbeats 4000000 in
theorem c_X8_cure {l : Launch} (hfl : l.stackTraces = false) (Z : gZ) (M : gM) (a1 : Int32) : gMet l yX8_cure cX8_cure 2 (some .boolean) rm_X8_cure 1 2 Z M [.ref (zad Z 0), .int a1] (f_X8_cure M a1) := by
  refine g_enter hfl (by decide) (Nat.le_of_ble_eq_true rfl) (fun p e s m args below meth c hC => ?_)
  refine g_eq (F := f_X8_cure M a1) rfl ?_
  refine g_lv0 (lv1 := [(0, .ref (zad Z 0)), (1, .int a1)]) rfl ?_
  unfold f_X8_cure
  refine g_aload_n hC 0 dX8_cure_0 rfl rfl ?_
  refine g_iload_n hC 1 dX8_cure_1 rfl rfl ?_
  refine g_callVv (n := 1) hC [.int a1] 0 8 (by decide) rfl rfl (fun hne => c_X8_checkEntry hC.2.2.2.2.2.2.2.1 Z M a1 hne) lk_X8_298 mw_X8_checkEntry.1 mw_X8_checkEntry.2.1 mw_X8_checkEntry.2.2.1 mw_X8_checkEntry.2.2.2 ⟨rfl, by decide, by decide, by decide +kernel⟩ rfl rfl ⟨by decide, by decide⟩ rfl rfl (Nat.le_of_ble_eq_true rfl) (by decide) (by decide) (by decide) dX8_cure_2 (fun M1 => ?_)
  refine g_aload_n hC 0 dX8_cure_5 rfl rfl ?_
  refine gf_X8_33 hC dX8_cure_6 ?_
  refine g_iload_n hC 1 dX8_cure_9 rfl rfl ?_
  refine g_callVi (n := 1) hC [.int a1] 4 3 (by decide) rfl rfl (fun hne => c_X3_hasDefect hC.2.2.2.2.2.2.2.1 Z M1 a1 hne) lk_X8_304 mw_X3_hasDefect.1 mw_X3_hasDefect.2.1 mw_X3_hasDefect.2.2.1 mw_X3_hasDefect.2.2.2 ⟨rfl, by decide, by decide, by decide +kernel⟩ rfl rfl ⟨by decide, by decide⟩ rfl rfl (Nat.le_of_ble_eq_true rfl) (by decide) (by decide) (by decide) dX8_cure_10 (fun x4 M3 => ?_)
  refine g_if_eq (tgt := 43) hC dX8_cure_13 (by decide) (fun _ => ?_) (fun _ => ?_)
  · exact g_throwSW (text := "it cannot be cured") hC 2 (by decide) thr_c2 thr_i2 (by decide) thr_a2 thr_n2 thr_g2 (by decide) (by decide) (Nat.le_of_ble_eq_true rfl) (by decide) (by decide) (by decide) dX8_cure_43 dX8_cure_46 dX8_cure_47 dX8_cure_50 dX8_cure_53
  · refine g_aload_n hC 0 dX8_cure_16 rfl rfl ?_
    refine gf_X8_33 hC dX8_cure_17 ?_
    refine gf_X8_321 hC dX8_cure_20 ?_
    refine g_iload_n hC 1 dX8_cure_23 rfl rfl ?_
    refine g_zald hC 68 (by decide) rfl dX8_cure_24 ?_
    refine g_if_ne (tgt := 43) hC dX8_cure_25 (by decide) (fun _ => ?_) (fun _ => ?_)
    · refine g_aload_n hC 0 dX8_cure_28 rfl rfl ?_
      refine gf_X8_12 hC dX8_cure_29 ?_
      refine g_aload_n hC 0 dX8_cure_32 rfl rfl ?_
      refine g_iload_n hC 1 dX8_cure_33 rfl rfl ?_
      refine g_callVi (n := 1) hC [.int a1] 0 8 (by decide) rfl rfl (fun hne => c_X8_cureDue hC.2.2.2.2.2.2.2.1 Z M3 a1 hne) lk_X8_318 mw_X8_cureDue.1 mw_X8_cureDue.2.1 mw_X8_cureDue.2.2.1 mw_X8_cureDue.2.2.2 ⟨rfl, by decide, by decide, by decide +kernel⟩ rfl rfl ⟨by decide, by decide⟩ rfl rfl (Nat.le_of_ble_eq_true rfl) (by decide) (by decide) (by decide) dX8_cure_34 (fun x6 M5 => ?_)
      refine g_callVi (n := 1) hC [.int x6] 1 0 (by decide) rfl rfl (fun hne => c_X0_isPast hC.2.2.2.2.2.2.2.1 Z M5 x6 hne) lk_X8_324 mw_X0_isPast.1 mw_X0_isPast.2.1 mw_X0_isPast.2.2.1 mw_X0_isPast.2.2.2 ⟨rfl, by decide, by decide, by decide +kernel⟩ rfl rfl ⟨by decide, by decide⟩ rfl rfl (Nat.le_of_ble_eq_true rfl) (by decide) (by decide) (by decide) dX8_cure_37 (fun x8 M7 => ?_)
      refine g_if_eq (tgt := 54) hC dX8_cure_40 (by decide) (fun _ => ?_) (fun _ => ?_)
      · refine g_aload_n hC 0 dX8_cure_54 rfl rfl ?_
        refine gf_X8_33 hC dX8_cure_55 ?_
        refine gf_X8_321 hC dX8_cure_58 ?_
        refine g_iload_n hC 1 dX8_cure_61 rfl rfl ?_
        refine g_iconst hC (v := 1) dX8_cure_62 (by decide) ?_
        refine g_zast hC 68 (by decide) rfl dX8_cure_63 (fun M9 => ?_)
        refine g_iconst hC (v := 1) dX8_cure_64 (by decide) ?_
        exact g_zret1 hC rfl (by decide) dX8_cure_65
      · exact g_throwSW (text := "it cannot be cured") hC 2 (by decide) thr_c2 thr_i2 (by decide) thr_a2 thr_n2 thr_g2 (by decide) (by decide) (Nat.le_of_ble_eq_true rfl) (by decide) (by decide) (by decide) dX8_cure_43 dX8_cure_46 dX8_cure_47 dX8_cure_50 dX8_cure_53
    · exact g_throwSW (text := "it cannot be cured") hC 2 (by decide) thr_c2 thr_i2 (by decide) thr_a2 thr_n2 thr_g2 (by decide) (by decide) (Nat.le_of_ble_eq_true rfl) (by decide) (by decide) (by decide) dX8_cure_43 dX8_cure_46 dX8_cure_47 dX8_cure_50 dX8_cure_53
