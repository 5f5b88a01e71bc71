-- ===== X0_isWeekend =====
def f_X0_isWeekend (M : gM) (a0 : Int32) : gR := (gNz 7 (if (a0 - a0 / 7 * 7) < 5 then (rRet 0 M) else (rRet 1 M)))
abbrev rm_X0_isWeekend : Room := { frames := 0, cells := 0, slots := 0, locals := 0 }
set_option maxRecDepth 20000 in
set_option maxHeartbeats 4000000 in
theorem c_X0_isWeekend {l : Launch} (hfl : l.stackTraces = false) (Z : gZ) (M : gM) (a0 : Int32) : gMet l yX0_isWeekend cX0_isWeekend 1 (some .boolean) rm_X0_isWeekend 1 0 Z M [.int a0] (f_X0_isWeekend M a0) := by
  refine g_enter hfl (by decide) (Nat.le_of_ble_eq_true rfl) (fun p e s m args below meth c hC => ?_)
  refine g_eq (F := f_X0_isWeekend M a0) rfl ?_
  refine g_lv0 (lv1 := [(0, .int a0)]) rfl ?_
  unfold f_X0_isWeekend
  refine g_iload_n hC 0 dX0_isWeekend_0 rfl rfl ?_
  refine g_bipush hC (v := 7) dX0_isWeekend_1 (by decide) ?_
  refine g_irem hC dX0_isWeekend_3 ?_
  refine g_iconst hC (v := 5) dX0_isWeekend_4 (by decide) ?_
  refine g_icmp_lt (tgt := 12) hC dX0_isWeekend_5 (by decide) (fun _ => ?_) (fun _ => ?_)
  · refine g_iconst hC (v := 0) dX0_isWeekend_12 (by decide) ?_
    exact g_zret0 hC rfl (by decide) dX0_isWeekend_13
  · refine g_iconst hC (v := 1) dX0_isWeekend_8 (by decide) ?_
    refine g_goto (tgt := 13) hC dX0_isWeekend_9 (by decide) ?_
    exact g_zret1 hC rfl (by decide) dX0_isWeekend_13

-- ===== X0_isFree =====
def f_X0_isFree (M : gM) (a1 : Int32) : gR := (gI a1 1401 (if ((M 11 a1.toNatClampNeg) &&& 256) = 0 then (rRet 0 M) else (rRet 1 M)))
abbrev rm_X0_isFree : Room := { frames := 0, cells := 0, slots := 0, locals := 0 }
set_option maxRecDepth 20000 in
set_option maxHeartbeats 4000000 in
theorem c_X0_isFree {l : Launch} (hfl : l.stackTraces = false) (Z : gZ) (M : gM) (a1 : Int32) : gMet l yX0_isFree cX0_isFree 2 (some .boolean) rm_X0_isFree 1 0 Z M [.ref (zad Z 1), .int a1] (f_X0_isFree M a1) := by
  refine g_enter hfl (by decide) (Nat.le_of_ble_eq_true rfl) (fun p e s m args below meth c hC => ?_)
  refine g_eq (F := f_X0_isFree M a1) rfl ?_
  refine g_lv0 (lv1 := [(0, .ref (zad Z 1)), (1, .int a1)]) rfl ?_
  unfold f_X0_isFree
  refine g_aload_n hC 0 dX0_isFree_0 rfl rfl ?_
  refine gf_X0_9 hC dX0_isFree_1 ?_
  refine g_iload_n hC 1 dX0_isFree_4 rfl rfl ?_
  refine g_iald hC 11 (by decide) rfl dX0_isFree_5 ?_
  refine g_sipush hC (v := 256) dX0_isFree_6 (by decide) ?_
  refine g_iand hC dX0_isFree_9 ?_
  refine g_if_eq (tgt := 17) hC dX0_isFree_10 (by decide) (fun _ => ?_) (fun _ => ?_)
  · refine g_iconst hC (v := 0) dX0_isFree_17 (by decide) ?_
    exact g_zret0 hC rfl (by decide) dX0_isFree_18
  · refine g_iconst hC (v := 1) dX0_isFree_13 (by decide) ?_
    refine g_goto (tgt := 18) hC dX0_isFree_14 (by decide) ?_
    exact g_zret1 hC rfl (by decide) dX0_isFree_18

-- ===== X0_isHoliday =====
def f_X0_isHoliday_lb2  (self2 : gM → Int32 → Int32 → gR) (M : gM) (a1 : Int32) (a2 : Int32) : gR := (if (M 1 3) ≤ a2 then (rRet 0 M) else (gI a2 30 (if (M 12 a2.toNatClampNeg) = a1 then (rRet 1 M) else (bV (a2 + 1) (fun x1 => (self2 M a1 x1))))))
def f_X0_isHoliday_l2  : Nat → gM → Int32 → Int32 → gR
  | 0, _, _, _ => rStuck
  | n + 1, M, a1, a2 => f_X0_isHoliday_lb2  (f_X0_isHoliday_l2  n) M a1 a2
def f_X0_isHoliday (M : gM) (a1 : Int32) : gR := (f_X0_isHoliday_l2  5000 M a1 0)
abbrev rm_X0_isHoliday : Room := { frames := 0, cells := 0, slots := 0, locals := 0 }
set_option maxRecDepth 20000 in
set_option maxHeartbeats 4000000 in
theorem g_X0_isHoliday_lb2 {p : Program} {l : Launch} {e : Env} {s : State} {m : MethodId} {args : Array Value} {below : List Frame} {meth : Method} {c : Code} {Z : gZ} (hC : gC p l s m args meth c cX0_isHoliday 3 RX0 (some .boolean) Z)  {self2 : gM → Int32 → Int32 → gR}  (hs2 : ∀ (M : gM) (a1 : Int32) (a2 : Int32) , gW p l e rm_X0_isHoliday s m args below meth c 3 Z 1 0 0 M 2 [(0, .ref (zad Z 1)), (1, .int a1), (2, .int a2)] [] (self2 M a1 a2)) (M : gM) (a1 : Int32) (a2 : Int32) : gW p l e rm_X0_isHoliday s m args below meth c 3 Z 1 0 0 M 2 [(0, .ref (zad Z 1)), (1, .int a1), (2, .int a2)] [] (f_X0_isHoliday_lb2  self2 M a1 a2) := by
  unfold f_X0_isHoliday_lb2
  refine g_iload_n hC 2 dX0_isHoliday_2 rfl rfl ?_
  refine g_aload_n hC 0 dX0_isHoliday_3 rfl rfl ?_
  refine gf_X0_45 hC dX0_isHoliday_4 ?_
  refine g_icmp_ge (tgt := 28) hC dX0_isHoliday_7 (by decide) (fun _ => ?_) (fun _ => ?_)
  · refine g_iconst hC (v := 0) dX0_isHoliday_28 (by decide) ?_
    exact g_zret0 hC rfl (by decide) dX0_isHoliday_29
  · refine g_aload_n hC 0 dX0_isHoliday_10 rfl rfl ?_
    refine gf_X0_15 hC dX0_isHoliday_11 ?_
    refine g_iload_n hC 2 dX0_isHoliday_14 rfl rfl ?_
    refine g_iald hC 12 (by decide) rfl dX0_isHoliday_15 ?_
    refine g_iload_n hC 1 dX0_isHoliday_16 rfl rfl ?_
    refine g_icmp_ne (tgt := 22) hC dX0_isHoliday_17 (by decide) (fun _ => ?_) (fun _ => ?_)
    · refine g_iconst hC (v := 1) dX0_isHoliday_20 (by decide) ?_
      exact g_zret1 hC rfl (by decide) dX0_isHoliday_21
    · refine g_iinc hC 2 (v := 1) (fun x1 => [(2, .int x1), (0, .ref (zad Z 1)), (1, .int a1)]) dX0_isHoliday_22 rfl (by decide) (by decide) (fun _ => rfl) (fun x1 => ?_)
      refine g_goto (tgt := 2) hC dX0_isHoliday_25 (by decide) ?_
      refine g_sub (lv1 := [(0, .ref (zad Z 1)), (1, .int a1), (2, .int x1)]) [1, 2, 0] rfl ?_
      exact hs2 M a1 x1
set_option maxRecDepth 20000 in
set_option maxHeartbeats 4000000 in
theorem g_X0_isHoliday_l2 {p : Program} {l : Launch} {e : Env} {s : State} {m : MethodId} {args : Array Value} {below : List Frame} {meth : Method} {c : Code} {Z : gZ} (hC : gC p l s m args meth c cX0_isHoliday 3 RX0 (some .boolean) Z)   : ∀ (n : Nat) (M : gM) (a1 : Int32) (a2 : Int32), gW p l e rm_X0_isHoliday s m args below meth c 3 Z 1 0 0 M 2 [(0, .ref (zad Z 1)), (1, .int a1), (2, .int a2)] [] (f_X0_isHoliday_l2  n M a1 a2)
  | 0, _, _, _ => g_stuck
  | n + 1, M, a1, a2 => g_X0_isHoliday_lb2 hC  (g_X0_isHoliday_l2 hC  n) M a1 a2
set_option maxRecDepth 20000 in
set_option maxHeartbeats 4000000 in
theorem c_X0_isHoliday {l : Launch} (hfl : l.stackTraces = false) (Z : gZ) (M : gM) (a1 : Int32) : gMet l yX0_isHoliday cX0_isHoliday 3 (some .boolean) rm_X0_isHoliday 1 0 Z M [.ref (zad Z 1), .int a1] (f_X0_isHoliday M a1) := by
  refine g_enter hfl (by decide) (Nat.le_of_ble_eq_true rfl) (fun p e s m args below meth c hC => ?_)
  refine g_eq (F := f_X0_isHoliday M a1) rfl ?_
  refine g_lv0 (lv1 := [(0, .ref (zad Z 1)), (1, .int a1)]) rfl ?_
  unfold f_X0_isHoliday
  refine g_iconst hC (v := 0) dX0_isHoliday_0 (by decide) ?_
  refine g_istore_n hC (lv1 := [(2, .int 0), (0, .ref (zad Z 1)), (1, .int a1)]) dX0_isHoliday_1 rfl (by decide) rfl ?_
  refine g_sub (lv1 := [(0, .ref (zad Z 1)), (1, .int a1), (2, .int 0)]) [1, 2, 0] rfl ?_
  exact g_X0_isHoliday_l2 hC  5000 M a1 0

-- ===== X0_addHoliday =====
def f_X0_addHoliday (M : gM) (a1 : Int32) : gR := (gI (M 1 3) 30 (bM (gset M 12 (M 1 3).toNatClampNeg a1) (fun M1 => (bM (gset M1 1 3 ((M1 1 3) + 1)) (fun M2 => (gI a1 1401 (gI a1 1401 (bM (gset M2 11 a1.toNatClampNeg ((M2 11 a1.toNatClampNeg) ||| 256)) (fun M3 => (rRet 0 M3))))))))))
abbrev rm_X0_addHoliday : Room := { frames := 0, cells := 0, slots := 0, locals := 0 }
set_option maxRecDepth 20000 in
set_option maxHeartbeats 4000000 in
theorem c_X0_addHoliday {l : Launch} (hfl : l.stackTraces = false) (Z : gZ) (M : gM) (a1 : Int32) : gMet l yX0_addHoliday cX0_addHoliday 2 none rm_X0_addHoliday 0 0 Z M [.ref (zad Z 1), .int a1] (f_X0_addHoliday M a1) := by
  refine g_enter hfl (by decide) (Nat.le_of_ble_eq_true rfl) (fun p e s m args below meth c hC => ?_)
  refine g_eq (F := f_X0_addHoliday M a1) rfl ?_
  refine g_lv0 (lv1 := [(0, .ref (zad Z 1)), (1, .int a1)]) rfl ?_
  unfold f_X0_addHoliday
  refine g_aload_n hC 0 dX0_addHoliday_0 rfl rfl ?_
  refine gf_X0_15 hC dX0_addHoliday_1 ?_
  refine g_aload_n hC 0 dX0_addHoliday_4 rfl rfl ?_
  refine gf_X0_45 hC dX0_addHoliday_5 ?_
  refine g_iload_n hC 1 dX0_addHoliday_8 rfl rfl ?_
  refine g_iast hC 12 (by decide) rfl dX0_addHoliday_9 (fun M1 => ?_)
  refine g_aload_n hC 0 dX0_addHoliday_10 rfl rfl ?_
  refine g_dup hC dX0_addHoliday_11 rfl ?_
  refine gf_X0_45 hC dX0_addHoliday_12 ?_
  refine g_iconst hC (v := 1) dX0_addHoliday_15 (by decide) ?_
  refine g_iadd hC dX0_addHoliday_16 ?_
  refine gp_X0_45 hC dX0_addHoliday_17 (fun M2 => ?_)
  refine g_aload_n hC 0 dX0_addHoliday_20 rfl rfl ?_
  refine gf_X0_9 hC dX0_addHoliday_21 ?_
  refine g_iload_n hC 1 dX0_addHoliday_24 rfl rfl ?_
  refine g_dup2 hC dX0_addHoliday_25 rfl rfl ?_
  refine g_iald hC 11 (by decide) rfl dX0_addHoliday_26 ?_
  refine g_sipush hC (v := 256) dX0_addHoliday_27 (by decide) ?_
  refine g_ior hC dX0_addHoliday_30 ?_
  refine g_iast hC 11 (by decide) rfl dX0_addHoliday_31 (fun M3 => ?_)
  exact g_vret hC rfl (by decide) dX0_addHoliday_32

-- ===== X0_isStayOn =====
def f_X0_isStayOn (M : gM) (a1 : Int32) : gR := (gI a1 8 (gNz 2 (if ((M 24 a1.toNatClampNeg) - (M 24 a1.toNatClampNeg) / 2 * 2) = 1 then (rRet 1 M) else (rRet 0 M))))
abbrev rm_X0_isStayOn : Room := { frames := 0, cells := 0, slots := 0, locals := 0 }
set_option maxRecDepth 20000 in
set_option maxHeartbeats 4000000 in
theorem c_X0_isStayOn {l : Launch} (hfl : l.stackTraces = false) (Z : gZ) (M : gM) (a1 : Int32) : gMet l yX0_isStayOn cX0_isStayOn 2 (some .boolean) rm_X0_isStayOn 1 0 Z M [.ref (zad Z 1), .int a1] (f_X0_isStayOn M a1) := by
  refine g_enter hfl (by decide) (Nat.le_of_ble_eq_true rfl) (fun p e s m args below meth c hC => ?_)
  refine g_eq (F := f_X0_isStayOn M a1) rfl ?_
  refine g_lv0 (lv1 := [(0, .ref (zad Z 1)), (1, .int a1)]) rfl ?_
  unfold f_X0_isStayOn
  refine g_aload_n hC 0 dX0_isStayOn_0 rfl rfl ?_
  refine gf_X0_38 hC dX0_isStayOn_1 ?_
  refine g_iload_n hC 1 dX0_isStayOn_4 rfl rfl ?_
  refine g_iald hC 24 (by decide) rfl dX0_isStayOn_5 ?_
  refine g_iconst hC (v := 2) dX0_isStayOn_6 (by decide) ?_
  refine g_irem hC dX0_isStayOn_7 ?_
  refine g_iconst hC (v := 1) dX0_isStayOn_8 (by decide) ?_
  refine g_icmp_ne (tgt := 16) hC dX0_isStayOn_9 (by decide) (fun _ => ?_) (fun _ => ?_)
  · refine g_iconst hC (v := 1) dX0_isStayOn_12 (by decide) ?_
    refine g_goto (tgt := 17) hC dX0_isStayOn_13 (by decide) ?_
    exact g_zret1 hC rfl (by decide) dX0_isStayOn_17
  · refine g_iconst hC (v := 0) dX0_isStayOn_16 (by decide) ?_
    exact g_zret0 hC rfl (by decide) dX0_isStayOn_17

-- ===== X0_turnStay =====
def f_X0_turnStay_lb37  (self37 : gM → Int32 → Int32 → Int32 → gR) (M : gM) (a2 : Int32) (a3 : Int32) (a4 : Int32) : gR := (if 1400 < a4 then (rRet 0 M) else (if a2 = 0 then (gI a4 1401 (gI a4 1401 (bM (gset M 11 a4.toNatClampNeg ((M 11 a4.toNatClampNeg) &&& (a3 ^^^ (-1)))) (fun M1 => (bV (a4 + 1) (fun x2 => (self37 M1 a2 a3 x2))))))) else (gI a4 1401 (gI a4 1401 (bM (gset M 11 a4.toNatClampNeg ((M 11 a4.toNatClampNeg) ||| a3)) (fun M3 => (bV (a4 + 1) (fun x4 => (self37 M3 a2 a3 x4)))))))))
def f_X0_turnStay_l37  : Nat → gM → Int32 → Int32 → Int32 → gR
  | 0, _, _, _, _ => rStuck
  | n + 1, M, a2, a3, a4 => f_X0_turnStay_lb37  (f_X0_turnStay_l37  n) M a2 a3 a4
def f_X0_turnStay (M : gM) (a1 : Int32) (a2 : Int32) : gR := (gI a1 8 (gI a1 8 (gI (M 24 a1.toNatClampNeg) 160 (bM (gset M 15 (a1.toNatClampNeg * 160 + (M 24 a1.toNatClampNeg).toNatClampNeg) (M 1 0)) (fun M6 => (gI a1 8 (gI a1 8 (bM (gset M6 24 a1.toNatClampNeg ((M6 24 a1.toNatClampNeg) + 1)) (fun M7 => (bV (1 <<< (a1 &&& 31)) (fun x8 => (bV (M7 1 0) (fun x9 => (f_X0_turnStay_l37  5000 M7 a2 x8 x9))))))))))))))
abbrev rm_X0_turnStay : Room := { frames := 0, cells := 0, slots := 0, locals := 0 }
set_option maxRecDepth 20000 in
set_option maxHeartbeats 4000000 in
theorem g_X0_turnStay_lb37 {p : Program} {l : Launch} {e : Env} {s : State} {m : MethodId} {args : Array Value} {below : List Frame} {meth : Method} {c : Code} {Z : gZ} (hC : gC p l s m args meth c cX0_turnStay 5 RX0 none Z)  {self37 : gM → Int32 → Int32 → Int32 → gR}  (hs37 : ∀ (M : gM) (a2 : Int32) (a3 : Int32) (a4 : Int32) , gW p l e rm_X0_turnStay s m args below meth c 5 Z 0 0 0 M 37 [(0, .ref (zad Z 1)), (2, .int a2), (3, .int a3), (4, .int a4)] [] (self37 M a2 a3 a4)) (M : gM) (a2 : Int32) (a3 : Int32) (a4 : Int32) : gW p l e rm_X0_turnStay s m args below meth c 5 Z 0 0 0 M 37 [(0, .ref (zad Z 1)), (2, .int a2), (3, .int a3), (4, .int a4)] [] (f_X0_turnStay_lb37  self37 M a2 a3 a4) := by
  unfold f_X0_turnStay_lb37
  refine g_iload hC 3 dX0_turnStay_37 rfl ?_
  refine g_sipush hC (v := 1400) dX0_turnStay_39 (by decide) ?_
  refine g_icmp_gt (tgt := 85) hC dX0_turnStay_42 (by decide) (fun _ => ?_) (fun _ => ?_)
  · exact g_vret hC rfl (by decide) dX0_turnStay_85
  · refine g_aload_n hC 0 dX0_turnStay_45 rfl rfl ?_
    refine gf_X0_9 hC dX0_turnStay_46 ?_
    refine g_iload hC 3 dX0_turnStay_49 rfl ?_
    refine g_iload_n hC 1 dX0_turnStay_51 rfl rfl ?_
    refine g_if_eq (tgt := 67) hC dX0_turnStay_52 (by decide) (fun _ => ?_) (fun _ => ?_)
    · refine g_aload_n hC 0 dX0_turnStay_67 rfl rfl ?_
      refine gf_X0_9 hC dX0_turnStay_68 ?_
      refine g_iload hC 3 dX0_turnStay_71 rfl ?_
      refine g_iald hC 11 (by decide) rfl dX0_turnStay_73 ?_
      refine g_iload_n hC 2 dX0_turnStay_74 rfl rfl ?_
      refine g_iconst hC (v := (-1)) dX0_turnStay_75 (by decide) ?_
      refine g_ixor hC dX0_turnStay_76 ?_
      refine g_iand hC dX0_turnStay_77 ?_
      refine g_iast hC 11 (by decide) rfl dX0_turnStay_78 (fun M1 => ?_)
      refine g_iinc hC 3 (v := 1) (fun x2 => [(4, .int x2), (0, .ref (zad Z 1)), (2, .int a2), (3, .int a3)]) dX0_turnStay_79 rfl (by decide) (by decide) (fun _ => rfl) (fun x2 => ?_)
      refine g_goto (tgt := 37) hC dX0_turnStay_82 (by decide) ?_
      refine g_sub (lv1 := [(0, .ref (zad Z 1)), (2, .int a2), (3, .int a3), (4, .int x2)]) [1, 2, 3, 0] rfl ?_
      exact hs37 M1 a2 a3 x2
    · refine g_aload_n hC 0 dX0_turnStay_55 rfl rfl ?_
      refine gf_X0_9 hC dX0_turnStay_56 ?_
      refine g_iload hC 3 dX0_turnStay_59 rfl ?_
      refine g_iald hC 11 (by decide) rfl dX0_turnStay_61 ?_
      refine g_iload_n hC 2 dX0_turnStay_62 rfl rfl ?_
      refine g_ior hC dX0_turnStay_63 ?_
      refine g_goto (tgt := 78) hC dX0_turnStay_64 (by decide) ?_
      refine g_iast hC 11 (by decide) rfl dX0_turnStay_78 (fun M3 => ?_)
      refine g_iinc hC 3 (v := 1) (fun x4 => [(4, .int x4), (0, .ref (zad Z 1)), (2, .int a2), (3, .int a3)]) dX0_turnStay_79 rfl (by decide) (by decide) (fun _ => rfl) (fun x4 => ?_)
      refine g_goto (tgt := 37) hC dX0_turnStay_82 (by decide) ?_
      refine g_sub (lv1 := [(0, .ref (zad Z 1)), (2, .int a2), (3, .int a3), (4, .int x4)]) [1, 2, 3, 0] rfl ?_
      exact hs37 M3 a2 a3 x4
set_option maxRecDepth 20000 in
set_option maxHeartbeats 4000000 in
theorem g_X0_turnStay_l37 {p : Program} {l : Launch} {e : Env} {s : State} {m : MethodId} {args : Array Value} {below : List Frame} {meth : Method} {c : Code} {Z : gZ} (hC : gC p l s m args meth c cX0_turnStay 5 RX0 none Z)   : ∀ (n : Nat) (M : gM) (a2 : Int32) (a3 : Int32) (a4 : Int32), gW p l e rm_X0_turnStay s m args below meth c 5 Z 0 0 0 M 37 [(0, .ref (zad Z 1)), (2, .int a2), (3, .int a3), (4, .int a4)] [] (f_X0_turnStay_l37  n M a2 a3 a4)
  | 0, _, _, _, _ => g_stuck
  | n + 1, M, a2, a3, a4 => g_X0_turnStay_lb37 hC  (g_X0_turnStay_l37 hC  n) M a2 a3 a4
set_option maxRecDepth 20000 in
set_option maxHeartbeats 4000000 in
theorem c_X0_turnStay {l : Launch} (hfl : l.stackTraces = false) (Z : gZ) (M : gM) (a1 : Int32) (a2 : Int32) : gMet l yX0_turnStay cX0_turnStay 5 none rm_X0_turnStay 0 0 Z M [.ref (zad Z 1), .int a1, .int a2] (f_X0_turnStay M a1 a2) := by
  refine g_enter hfl (by decide) (Nat.le_of_ble_eq_true rfl) (fun p e s m args below meth c hC => ?_)
  refine g_eq (F := f_X0_turnStay M a1 a2) rfl ?_
  refine g_lv0 (lv1 := [(0, .ref (zad Z 1)), (1, .int a1), (2, .int a2)]) rfl ?_
  unfold f_X0_turnStay
  refine g_aload_n hC 0 dX0_turnStay_0 rfl rfl ?_
  refine gf_X0_35 hC dX0_turnStay_1 ?_
  refine g_iload_n hC 1 dX0_turnStay_4 rfl rfl ?_
  refine g_aald hC 15 (by decide) rfl dX0_turnStay_5 (fun hr5 => ?_)
  refine g_aload_n hC 0 dX0_turnStay_6 rfl rfl ?_
  refine gf_X0_38 hC dX0_turnStay_7 ?_
  refine g_iload_n hC 1 dX0_turnStay_10 rfl rfl ?_
  refine g_iald hC 24 (by decide) rfl dX0_turnStay_11 ?_
  refine g_aload_n hC 0 dX0_turnStay_12 rfl rfl ?_
  refine gf_X0_49 hC dX0_turnStay_13 ?_
  refine g_rastv hC 16 15 8 160 grid_15 hr5 dX0_turnStay_16 (fun M6 => ?_)
  refine g_aload_n hC 0 dX0_turnStay_17 rfl rfl ?_
  refine gf_X0_38 hC dX0_turnStay_18 ?_
  refine g_iload_n hC 1 dX0_turnStay_21 rfl rfl ?_
  refine g_dup2 hC dX0_turnStay_22 rfl rfl ?_
  refine g_iald hC 24 (by decide) rfl dX0_turnStay_23 ?_
  refine g_iconst hC (v := 1) dX0_turnStay_24 (by decide) ?_
  refine g_iadd hC dX0_turnStay_25 ?_
  refine g_iast hC 24 (by decide) rfl dX0_turnStay_26 (fun M7 => ?_)
  refine g_iconst hC (v := 1) dX0_turnStay_27 (by decide) ?_
  refine g_iload_n hC 1 dX0_turnStay_28 rfl rfl ?_
  refine g_ishl hC dX0_turnStay_29 ?_
  refine g_bv (fun x8 => ?_)
  refine g_istore_n hC (lv1 := [(3, .int x8), (0, .ref (zad Z 1)), (1, .int a1), (2, .int a2)]) dX0_turnStay_30 rfl (by decide) rfl ?_
  refine g_aload_n hC 1 dX0_turnStay_31 rfl rfl ?_
  refine gf_X0_49 hC dX0_turnStay_32 ?_
  refine g_bv (fun x9 => ?_)
  refine g_istore hC (lv1 := [(4, .int x9), (3, .int x8), (0, .ref (zad Z 1)), (1, .int a1), (2, .int a2)]) dX0_turnStay_35 (by decide) rfl ?_
  refine g_sub (lv1 := [(0, .ref (zad Z 1)), (2, .int a2), (3, .int x8), (4, .int x9)]) [2, 4, 1, 0] rfl ?_
  exact g_X0_turnStay_l37 hC  5000 M7 a2 x8 x9

-- ===== X0_isPast =====
def f_X0_isPast (M : gM) (a1 : Int32) : gR := (if a1 = (-1) then (rRet 0 M) else (if (M 1 0) ≤ a1 then (rRet 0 M) else (rRet 1 M)))
abbrev rm_X0_isPast : Room := { frames := 0, cells := 0, slots := 0, locals := 0 }
set_option maxRecDepth 20000 in
set_option maxHeartbeats 4000000 in
theorem c_X0_isPast {l : Launch} (hfl : l.stackTraces = false) (Z : gZ) (M : gM) (a1 : Int32) : gMet l yX0_isPast cX0_isPast 2 (some .boolean) rm_X0_isPast 1 0 Z M [.ref (zad Z 1), .int a1] (f_X0_isPast M a1) := by
  refine g_enter hfl (by decide) (Nat.le_of_ble_eq_true rfl) (fun p e s m args below meth c hC => ?_)
  refine g_eq (F := f_X0_isPast M a1) rfl ?_
  refine g_lv0 (lv1 := [(0, .ref (zad Z 1)), (1, .int a1)]) rfl ?_
  unfold f_X0_isPast
  refine g_iload_n hC 1 dX0_isPast_0 rfl rfl ?_
  refine g_iconst hC (v := (-1)) dX0_isPast_1 (by decide) ?_
  refine g_icmp_eq (tgt := 17) hC dX0_isPast_2 (by decide) (fun _ => ?_) (fun _ => ?_)
  · refine g_iconst hC (v := 0) dX0_isPast_17 (by decide) ?_
    exact g_zret0 hC rfl (by decide) dX0_isPast_18
  · refine g_aload_n hC 0 dX0_isPast_5 rfl rfl ?_
    refine gf_X0_49 hC dX0_isPast_6 ?_
    refine g_iload_n hC 1 dX0_isPast_9 rfl rfl ?_
    refine g_icmp_le (tgt := 17) hC dX0_isPast_10 (by decide) (fun _ => ?_) (fun _ => ?_)
    · refine g_iconst hC (v := 0) dX0_isPast_17 (by decide) ?_
      exact g_zret0 hC rfl (by decide) dX0_isPast_18
    · refine g_iconst hC (v := 1) dX0_isPast_13 (by decide) ?_
      refine g_goto (tgt := 18) hC dX0_isPast_14 (by decide) ?_
      exact g_zret1 hC rfl (by decide) dX0_isPast_18

-- ===== X0_end =====
def f_X0_end_b70 (self8 : gM → Int32 → Int32 → Int32 → Int32 → gR) (M : gM) (a3 : Int32) (a4 : Int32) (a5 : Int32) (a6 : Int32) (a7 : Int32)  : gR := (if a5 = 0 then (if a7 = 0 then (rRet a6 M) else (bV (a6 + 1) (fun x1 => (self8 M a3 a4 a5 x1)))) else (bV (a6 + 1) (fun x2 => (self8 M a3 a4 a5 x2))))
def f_X0_end_b67 (self8 : gM → Int32 → Int32 → Int32 → Int32 → gR) (M : gM) (a3 : Int32) (a4 : Int32) (a5 : Int32) (a6 : Int32) (a7 : Int32)  : gR := (bV (a5 + (-1)) (fun x3 => (f_X0_end_b70 self8 M a3 a4 x3 a6 a7 )))
def f_X0_end_b51 (self8 : gM → Int32 → Int32 → Int32 → Int32 → gR) (M : gM) (a3 : Int32) (a4 : Int32) (a5 : Int32) (a6 : Int32) (t0 : Int32) : gR := (if a5 ≤ 0 then (f_X0_end_b70 self8 M a3 a4 a5 a6 t0 ) else (if a3 = 0 then (f_X0_end_b67 self8 M a3 a4 a5 a6 t0 ) else (if t0 = 0 then (f_X0_end_b67 self8 M a3 a4 a5 a6 t0 ) else (f_X0_end_b70 self8 M a3 a4 a5 a6 t0 ))))
def f_X0_end_lb8  (self8 : gM → Int32 → Int32 → Int32 → Int32 → gR) (M : gM) (a3 : Int32) (a4 : Int32) (a5 : Int32) (a6 : Int32) : gR := (if 1400 < a6 then (rRet (-1) M) else (gI a6 1401 (if ((M 11 a6.toNatClampNeg) &&& a4) = 0 then (gI a6 1401 (if ((M 11 a6.toNatClampNeg) &&& 256) = 0 then (f_X0_end_b51 self8 M a3 a4 a5 a6 0) else (f_X0_end_b51 self8 M a3 a4 a5 a6 1))) else (bV (a6 + 1) (fun x4 => (self8 M a3 a4 a5 x4))))))
def f_X0_end_l8  : Nat → gM → Int32 → Int32 → Int32 → Int32 → gR
  | 0, _, _, _, _, _ => rStuck
  | n + 1, M, a3, a4, a5, a6 => f_X0_end_lb8  (f_X0_end_l8  n) M a3 a4 a5 a6
def f_X0_end (M : gM) (a1 : Int32) (a2 : Int32) (a3 : Int32) (a4 : Int32) : gR := (bV (a1 + 1) (fun x5 => (f_X0_end_l8  5000 M a3 a4 a2 x5)))
abbrev rm_X0_end : Room := { frames := 0, cells := 0, slots := 0, locals := 0 }
set_option maxRecDepth 20000 in
set_option maxHeartbeats 4000000 in
theorem g_X0_end_b70 {p : Program} {l : Launch} {e : Env} {s : State} {m : MethodId} {args : Array Value} {below : List Frame} {meth : Method} {c : Code} {Z : gZ} (hC : gC p l s m args meth c cX0_end 8 RX0 (some .int) Z) {self8 : gM → Int32 → Int32 → Int32 → Int32 → gR} (hs8 : ∀ (M : gM) (a3 : Int32) (a4 : Int32) (a5 : Int32) (a6 : Int32) , gW p l e rm_X0_end s m args below meth c 8 Z 1 0 0 M 8 [(0, .ref (zad Z 1)), (3, .int a3), (4, .int a4), (5, .int a5), (6, .int a6)] [] (self8 M a3 a4 a5 a6)) (M : gM) (a3 : Int32) (a4 : Int32) (a5 : Int32) (a6 : Int32) (a7 : Int32)  : gW p l e rm_X0_end s m args below meth c 8 Z 1 0 0 M 70 [(0, .ref (zad Z 1)), (3, .int a3), (4, .int a4), (5, .int a5), (6, .int a6), (7, .int a7)] [] (f_X0_end_b70 self8 M a3 a4 a5 a6 a7 ) := by
  unfold f_X0_end_b70
  refine g_iload hC 3 dX0_end_70 rfl ?_
  refine g_if_ne (tgt := 83) hC dX0_end_72 (by decide) (fun _ => ?_) (fun _ => ?_)
  · refine g_iload hC 5 dX0_end_75 rfl ?_
    refine g_if_ne (tgt := 83) hC dX0_end_77 (by decide) (fun _ => ?_) (fun _ => ?_)
    · refine g_iload hC 4 dX0_end_80 rfl ?_
      exact g_iret hC rfl (by decide) dX0_end_82
    · refine g_iinc hC 4 (v := 1) (fun x1 => [(6, .int x1), (0, .ref (zad Z 1)), (3, .int a3), (4, .int a4), (5, .int a5), (7, .int a7)]) dX0_end_83 rfl (by decide) (by decide) (fun _ => rfl) (fun x1 => ?_)
      refine g_goto (tgt := 8) hC dX0_end_86 (by decide) ?_
      refine g_sub (lv1 := [(0, .ref (zad Z 1)), (3, .int a3), (4, .int a4), (5, .int a5), (6, .int x1)]) [1, 2, 3, 4, 0] rfl ?_
      exact hs8 M a3 a4 a5 x1
  · refine g_iinc hC 4 (v := 1) (fun x2 => [(6, .int x2), (0, .ref (zad Z 1)), (3, .int a3), (4, .int a4), (5, .int a5), (7, .int a7)]) dX0_end_83 rfl (by decide) (by decide) (fun _ => rfl) (fun x2 => ?_)
    refine g_goto (tgt := 8) hC dX0_end_86 (by decide) ?_
    refine g_sub (lv1 := [(0, .ref (zad Z 1)), (3, .int a3), (4, .int a4), (5, .int a5), (6, .int x2)]) [1, 2, 3, 4, 0] rfl ?_
    exact hs8 M a3 a4 a5 x2
set_option maxRecDepth 20000 in
set_option maxHeartbeats 4000000 in
theorem g_X0_end_b67 {p : Program} {l : Launch} {e : Env} {s : State} {m : MethodId} {args : Array Value} {below : List Frame} {meth : Method} {c : Code} {Z : gZ} (hC : gC p l s m args meth c cX0_end 8 RX0 (some .int) Z) {self8 : gM → Int32 → Int32 → Int32 → Int32 → gR} (hs8 : ∀ (M : gM) (a3 : Int32) (a4 : Int32) (a5 : Int32) (a6 : Int32) , gW p l e rm_X0_end s m args below meth c 8 Z 1 0 0 M 8 [(0, .ref (zad Z 1)), (3, .int a3), (4, .int a4), (5, .int a5), (6, .int a6)] [] (self8 M a3 a4 a5 a6)) (M : gM) (a3 : Int32) (a4 : Int32) (a5 : Int32) (a6 : Int32) (a7 : Int32)  : gW p l e rm_X0_end s m args below meth c 8 Z 1 0 0 M 67 [(0, .ref (zad Z 1)), (3, .int a3), (4, .int a4), (5, .int a5), (6, .int a6), (7, .int a7)] [] (f_X0_end_b67 self8 M a3 a4 a5 a6 a7 ) := by
  unfold f_X0_end_b67
  refine g_iinc hC 3 (v := (-1)) (fun x3 => [(5, .int x3), (0, .ref (zad Z 1)), (3, .int a3), (4, .int a4), (6, .int a6), (7, .int a7)]) dX0_end_67 rfl (by decide) (by decide) (fun _ => rfl) (fun x3 => ?_)
  refine g_sub (lv1 := [(0, .ref (zad Z 1)), (3, .int a3), (4, .int a4), (5, .int x3), (6, .int a6), (7, .int a7)]) [1, 2, 3, 0, 4, 5] rfl ?_
  exact g_X0_end_b70 hC hs8 M a3 a4 x3 a6 a7 
set_option maxRecDepth 20000 in
set_option maxHeartbeats 4000000 in
theorem g_X0_end_b51 {p : Program} {l : Launch} {e : Env} {s : State} {m : MethodId} {args : Array Value} {below : List Frame} {meth : Method} {c : Code} {Z : gZ} (hC : gC p l s m args meth c cX0_end 8 RX0 (some .int) Z) {self8 : gM → Int32 → Int32 → Int32 → Int32 → gR} (hs8 : ∀ (M : gM) (a3 : Int32) (a4 : Int32) (a5 : Int32) (a6 : Int32) , gW p l e rm_X0_end s m args below meth c 8 Z 1 0 0 M 8 [(0, .ref (zad Z 1)), (3, .int a3), (4, .int a4), (5, .int a5), (6, .int a6)] [] (self8 M a3 a4 a5 a6)) (M : gM) (a3 : Int32) (a4 : Int32) (a5 : Int32) (a6 : Int32) (t0 : Int32) : gW p l e rm_X0_end s m args below meth c 8 Z 1 0 0 M 51 [(0, .ref (zad Z 1)), (3, .int a3), (4, .int a4), (5, .int a5), (6, .int a6)] [.int t0] (f_X0_end_b51 self8 M a3 a4 a5 a6 t0) := by
  unfold f_X0_end_b51
  refine g_istore hC (lv1 := [(7, .int t0), (0, .ref (zad Z 1)), (3, .int a3), (4, .int a4), (5, .int a5), (6, .int a6)]) dX0_end_51 (by decide) rfl ?_
  refine g_iload hC 4 dX0_end_53 rfl ?_
  refine g_if_le (tgt := 70) hC dX0_end_55 (by decide) (fun _ => ?_) (fun _ => ?_)
  · refine g_sub (lv1 := [(0, .ref (zad Z 1)), (3, .int a3), (4, .int a4), (5, .int a5), (6, .int a6), (7, .int t0)]) [1, 2, 3, 4, 5, 0] rfl ?_
    exact g_X0_end_b70 hC hs8 M a3 a4 a5 a6 t0 
  · refine g_iload_n hC 2 dX0_end_58 rfl rfl ?_
    refine g_if_eq (tgt := 67) hC dX0_end_59 (by decide) (fun _ => ?_) (fun _ => ?_)
    · refine g_sub (lv1 := [(0, .ref (zad Z 1)), (3, .int a3), (4, .int a4), (5, .int a5), (6, .int a6), (7, .int t0)]) [1, 2, 3, 4, 5, 0] rfl ?_
      exact g_X0_end_b67 hC hs8 M a3 a4 a5 a6 t0 
    · refine g_iload hC 0 dX0_end_62 rfl ?_
      refine g_if_ne (tgt := 70) hC dX0_end_64 (by decide) (fun _ => ?_) (fun _ => ?_)
      · refine g_sub (lv1 := [(0, .ref (zad Z 1)), (3, .int a3), (4, .int a4), (5, .int a5), (6, .int a6), (7, .int t0)]) [1, 2, 3, 4, 5, 0] rfl ?_
        exact g_X0_end_b67 hC hs8 M a3 a4 a5 a6 t0 
      · refine g_sub (lv1 := [(0, .ref (zad Z 1)), (3, .int a3), (4, .int a4), (5, .int a5), (6, .int a6), (7, .int t0)]) [1, 2, 3, 4, 5, 0] rfl ?_
        exact g_X0_end_b70 hC hs8 M a3 a4 a5 a6 t0 
set_option maxRecDepth 20000 in
set_option maxHeartbeats 4000000 in
theorem g_X0_end_lb8 {p : Program} {l : Launch} {e : Env} {s : State} {m : MethodId} {args : Array Value} {below : List Frame} {meth : Method} {c : Code} {Z : gZ} (hC : gC p l s m args meth c cX0_end 8 RX0 (some .int) Z)  {self8 : gM → Int32 → Int32 → Int32 → Int32 → gR}  (hs8 : ∀ (M : gM) (a3 : Int32) (a4 : Int32) (a5 : Int32) (a6 : Int32) , gW p l e rm_X0_end s m args below meth c 8 Z 1 0 0 M 8 [(0, .ref (zad Z 1)), (3, .int a3), (4, .int a4), (5, .int a5), (6, .int a6)] [] (self8 M a3 a4 a5 a6)) (M : gM) (a3 : Int32) (a4 : Int32) (a5 : Int32) (a6 : Int32) : gW p l e rm_X0_end s m args below meth c 8 Z 1 0 0 M 8 [(0, .ref (zad Z 1)), (3, .int a3), (4, .int a4), (5, .int a5), (6, .int a6)] [] (f_X0_end_lb8  self8 M a3 a4 a5 a6) := by
  unfold f_X0_end_lb8
  refine g_iload hC 4 dX0_end_8 rfl ?_
  refine g_sipush hC (v := 1400) dX0_end_10 (by decide) ?_
  refine g_icmp_gt (tgt := 89) hC dX0_end_13 (by decide) (fun _ => ?_) (fun _ => ?_)
  · refine g_iconst hC (v := (-1)) dX0_end_89 (by decide) ?_
    exact g_iret hC rfl (by decide) dX0_end_90
  · refine g_aload_n hC 0 dX0_end_16 rfl rfl ?_
    refine gf_X0_9 hC dX0_end_17 ?_
    refine g_iload hC 4 dX0_end_20 rfl ?_
    refine g_iald hC 11 (by decide) rfl dX0_end_22 ?_
    refine g_iload hC 2 dX0_end_23 rfl ?_
    refine g_iand hC dX0_end_25 ?_
    refine g_if_eq (tgt := 32) hC dX0_end_26 (by decide) (fun _ => ?_) (fun _ => ?_)
    · refine g_aload_n hC 0 dX0_end_32 rfl rfl ?_
      refine gf_X0_9 hC dX0_end_33 ?_
      refine g_iload hC 4 dX0_end_36 rfl ?_
      refine g_iald hC 11 (by decide) rfl dX0_end_38 ?_
      refine g_sipush hC (v := 256) dX0_end_39 (by decide) ?_
      refine g_iand hC dX0_end_42 ?_
      refine g_if_eq (tgt := 50) hC dX0_end_43 (by decide) (fun _ => ?_) (fun _ => ?_)
      · refine g_iconst hC (v := 0) dX0_end_50 (by decide) ?_
        exact g_X0_end_b51 hC hs8 M a3 a4 a5 a6 0
      · refine g_iconst hC (v := 1) dX0_end_46 (by decide) ?_
        refine g_goto (tgt := 51) hC dX0_end_47 (by decide) ?_
        exact g_X0_end_b51 hC hs8 M a3 a4 a5 a6 1
    · refine g_goto (tgt := 83) hC dX0_end_29 (by decide) ?_
      refine g_iinc hC 4 (v := 1) (fun x4 => [(6, .int x4), (0, .ref (zad Z 1)), (3, .int a3), (4, .int a4), (5, .int a5)]) dX0_end_83 rfl (by decide) (by decide) (fun _ => rfl) (fun x4 => ?_)
      refine g_goto (tgt := 8) hC dX0_end_86 (by decide) ?_
      refine g_sub (lv1 := [(0, .ref (zad Z 1)), (3, .int a3), (4, .int a4), (5, .int a5), (6, .int x4)]) [1, 2, 3, 4, 0] rfl ?_
      exact hs8 M a3 a4 a5 x4
set_option maxRecDepth 20000 in
set_option maxHeartbeats 4000000 in
theorem g_X0_end_l8 {p : Program} {l : Launch} {e : Env} {s : State} {m : MethodId} {args : Array Value} {below : List Frame} {meth : Method} {c : Code} {Z : gZ} (hC : gC p l s m args meth c cX0_end 8 RX0 (some .int) Z)   : ∀ (n : Nat) (M : gM) (a3 : Int32) (a4 : Int32) (a5 : Int32) (a6 : Int32), gW p l e rm_X0_end s m args below meth c 8 Z 1 0 0 M 8 [(0, .ref (zad Z 1)), (3, .int a3), (4, .int a4), (5, .int a5), (6, .int a6)] [] (f_X0_end_l8  n M a3 a4 a5 a6)
  | 0, _, _, _, _, _ => g_stuck
  | n + 1, M, a3, a4, a5, a6 => g_X0_end_lb8 hC  (g_X0_end_l8 hC  n) M a3 a4 a5 a6
set_option maxRecDepth 20000 in
set_option maxHeartbeats 4000000 in
theorem c_X0_end {l : Launch} (hfl : l.stackTraces = false) (Z : gZ) (M : gM) (a1 : Int32) (a2 : Int32) (a3 : Int32) (a4 : Int32) : gMet l yX0_end cX0_end 8 (some .int) rm_X0_end 1 0 Z M [.ref (zad Z 1), .int a1, .int a2, .int a3, .int a4] (f_X0_end M a1 a2 a3 a4) := by
  refine g_enter hfl (by decide) (Nat.le_of_ble_eq_true rfl) (fun p e s m args below meth c hC => ?_)
  refine g_eq (F := f_X0_end M a1 a2 a3 a4) rfl ?_
  refine g_lv0 (lv1 := [(0, .ref (zad Z 1)), (1, .int a1), (2, .int a2), (3, .int a3), (4, .int a4)]) rfl ?_
  unfold f_X0_end
  refine g_iload_n hC 2 dX0_end_0 rfl rfl ?_
  refine g_istore hC (lv1 := [(5, .int a2), (0, .ref (zad Z 1)), (1, .int a1), (2, .int a2), (3, .int a3), (4, .int a4)]) dX0_end_1 (by decide) rfl ?_
  refine g_iload_n hC 2 dX0_end_3 rfl rfl ?_
  refine g_iconst hC (v := 1) dX0_end_4 (by decide) ?_
  refine g_iadd hC dX0_end_5 ?_
  refine g_bv (fun x5 => ?_)
  refine g_istore hC (lv1 := [(6, .int x5), (5, .int a2), (0, .ref (zad Z 1)), (1, .int a1), (2, .int a2), (3, .int a3), (4, .int a4)]) dX0_end_6 (by decide) rfl ?_
  refine g_sub (lv1 := [(0, .ref (zad Z 1)), (3, .int a3), (4, .int a4), (5, .int a2), (6, .int x5)]) [2, 5, 6, 1, 0] rfl ?_
  exact g_X0_end_l8 hC  5000 M a3 a4 a2 x5

-- ===== X0_isStayedOn =====
def f_X0_isStayedOn_lb9  (self9 : gM → Int32 → Int32 → Int32 → gR) (M : gM) (a1 : Int32) (a2 : Int32) (a3 : Int32) : gR := (if a3 < 0 then (rRet 0 M) else (gI a1 8 (gI a3 160 (if a2 < (M 15 (a1.toNatClampNeg * 160 + a3.toNatClampNeg)) then (bV (a3 + (-1)) (fun x2 => (self9 M a1 a2 x2))) else (gNz 2 (if (a3 - a3 / 2 * 2) = 0 then (rRet 1 M) else (rRet 0 M)))))))
def f_X0_isStayedOn_l9  : Nat → gM → Int32 → Int32 → Int32 → gR
  | 0, _, _, _, _ => rStuck
  | n + 1, M, a1, a2, a3 => f_X0_isStayedOn_lb9  (f_X0_isStayedOn_l9  n) M a1 a2 a3
def f_X0_isStayedOn (M : gM) (a1 : Int32) (a2 : Int32) : gR := (gI a1 8 (bV ((M 24 a1.toNatClampNeg) - 1) (fun x3 => (f_X0_isStayedOn_l9  5000 M a1 a2 x3))))
abbrev rm_X0_isStayedOn : Room := { frames := 0, cells := 0, slots := 0, locals := 0 }
set_option maxRecDepth 20000 in
set_option maxHeartbeats 4000000 in
theorem g_X0_isStayedOn_lb9 {p : Program} {l : Launch} {e : Env} {s : State} {m : MethodId} {args : Array Value} {below : List Frame} {meth : Method} {c : Code} {Z : gZ} (hC : gC p l s m args meth c cX0_isStayedOn 4 RX0 (some .boolean) Z)  {self9 : gM → Int32 → Int32 → Int32 → gR}  (hs9 : ∀ (M : gM) (a1 : Int32) (a2 : Int32) (a3 : Int32) , gW p l e rm_X0_isStayedOn s m args below meth c 4 Z 1 0 0 M 9 [(0, .ref (zad Z 1)), (1, .int a1), (2, .int a2), (3, .int a3)] [] (self9 M a1 a2 a3)) (M : gM) (a1 : Int32) (a2 : Int32) (a3 : Int32) : gW p l e rm_X0_isStayedOn s m args below meth c 4 Z 1 0 0 M 9 [(0, .ref (zad Z 1)), (1, .int a1), (2, .int a2), (3, .int a3)] [] (f_X0_isStayedOn_lb9  self9 M a1 a2 a3) := by
  unfold f_X0_isStayedOn_lb9
  refine g_iload_n hC 3 dX0_isStayedOn_9 rfl rfl ?_
  refine g_if_lt (tgt := 43) hC dX0_isStayedOn_10 (by decide) (fun _ => ?_) (fun _ => ?_)
  · refine g_iconst hC (v := 0) dX0_isStayedOn_43 (by decide) ?_
    exact g_zret0 hC rfl (by decide) dX0_isStayedOn_44
  · refine g_aload_n hC 0 dX0_isStayedOn_13 rfl rfl ?_
    refine gf_X0_35 hC dX0_isStayedOn_14 ?_
    refine g_iload_n hC 1 dX0_isStayedOn_17 rfl rfl ?_
    refine g_aald hC 15 (by decide) rfl dX0_isStayedOn_18 (fun hr1 => ?_)
    refine g_iload_n hC 3 dX0_isStayedOn_19 rfl rfl ?_
    refine g_raldv hC 16 15 8 160 grid_15 hr1 dX0_isStayedOn_20 ?_
    refine g_iload_n hC 2 dX0_isStayedOn_21 rfl rfl ?_
    refine g_icmp_gt (tgt := 37) hC dX0_isStayedOn_22 (by decide) (fun _ => ?_) (fun _ => ?_)
    · refine g_iinc hC 3 (v := (-1)) (fun x2 => [(3, .int x2), (0, .ref (zad Z 1)), (1, .int a1), (2, .int a2)]) dX0_isStayedOn_37 rfl (by decide) (by decide) (fun _ => rfl) (fun x2 => ?_)
      refine g_goto (tgt := 9) hC dX0_isStayedOn_40 (by decide) ?_
      refine g_sub (lv1 := [(0, .ref (zad Z 1)), (1, .int a1), (2, .int a2), (3, .int x2)]) [1, 2, 3, 0] rfl ?_
      exact hs9 M a1 a2 x2
    · refine g_iload_n hC 3 dX0_isStayedOn_25 rfl rfl ?_
      refine g_iconst hC (v := 2) dX0_isStayedOn_26 (by decide) ?_
      refine g_irem hC dX0_isStayedOn_27 ?_
      refine g_if_ne (tgt := 35) hC dX0_isStayedOn_28 (by decide) (fun _ => ?_) (fun _ => ?_)
      · refine g_iconst hC (v := 1) dX0_isStayedOn_31 (by decide) ?_
        refine g_goto (tgt := 36) hC dX0_isStayedOn_32 (by decide) ?_
        exact g_zret1 hC rfl (by decide) dX0_isStayedOn_36
      · refine g_iconst hC (v := 0) dX0_isStayedOn_35 (by decide) ?_
        exact g_zret0 hC rfl (by decide) dX0_isStayedOn_36
set_option maxRecDepth 20000 in
set_option maxHeartbeats 4000000 in
theorem g_X0_isStayedOn_l9 {p : Program} {l : Launch} {e : Env} {s : State} {m : MethodId} {args : Array Value} {below : List Frame} {meth : Method} {c : Code} {Z : gZ} (hC : gC p l s m args meth c cX0_isStayedOn 4 RX0 (some .boolean) Z)   : ∀ (n : Nat) (M : gM) (a1 : Int32) (a2 : Int32) (a3 : Int32), gW p l e rm_X0_isStayedOn s m args below meth c 4 Z 1 0 0 M 9 [(0, .ref (zad Z 1)), (1, .int a1), (2, .int a2), (3, .int a3)] [] (f_X0_isStayedOn_l9  n M a1 a2 a3)
  | 0, _, _, _, _ => g_stuck
  | n + 1, M, a1, a2, a3 => g_X0_isStayedOn_lb9 hC  (g_X0_isStayedOn_l9 hC  n) M a1 a2 a3
set_option maxRecDepth 20000 in
set_option maxHeartbeats 4000000 in
theorem c_X0_isStayedOn {l : Launch} (hfl : l.stackTraces = false) (Z : gZ) (M : gM) (a1 : Int32) (a2 : Int32) : gMet l yX0_isStayedOn cX0_isStayedOn 4 (some .boolean) rm_X0_isStayedOn 1 0 Z M [.ref (zad Z 1), .int a1, .int a2] (f_X0_isStayedOn M a1 a2) := by
  refine g_enter hfl (by decide) (Nat.le_of_ble_eq_true rfl) (fun p e s m args below meth c hC => ?_)
  refine g_eq (F := f_X0_isStayedOn M a1 a2) rfl ?_
  refine g_lv0 (lv1 := [(0, .ref (zad Z 1)), (1, .int a1), (2, .int a2)]) rfl ?_
  unfold f_X0_isStayedOn
  refine g_aload_n hC 0 dX0_isStayedOn_0 rfl rfl ?_
  refine gf_X0_38 hC dX0_isStayedOn_1 ?_
  refine g_iload_n hC 1 dX0_isStayedOn_4 rfl rfl ?_
  refine g_iald hC 24 (by decide) rfl dX0_isStayedOn_5 ?_
  refine g_iconst hC (v := 1) dX0_isStayedOn_6 (by decide) ?_
  refine g_isub hC dX0_isStayedOn_7 ?_
  refine g_bv (fun x3 => ?_)
  refine g_istore_n hC (lv1 := [(3, .int x3), (0, .ref (zad Z 1)), (1, .int a1), (2, .int a2)]) dX0_isStayedOn_8 rfl (by decide) rfl ?_
  refine g_sub (lv1 := [(0, .ref (zad Z 1)), (1, .int a1), (2, .int a2), (3, .int x3)]) [1, 2, 3, 0] rfl ?_
  exact g_X0_isStayedOn_l9 hC  5000 M a1 a2 x3

-- ===== X0_endByDays =====
def f_X0_endByDays_b110 (self8 : gM → Int32 → Int32 → Int32 → Int32 → Int32 → Int32 → gR) (M : gM) (a2 : Int32) (a3 : Int32) (a4 : Int32) (a5 : Int32) (a6 : Int32) (a7 : Int32) (a8 : Int32) (a9 : Int32)  : gR := (if a6 = a2 then (if a8 = 0 then (if a9 = 0 then (rRet a7 M) else (bV (a7 + 1) (fun x1 => (self8 M a2 a3 a4 a5 a6 x1)))) else (bV (a7 + 1) (fun x2 => (self8 M a2 a3 a4 a5 a6 x2)))) else (bV (a7 + 1) (fun x3 => (self8 M a2 a3 a4 a5 a6 x3))))
def f_X0_endByDays_b94 (self8 : gM → Int32 → Int32 → Int32 → Int32 → Int32 → Int32 → gR) (M : gM) (a2 : Int32) (a3 : Int32) (a4 : Int32) (a5 : Int32) (a6 : Int32) (a7 : Int32) (a8 : Int32) (a9 : Int32) (t0 : Int32) : gR := (if t0 = 0 then (f_X0_endByDays_b110 self8 M a2 a3 a4 a5 a6 a7 a8 a9 ) else (if a2 ≤ a6 then (f_X0_endByDays_b110 self8 M a2 a3 a4 a5 a6 a7 a8 a9 ) else (bV (a6 + 1) (fun x4 => (f_X0_endByDays_b110 self8 M a2 a3 a4 a5 x4 a7 a8 a9 )))))
def f_X0_endByDays_b89 (self8 : gM → Int32 → Int32 → Int32 → Int32 → Int32 → Int32 → gR) (M : gM) (a2 : Int32) (a3 : Int32) (a4 : Int32) (a5 : Int32) (a6 : Int32) (a7 : Int32) (a8 : Int32) (a9 : Int32)  : gR := (f_X0_endByDays_b94 self8 M a2 a3 a4 a5 a6 a7 a8 a9 1)
def f_X0_endByDays_b93 (self8 : gM → Int32 → Int32 → Int32 → Int32 → Int32 → Int32 → gR) (M : gM) (a2 : Int32) (a3 : Int32) (a4 : Int32) (a5 : Int32) (a6 : Int32) (a7 : Int32) (a8 : Int32) (a9 : Int32)  : gR := (f_X0_endByDays_b94 self8 M a2 a3 a4 a5 a6 a7 a8 a9 0)
def f_X0_endByDays_b73 (self8 : gM → Int32 → Int32 → Int32 → Int32 → Int32 → Int32 → gR) (M : gM) (a2 : Int32) (a3 : Int32) (a4 : Int32) (a5 : Int32) (a6 : Int32) (a7 : Int32) (a8 : Int32) (t0 : Int32) : gR := (if t0 = 0 then (if a8 = 0 then (f_X0_endByDays_b89 self8 M a2 a3 a4 a5 a6 a7 a8 t0 ) else (if a3 = 0 then (f_X0_endByDays_b89 self8 M a2 a3 a4 a5 a6 a7 a8 t0 ) else (f_X0_endByDays_b93 self8 M a2 a3 a4 a5 a6 a7 a8 t0 ))) else (f_X0_endByDays_b93 self8 M a2 a3 a4 a5 a6 a7 a8 t0 ))
def f_X0_endByDays_b68 (self8 : gM → Int32 → Int32 → Int32 → Int32 → Int32 → Int32 → gR) (M : gM) (a2 : Int32) (a3 : Int32) (a4 : Int32) (a5 : Int32) (a6 : Int32) (a7 : Int32) (a8 : Int32)  : gR := (f_X0_endByDays_b73 self8 M a2 a3 a4 a5 a6 a7 a8 1)
def f_X0_endByDays_b72 (self8 : gM → Int32 → Int32 → Int32 → Int32 → Int32 → Int32 → gR) (M : gM) (a2 : Int32) (a3 : Int32) (a4 : Int32) (a5 : Int32) (a6 : Int32) (a7 : Int32) (a8 : Int32)  : gR := (f_X0_endByDays_b73 self8 M a2 a3 a4 a5 a6 a7 a8 0)
def f_X0_endByDays_b38 (self8 : gM → Int32 → Int32 → Int32 → Int32 → Int32 → Int32 → gR) (M : gM) (a2 : Int32) (a3 : Int32) (a4 : Int32) (a5 : Int32) (a6 : Int32) (a7 : Int32) (t0 : Int32) : gR := (rb (f_X0_isStayedOn M a4 a7) (fun x6 M5 => (if x6 = 0 then (if a5 = (-1) then (f_X0_endByDays_b72 self8 M5 a2 a3 a4 a5 a6 a7 t0 ) else (rb (f_X0_isStayedOn M5 a5 a7) (fun x8 M7 => (if x8 = 0 then (f_X0_endByDays_b72 self8 M7 a2 a3 a4 a5 a6 a7 t0 ) else (f_X0_endByDays_b68 self8 M7 a2 a3 a4 a5 a6 a7 t0 ))))) else (f_X0_endByDays_b68 self8 M5 a2 a3 a4 a5 a6 a7 t0 ))))
def f_X0_endByDays_b33 (self8 : gM → Int32 → Int32 → Int32 → Int32 → Int32 → Int32 → gR) (M : gM) (a2 : Int32) (a3 : Int32) (a4 : Int32) (a5 : Int32) (a6 : Int32) (a7 : Int32)  : gR := (f_X0_endByDays_b38 self8 M a2 a3 a4 a5 a6 a7 1)
def f_X0_endByDays_lb8  (self8 : gM → Int32 → Int32 → Int32 → Int32 → Int32 → Int32 → gR) (M : gM) (a2 : Int32) (a3 : Int32) (a4 : Int32) (a5 : Int32) (a6 : Int32) (a7 : Int32) : gR := (if 1400 < a7 then (rRet (-1) M) else (rb (f_X0_isWeekend M a7) (fun x10 M9 => (if x10 = 0 then (rb (f_X0_isHoliday M9 a7) (fun x12 M11 => (if x12 = 0 then (f_X0_endByDays_b38 self8 M11 a2 a3 a4 a5 a6 a7 0) else (f_X0_endByDays_b33 self8 M11 a2 a3 a4 a5 a6 a7 )))) else (f_X0_endByDays_b33 self8 M9 a2 a3 a4 a5 a6 a7 )))))
def f_X0_endByDays_l8  : Nat → gM → Int32 → Int32 → Int32 → Int32 → Int32 → Int32 → gR
  | 0, _, _, _, _, _, _, _ => rStuck
  | n + 1, M, a2, a3, a4, a5, a6, a7 => f_X0_endByDays_lb8  (f_X0_endByDays_l8  n) M a2 a3 a4 a5 a6 a7
def f_X0_endByDays (M : gM) (a1 : Int32) (a2 : Int32) (a3 : Int32) (a4 : Int32) (a5 : Int32) : gR := (bV (a1 + 1) (fun x13 => (f_X0_endByDays_l8  5000 M a2 a3 a4 a5 0 x13)))
abbrev rm_X0_endByDays : Room := { frames := 1, cells := 0, slots := 0, locals := 23 }
set_option maxRecDepth 20000 in
set_option maxHeartbeats 4000000 in
theorem g_X0_endByDays_b110 {p : Program} {l : Launch} {e : Env} {s : State} {m : MethodId} {args : Array Value} {below : List Frame} {meth : Method} {c : Code} {Z : gZ} (hC : gC p l s m args meth c cX0_endByDays 11 RX0 (some .int) Z) {self8 : gM → Int32 → Int32 → Int32 → Int32 → Int32 → Int32 → gR} (hs8 : ∀ (M : gM) (a2 : Int32) (a3 : Int32) (a4 : Int32) (a5 : Int32) (a6 : Int32) (a7 : Int32) , gW p l e rm_X0_endByDays s m args below meth c 11 Z 1 0 0 M 8 [(0, .ref (zad Z 1)), (2, .int a2), (3, .int a3), (4, .int a4), (5, .int a5), (6, .int a6), (7, .int a7)] [] (self8 M a2 a3 a4 a5 a6 a7)) (M : gM) (a2 : Int32) (a3 : Int32) (a4 : Int32) (a5 : Int32) (a6 : Int32) (a7 : Int32) (a8 : Int32) (a9 : Int32)  : gW p l e rm_X0_endByDays s m args below meth c 11 Z 1 0 0 M 110 [(0, .ref (zad Z 1)), (2, .int a2), (3, .int a3), (4, .int a4), (5, .int a5), (6, .int a6), (7, .int a7), (8, .int a8), (9, .int a9)] [] (f_X0_endByDays_b110 self8 M a2 a3 a4 a5 a6 a7 a8 a9 ) := by
  unfold f_X0_endByDays_b110
  refine g_iload hC 5 dX0_endByDays_110 rfl ?_
  refine g_iload_n hC 1 dX0_endByDays_112 rfl rfl ?_
  refine g_icmp_ne (tgt := 129) hC dX0_endByDays_113 (by decide) (fun _ => ?_) (fun _ => ?_)
  · refine g_iload hC 7 dX0_endByDays_116 rfl ?_
    refine g_if_ne (tgt := 129) hC dX0_endByDays_118 (by decide) (fun _ => ?_) (fun _ => ?_)
    · refine g_iload hC 8 dX0_endByDays_121 rfl ?_
      refine g_if_ne (tgt := 129) hC dX0_endByDays_123 (by decide) (fun _ => ?_) (fun _ => ?_)
      · refine g_iload hC 6 dX0_endByDays_126 rfl ?_
        exact g_iret hC rfl (by decide) dX0_endByDays_128
      · refine g_iinc hC 6 (v := 1) (fun x1 => [(7, .int x1), (0, .ref (zad Z 1)), (2, .int a2), (3, .int a3), (4, .int a4), (5, .int a5), (6, .int a6), (8, .int a8), (9, .int a9)]) dX0_endByDays_129 rfl (by decide) (by decide) (fun _ => rfl) (fun x1 => ?_)
        refine g_goto (tgt := 8) hC dX0_endByDays_132 (by decide) ?_
        refine g_sub (lv1 := [(0, .ref (zad Z 1)), (2, .int a2), (3, .int a3), (4, .int a4), (5, .int a5), (6, .int a6), (7, .int x1)]) [1, 2, 3, 4, 5, 6, 0] rfl ?_
        exact hs8 M a2 a3 a4 a5 a6 x1
    · refine g_iinc hC 6 (v := 1) (fun x2 => [(7, .int x2), (0, .ref (zad Z 1)), (2, .int a2), (3, .int a3), (4, .int a4), (5, .int a5), (6, .int a6), (8, .int a8), (9, .int a9)]) dX0_endByDays_129 rfl (by decide) (by decide) (fun _ => rfl) (fun x2 => ?_)
      refine g_goto (tgt := 8) hC dX0_endByDays_132 (by decide) ?_
      refine g_sub (lv1 := [(0, .ref (zad Z 1)), (2, .int a2), (3, .int a3), (4, .int a4), (5, .int a5), (6, .int a6), (7, .int x2)]) [1, 2, 3, 4, 5, 6, 0] rfl ?_
      exact hs8 M a2 a3 a4 a5 a6 x2
  · refine g_iinc hC 6 (v := 1) (fun x3 => [(7, .int x3), (0, .ref (zad Z 1)), (2, .int a2), (3, .int a3), (4, .int a4), (5, .int a5), (6, .int a6), (8, .int a8), (9, .int a9)]) dX0_endByDays_129 rfl (by decide) (by decide) (fun _ => rfl) (fun x3 => ?_)
    refine g_goto (tgt := 8) hC dX0_endByDays_132 (by decide) ?_
    refine g_sub (lv1 := [(0, .ref (zad Z 1)), (2, .int a2), (3, .int a3), (4, .int a4), (5, .int a5), (6, .int a6), (7, .int x3)]) [1, 2, 3, 4, 5, 6, 0] rfl ?_
    exact hs8 M a2 a3 a4 a5 a6 x3
set_option maxRecDepth 20000 in
set_option maxHeartbeats 4000000 in
theorem g_X0_endByDays_b94 {p : Program} {l : Launch} {e : Env} {s : State} {m : MethodId} {args : Array Value} {below : List Frame} {meth : Method} {c : Code} {Z : gZ} (hC : gC p l s m args meth c cX0_endByDays 11 RX0 (some .int) Z) {self8 : gM → Int32 → Int32 → Int32 → Int32 → Int32 → Int32 → gR} (hs8 : ∀ (M : gM) (a2 : Int32) (a3 : Int32) (a4 : Int32) (a5 : Int32) (a6 : Int32) (a7 : Int32) , gW p l e rm_X0_endByDays s m args below meth c 11 Z 1 0 0 M 8 [(0, .ref (zad Z 1)), (2, .int a2), (3, .int a3), (4, .int a4), (5, .int a5), (6, .int a6), (7, .int a7)] [] (self8 M a2 a3 a4 a5 a6 a7)) (M : gM) (a2 : Int32) (a3 : Int32) (a4 : Int32) (a5 : Int32) (a6 : Int32) (a7 : Int32) (a8 : Int32) (a9 : Int32) (t0 : Int32) : gW p l e rm_X0_endByDays s m args below meth c 11 Z 1 0 0 M 94 [(0, .ref (zad Z 1)), (2, .int a2), (3, .int a3), (4, .int a4), (5, .int a5), (6, .int a6), (7, .int a7), (8, .int a8), (9, .int a9)] [.int t0] (f_X0_endByDays_b94 self8 M a2 a3 a4 a5 a6 a7 a8 a9 t0) := by
  unfold f_X0_endByDays_b94
  refine g_istore hC (lv1 := [(10, .int t0), (0, .ref (zad Z 1)), (2, .int a2), (3, .int a3), (4, .int a4), (5, .int a5), (6, .int a6), (7, .int a7), (8, .int a8), (9, .int a9)]) dX0_endByDays_94 (by decide) rfl ?_
  refine g_iload hC 0 dX0_endByDays_96 rfl ?_
  refine g_if_eq (tgt := 110) hC dX0_endByDays_98 (by decide) (fun _ => ?_) (fun _ => ?_)
  · refine g_sub (lv1 := [(0, .ref (zad Z 1)), (2, .int a2), (3, .int a3), (4, .int a4), (5, .int a5), (6, .int a6), (7, .int a7), (8, .int a8), (9, .int a9)]) [1, 2, 3, 4, 5, 6, 7, 8, 9] rfl ?_
    exact g_X0_endByDays_b110 hC hs8 M a2 a3 a4 a5 a6 a7 a8 a9 
  · refine g_iload hC 6 dX0_endByDays_101 rfl ?_
    refine g_iload_n hC 2 dX0_endByDays_103 rfl rfl ?_
    refine g_icmp_ge (tgt := 110) hC dX0_endByDays_104 (by decide) (fun _ => ?_) (fun _ => ?_)
    · refine g_sub (lv1 := [(0, .ref (zad Z 1)), (2, .int a2), (3, .int a3), (4, .int a4), (5, .int a5), (6, .int a6), (7, .int a7), (8, .int a8), (9, .int a9)]) [1, 2, 3, 4, 5, 6, 7, 8, 9] rfl ?_
      exact g_X0_endByDays_b110 hC hs8 M a2 a3 a4 a5 a6 a7 a8 a9 
    · refine g_iinc hC 6 (v := 1) (fun x4 => [(6, .int x4), (10, .int t0), (0, .ref (zad Z 1)), (2, .int a2), (3, .int a3), (4, .int a4), (5, .int a5), (7, .int a7), (8, .int a8), (9, .int a9)]) dX0_endByDays_107 rfl (by decide) (by decide) (fun _ => rfl) (fun x4 => ?_)
      refine g_sub (lv1 := [(0, .ref (zad Z 1)), (2, .int a2), (3, .int a3), (4, .int a4), (5, .int a5), (6, .int x4), (7, .int a7), (8, .int a8), (9, .int a9)]) [2, 3, 4, 5, 6, 0, 7, 8, 9] rfl ?_
      exact g_X0_endByDays_b110 hC hs8 M a2 a3 a4 a5 x4 a7 a8 a9 
set_option maxRecDepth 20000 in
set_option maxHeartbeats 4000000 in
theorem g_X0_endByDays_b89 {p : Program} {l : Launch} {e : Env} {s : State} {m : MethodId} {args : Array Value} {below : List Frame} {meth : Method} {c : Code} {Z : gZ} (hC : gC p l s m args meth c cX0_endByDays 11 RX0 (some .int) Z) {self8 : gM → Int32 → Int32 → Int32 → Int32 → Int32 → Int32 → gR} (hs8 : ∀ (M : gM) (a2 : Int32) (a3 : Int32) (a4 : Int32) (a5 : Int32) (a6 : Int32) (a7 : Int32) , gW p l e rm_X0_endByDays s m args below meth c 11 Z 1 0 0 M 8 [(0, .ref (zad Z 1)), (2, .int a2), (3, .int a3), (4, .int a4), (5, .int a5), (6, .int a6), (7, .int a7)] [] (self8 M a2 a3 a4 a5 a6 a7)) (M : gM) (a2 : Int32) (a3 : Int32) (a4 : Int32) (a5 : Int32) (a6 : Int32) (a7 : Int32) (a8 : Int32) (a9 : Int32)  : gW p l e rm_X0_endByDays s m args below meth c 11 Z 1 0 0 M 89 [(0, .ref (zad Z 1)), (2, .int a2), (3, .int a3), (4, .int a4), (5, .int a5), (6, .int a6), (7, .int a7), (8, .int a8), (9, .int a9)] [] (f_X0_endByDays_b89 self8 M a2 a3 a4 a5 a6 a7 a8 a9 ) := by
  unfold f_X0_endByDays_b89
  refine g_iconst hC (v := 1) dX0_endByDays_89 (by decide) ?_
  refine g_goto (tgt := 94) hC dX0_endByDays_90 (by decide) ?_
  exact g_X0_endByDays_b94 hC hs8 M a2 a3 a4 a5 a6 a7 a8 a9 1
set_option maxRecDepth 20000 in
set_option maxHeartbeats 4000000 in
theorem g_X0_endByDays_b93 {p : Program} {l : Launch} {e : Env} {s : State} {m : MethodId} {args : Array Value} {below : List Frame} {meth : Method} {c : Code} {Z : gZ} (hC : gC p l s m args meth c cX0_endByDays 11 RX0 (some .int) Z) {self8 : gM → Int32 → Int32 → Int32 → Int32 → Int32 → Int32 → gR} (hs8 : ∀ (M : gM) (a2 : Int32) (a3 : Int32) (a4 : Int32) (a5 : Int32) (a6 : Int32) (a7 : Int32) , gW p l e rm_X0_endByDays s m args below meth c 11 Z 1 0 0 M 8 [(0, .ref (zad Z 1)), (2, .int a2), (3, .int a3), (4, .int a4), (5, .int a5), (6, .int a6), (7, .int a7)] [] (self8 M a2 a3 a4 a5 a6 a7)) (M : gM) (a2 : Int32) (a3 : Int32) (a4 : Int32) (a5 : Int32) (a6 : Int32) (a7 : Int32) (a8 : Int32) (a9 : Int32)  : gW p l e rm_X0_endByDays s m args below meth c 11 Z 1 0 0 M 93 [(0, .ref (zad Z 1)), (2, .int a2), (3, .int a3), (4, .int a4), (5, .int a5), (6, .int a6), (7, .int a7), (8, .int a8), (9, .int a9)] [] (f_X0_endByDays_b93 self8 M a2 a3 a4 a5 a6 a7 a8 a9 ) := by
  unfold f_X0_endByDays_b93
  refine g_iconst hC (v := 0) dX0_endByDays_93 (by decide) ?_
  exact g_X0_endByDays_b94 hC hs8 M a2 a3 a4 a5 a6 a7 a8 a9 0
set_option maxRecDepth 20000 in
set_option maxHeartbeats 4000000 in
theorem g_X0_endByDays_b73 {p : Program} {l : Launch} {e : Env} {s : State} {m : MethodId} {args : Array Value} {below : List Frame} {meth : Method} {c : Code} {Z : gZ} (hC : gC p l s m args meth c cX0_endByDays 11 RX0 (some .int) Z) {self8 : gM → Int32 → Int32 → Int32 → Int32 → Int32 → Int32 → gR} (hs8 : ∀ (M : gM) (a2 : Int32) (a3 : Int32) (a4 : Int32) (a5 : Int32) (a6 : Int32) (a7 : Int32) , gW p l e rm_X0_endByDays s m args below meth c 11 Z 1 0 0 M 8 [(0, .ref (zad Z 1)), (2, .int a2), (3, .int a3), (4, .int a4), (5, .int a5), (6, .int a6), (7, .int a7)] [] (self8 M a2 a3 a4 a5 a6 a7)) (M : gM) (a2 : Int32) (a3 : Int32) (a4 : Int32) (a5 : Int32) (a6 : Int32) (a7 : Int32) (a8 : Int32) (t0 : Int32) : gW p l e rm_X0_endByDays s m args below meth c 11 Z 1 0 0 M 73 [(0, .ref (zad Z 1)), (2, .int a2), (3, .int a3), (4, .int a4), (5, .int a5), (6, .int a6), (7, .int a7), (8, .int a8)] [.int t0] (f_X0_endByDays_b73 self8 M a2 a3 a4 a5 a6 a7 a8 t0) := by
  unfold f_X0_endByDays_b73
  refine g_istore hC (lv1 := [(9, .int t0), (0, .ref (zad Z 1)), (2, .int a2), (3, .int a3), (4, .int a4), (5, .int a5), (6, .int a6), (7, .int a7), (8, .int a8)]) dX0_endByDays_73 (by decide) rfl ?_
  refine g_iload hC 0 dX0_endByDays_75 rfl ?_
  refine g_if_ne (tgt := 93) hC dX0_endByDays_77 (by decide) (fun _ => ?_) (fun _ => ?_)
  · refine g_iload hC 8 dX0_endByDays_80 rfl ?_
    refine g_if_eq (tgt := 89) hC dX0_endByDays_82 (by decide) (fun _ => ?_) (fun _ => ?_)
    · refine g_sub (lv1 := [(0, .ref (zad Z 1)), (2, .int a2), (3, .int a3), (4, .int a4), (5, .int a5), (6, .int a6), (7, .int a7), (8, .int a8), (9, .int t0)]) [1, 2, 3, 4, 5, 6, 7, 8, 0] rfl ?_
      exact g_X0_endByDays_b89 hC hs8 M a2 a3 a4 a5 a6 a7 a8 t0 
    · refine g_iload_n hC 3 dX0_endByDays_85 rfl rfl ?_
      refine g_if_ne (tgt := 93) hC dX0_endByDays_86 (by decide) (fun _ => ?_) (fun _ => ?_)
      · refine g_sub (lv1 := [(0, .ref (zad Z 1)), (2, .int a2), (3, .int a3), (4, .int a4), (5, .int a5), (6, .int a6), (7, .int a7), (8, .int a8), (9, .int t0)]) [1, 2, 3, 4, 5, 6, 7, 8, 0] rfl ?_
        exact g_X0_endByDays_b89 hC hs8 M a2 a3 a4 a5 a6 a7 a8 t0 
      · refine g_sub (lv1 := [(0, .ref (zad Z 1)), (2, .int a2), (3, .int a3), (4, .int a4), (5, .int a5), (6, .int a6), (7, .int a7), (8, .int a8), (9, .int t0)]) [1, 2, 3, 4, 5, 6, 7, 8, 0] rfl ?_
        exact g_X0_endByDays_b93 hC hs8 M a2 a3 a4 a5 a6 a7 a8 t0 
  · refine g_sub (lv1 := [(0, .ref (zad Z 1)), (2, .int a2), (3, .int a3), (4, .int a4), (5, .int a5), (6, .int a6), (7, .int a7), (8, .int a8), (9, .int t0)]) [1, 2, 3, 4, 5, 6, 7, 8, 0] rfl ?_
    exact g_X0_endByDays_b93 hC hs8 M a2 a3 a4 a5 a6 a7 a8 t0 
set_option maxRecDepth 20000 in
set_option maxHeartbeats 4000000 in
theorem g_X0_endByDays_b68 {p : Program} {l : Launch} {e : Env} {s : State} {m : MethodId} {args : Array Value} {below : List Frame} {meth : Method} {c : Code} {Z : gZ} (hC : gC p l s m args meth c cX0_endByDays 11 RX0 (some .int) Z) {self8 : gM → Int32 → Int32 → Int32 → Int32 → Int32 → Int32 → gR} (hs8 : ∀ (M : gM) (a2 : Int32) (a3 : Int32) (a4 : Int32) (a5 : Int32) (a6 : Int32) (a7 : Int32) , gW p l e rm_X0_endByDays s m args below meth c 11 Z 1 0 0 M 8 [(0, .ref (zad Z 1)), (2, .int a2), (3, .int a3), (4, .int a4), (5, .int a5), (6, .int a6), (7, .int a7)] [] (self8 M a2 a3 a4 a5 a6 a7)) (M : gM) (a2 : Int32) (a3 : Int32) (a4 : Int32) (a5 : Int32) (a6 : Int32) (a7 : Int32) (a8 : Int32)  : gW p l e rm_X0_endByDays s m args below meth c 11 Z 1 0 0 M 68 [(0, .ref (zad Z 1)), (2, .int a2), (3, .int a3), (4, .int a4), (5, .int a5), (6, .int a6), (7, .int a7), (8, .int a8)] [] (f_X0_endByDays_b68 self8 M a2 a3 a4 a5 a6 a7 a8 ) := by
  unfold f_X0_endByDays_b68
  refine g_iconst hC (v := 1) dX0_endByDays_68 (by decide) ?_
  refine g_goto (tgt := 73) hC dX0_endByDays_69 (by decide) ?_
  exact g_X0_endByDays_b73 hC hs8 M a2 a3 a4 a5 a6 a7 a8 1
set_option maxRecDepth 20000 in
set_option maxHeartbeats 4000000 in
theorem g_X0_endByDays_b72 {p : Program} {l : Launch} {e : Env} {s : State} {m : MethodId} {args : Array Value} {below : List Frame} {meth : Method} {c : Code} {Z : gZ} (hC : gC p l s m args meth c cX0_endByDays 11 RX0 (some .int) Z) {self8 : gM → Int32 → Int32 → Int32 → Int32 → Int32 → Int32 → gR} (hs8 : ∀ (M : gM) (a2 : Int32) (a3 : Int32) (a4 : Int32) (a5 : Int32) (a6 : Int32) (a7 : Int32) , gW p l e rm_X0_endByDays s m args below meth c 11 Z 1 0 0 M 8 [(0, .ref (zad Z 1)), (2, .int a2), (3, .int a3), (4, .int a4), (5, .int a5), (6, .int a6), (7, .int a7)] [] (self8 M a2 a3 a4 a5 a6 a7)) (M : gM) (a2 : Int32) (a3 : Int32) (a4 : Int32) (a5 : Int32) (a6 : Int32) (a7 : Int32) (a8 : Int32)  : gW p l e rm_X0_endByDays s m args below meth c 11 Z 1 0 0 M 72 [(0, .ref (zad Z 1)), (2, .int a2), (3, .int a3), (4, .int a4), (5, .int a5), (6, .int a6), (7, .int a7), (8, .int a8)] [] (f_X0_endByDays_b72 self8 M a2 a3 a4 a5 a6 a7 a8 ) := by
  unfold f_X0_endByDays_b72
  refine g_iconst hC (v := 0) dX0_endByDays_72 (by decide) ?_
  exact g_X0_endByDays_b73 hC hs8 M a2 a3 a4 a5 a6 a7 a8 0
set_option maxRecDepth 20000 in
set_option maxHeartbeats 4000000 in
theorem g_X0_endByDays_b38 {p : Program} {l : Launch} {e : Env} {s : State} {m : MethodId} {args : Array Value} {below : List Frame} {meth : Method} {c : Code} {Z : gZ} (hC : gC p l s m args meth c cX0_endByDays 11 RX0 (some .int) Z) {self8 : gM → Int32 → Int32 → Int32 → Int32 → Int32 → Int32 → gR} (hs8 : ∀ (M : gM) (a2 : Int32) (a3 : Int32) (a4 : Int32) (a5 : Int32) (a6 : Int32) (a7 : Int32) , gW p l e rm_X0_endByDays s m args below meth c 11 Z 1 0 0 M 8 [(0, .ref (zad Z 1)), (2, .int a2), (3, .int a3), (4, .int a4), (5, .int a5), (6, .int a6), (7, .int a7)] [] (self8 M a2 a3 a4 a5 a6 a7)) (M : gM) (a2 : Int32) (a3 : Int32) (a4 : Int32) (a5 : Int32) (a6 : Int32) (a7 : Int32) (t0 : Int32) : gW p l e rm_X0_endByDays s m args below meth c 11 Z 1 0 0 M 38 [(0, .ref (zad Z 1)), (2, .int a2), (3, .int a3), (4, .int a4), (5, .int a5), (6, .int a6), (7, .int a7)] [.int t0] (f_X0_endByDays_b38 self8 M a2 a3 a4 a5 a6 a7 t0) := by
  unfold f_X0_endByDays_b38
  refine g_istore hC (lv1 := [(8, .int t0), (0, .ref (zad Z 1)), (2, .int a2), (3, .int a3), (4, .int a4), (5, .int a5), (6, .int a6), (7, .int a7)]) dX0_endByDays_38 (by decide) rfl ?_
  refine g_aload_n hC 1 dX0_endByDays_40 rfl rfl ?_
  refine g_iload hC 4 dX0_endByDays_41 rfl ?_
  refine g_iload hC 7 dX0_endByDays_43 rfl ?_
  refine g_callVi (n := 2) hC [.int a4, .int a7] 1 0 (by decide) rfl rfl (fun hne => c_X0_isStayedOn hC.2.2.2.2.2.2.2.1 Z M a4 a7 hne) lk_X0_55 mw_X0_isStayedOn.1 mw_X0_isStayedOn.2.1 mw_X0_isStayedOn.2.2.1 mw_X0_isStayedOn.2.2.2 ⟨rfl, by decide, by decide, by decide +kernel⟩ rfl rfl ⟨by decide, by decide⟩ rfl rfl (Nat.le_of_ble_eq_true rfl) (by decide) (by decide) (by decide) dX0_endByDays_45 (fun x6 M5 => ?_)
  refine g_if_ne (tgt := 68) hC dX0_endByDays_48 (by decide) (fun _ => ?_) (fun _ => ?_)
  · refine g_iload hC 5 dX0_endByDays_51 rfl ?_
    refine g_iconst hC (v := (-1)) dX0_endByDays_53 (by decide) ?_
    refine g_icmp_eq (tgt := 72) hC dX0_endByDays_54 (by decide) (fun _ => ?_) (fun _ => ?_)
    · refine g_sub (lv1 := [(0, .ref (zad Z 1)), (2, .int a2), (3, .int a3), (4, .int a4), (5, .int a5), (6, .int a6), (7, .int a7), (8, .int t0)]) [1, 2, 3, 4, 5, 6, 7, 0] rfl ?_
      exact g_X0_endByDays_b72 hC hs8 M5 a2 a3 a4 a5 a6 a7 t0 
    · refine g_aload_n hC 1 dX0_endByDays_57 rfl rfl ?_
      refine g_iload hC 5 dX0_endByDays_58 rfl ?_
      refine g_iload hC 7 dX0_endByDays_60 rfl ?_
      refine g_callVi (n := 2) hC [.int a5, .int a7] 1 0 (by decide) rfl rfl (fun hne => c_X0_isStayedOn hC.2.2.2.2.2.2.2.1 Z M5 a5 a7 hne) lk_X0_55 mw_X0_isStayedOn.1 mw_X0_isStayedOn.2.1 mw_X0_isStayedOn.2.2.1 mw_X0_isStayedOn.2.2.2 ⟨rfl, by decide, by decide, by decide +kernel⟩ rfl rfl ⟨by decide, by decide⟩ rfl rfl (Nat.le_of_ble_eq_true rfl) (by decide) (by decide) (by decide) dX0_endByDays_62 (fun x8 M7 => ?_)
      refine g_if_eq (tgt := 72) hC dX0_endByDays_65 (by decide) (fun _ => ?_) (fun _ => ?_)
      · refine g_sub (lv1 := [(0, .ref (zad Z 1)), (2, .int a2), (3, .int a3), (4, .int a4), (5, .int a5), (6, .int a6), (7, .int a7), (8, .int t0)]) [1, 2, 3, 4, 5, 6, 7, 0] rfl ?_
        exact g_X0_endByDays_b72 hC hs8 M7 a2 a3 a4 a5 a6 a7 t0 
      · refine g_sub (lv1 := [(0, .ref (zad Z 1)), (2, .int a2), (3, .int a3), (4, .int a4), (5, .int a5), (6, .int a6), (7, .int a7), (8, .int t0)]) [1, 2, 3, 4, 5, 6, 7, 0] rfl ?_
        exact g_X0_endByDays_b68 hC hs8 M7 a2 a3 a4 a5 a6 a7 t0 
  · refine g_sub (lv1 := [(0, .ref (zad Z 1)), (2, .int a2), (3, .int a3), (4, .int a4), (5, .int a5), (6, .int a6), (7, .int a7), (8, .int t0)]) [1, 2, 3, 4, 5, 6, 7, 0] rfl ?_
    exact g_X0_endByDays_b68 hC hs8 M5 a2 a3 a4 a5 a6 a7 t0 
set_option maxRecDepth 20000 in
set_option maxHeartbeats 4000000 in
theorem g_X0_endByDays_b33 {p : Program} {l : Launch} {e : Env} {s : State} {m : MethodId} {args : Array Value} {below : List Frame} {meth : Method} {c : Code} {Z : gZ} (hC : gC p l s m args meth c cX0_endByDays 11 RX0 (some .int) Z) {self8 : gM → Int32 → Int32 → Int32 → Int32 → Int32 → Int32 → gR} (hs8 : ∀ (M : gM) (a2 : Int32) (a3 : Int32) (a4 : Int32) (a5 : Int32) (a6 : Int32) (a7 : Int32) , gW p l e rm_X0_endByDays s m args below meth c 11 Z 1 0 0 M 8 [(0, .ref (zad Z 1)), (2, .int a2), (3, .int a3), (4, .int a4), (5, .int a5), (6, .int a6), (7, .int a7)] [] (self8 M a2 a3 a4 a5 a6 a7)) (M : gM) (a2 : Int32) (a3 : Int32) (a4 : Int32) (a5 : Int32) (a6 : Int32) (a7 : Int32)  : gW p l e rm_X0_endByDays s m args below meth c 11 Z 1 0 0 M 33 [(0, .ref (zad Z 1)), (2, .int a2), (3, .int a3), (4, .int a4), (5, .int a5), (6, .int a6), (7, .int a7)] [] (f_X0_endByDays_b33 self8 M a2 a3 a4 a5 a6 a7 ) := by
  unfold f_X0_endByDays_b33
  refine g_iconst hC (v := 1) dX0_endByDays_33 (by decide) ?_
  refine g_goto (tgt := 38) hC dX0_endByDays_34 (by decide) ?_
  exact g_X0_endByDays_b38 hC hs8 M a2 a3 a4 a5 a6 a7 1
set_option maxRecDepth 20000 in
set_option maxHeartbeats 4000000 in
theorem g_X0_endByDays_lb8 {p : Program} {l : Launch} {e : Env} {s : State} {m : MethodId} {args : Array Value} {below : List Frame} {meth : Method} {c : Code} {Z : gZ} (hC : gC p l s m args meth c cX0_endByDays 11 RX0 (some .int) Z)  {self8 : gM → Int32 → Int32 → Int32 → Int32 → Int32 → Int32 → gR}  (hs8 : ∀ (M : gM) (a2 : Int32) (a3 : Int32) (a4 : Int32) (a5 : Int32) (a6 : Int32) (a7 : Int32) , gW p l e rm_X0_endByDays s m args below meth c 11 Z 1 0 0 M 8 [(0, .ref (zad Z 1)), (2, .int a2), (3, .int a3), (4, .int a4), (5, .int a5), (6, .int a6), (7, .int a7)] [] (self8 M a2 a3 a4 a5 a6 a7)) (M : gM) (a2 : Int32) (a3 : Int32) (a4 : Int32) (a5 : Int32) (a6 : Int32) (a7 : Int32) : gW p l e rm_X0_endByDays s m args below meth c 11 Z 1 0 0 M 8 [(0, .ref (zad Z 1)), (2, .int a2), (3, .int a3), (4, .int a4), (5, .int a5), (6, .int a6), (7, .int a7)] [] (f_X0_endByDays_lb8  self8 M a2 a3 a4 a5 a6 a7) := by
  unfold f_X0_endByDays_lb8
  refine g_iload hC 6 dX0_endByDays_8 rfl ?_
  refine g_sipush hC (v := 1400) dX0_endByDays_10 (by decide) ?_
  refine g_icmp_gt (tgt := 135) hC dX0_endByDays_13 (by decide) (fun _ => ?_) (fun _ => ?_)
  · refine g_iconst hC (v := (-1)) dX0_endByDays_135 (by decide) ?_
    exact g_iret hC rfl (by decide) dX0_endByDays_136
  · refine g_iload hC 6 dX0_endByDays_16 rfl ?_
    refine g_callSi (n := 1) hC [.int a7] (fun hne => c_X0_isWeekend hC.2.2.2.2.2.2.2.1 Z M a7 hne) lk_X0_41 mw_X0_isWeekend.1 mw_X0_isWeekend.2.1 mw_X0_isWeekend.2.2 ⟨by decide, by decide, by decide +kernel⟩ rfl rfl ⟨by decide, by decide⟩ rfl rfl (Nat.le_of_ble_eq_true rfl) (by decide) (by decide) (by decide) dX0_endByDays_18 (fun x10 M9 => ?_)
    refine g_if_ne (tgt := 33) hC dX0_endByDays_21 (by decide) (fun _ => ?_) (fun _ => ?_)
    · refine g_aload_n hC 0 dX0_endByDays_24 rfl rfl ?_
      refine g_iload hC 6 dX0_endByDays_25 rfl ?_
      refine g_callVi (n := 1) hC [.int a7] 1 0 (by decide) rfl rfl (fun hne => c_X0_isHoliday hC.2.2.2.2.2.2.2.1 Z M9 a7 hne) lk_X0_52 mw_X0_isHoliday.1 mw_X0_isHoliday.2.1 mw_X0_isHoliday.2.2.1 mw_X0_isHoliday.2.2.2 ⟨rfl, by decide, by decide, by decide +kernel⟩ rfl rfl ⟨by decide, by decide⟩ rfl rfl (Nat.le_of_ble_eq_true rfl) (by decide) (by decide) (by decide) dX0_endByDays_27 (fun x12 M11 => ?_)
      refine g_if_eq (tgt := 37) hC dX0_endByDays_30 (by decide) (fun _ => ?_) (fun _ => ?_)
      · refine g_iconst hC (v := 0) dX0_endByDays_37 (by decide) ?_
        exact g_X0_endByDays_b38 hC hs8 M11 a2 a3 a4 a5 a6 a7 0
      · exact g_X0_endByDays_b33 hC hs8 M11 a2 a3 a4 a5 a6 a7
    · exact g_X0_endByDays_b33 hC hs8 M9 a2 a3 a4 a5 a6 a7
set_option maxRecDepth 20000 in
set_option maxHeartbeats 4000000 in
theorem g_X0_endByDays_l8 {p : Program} {l : Launch} {e : Env} {s : State} {m : MethodId} {args : Array Value} {below : List Frame} {meth : Method} {c : Code} {Z : gZ} (hC : gC p l s m args meth c cX0_endByDays 11 RX0 (some .int) Z)   : ∀ (n : Nat) (M : gM) (a2 : Int32) (a3 : Int32) (a4 : Int32) (a5 : Int32) (a6 : Int32) (a7 : Int32), gW p l e rm_X0_endByDays s m args below meth c 11 Z 1 0 0 M 8 [(0, .ref (zad Z 1)), (2, .int a2), (3, .int a3), (4, .int a4), (5, .int a5), (6, .int a6), (7, .int a7)] [] (f_X0_endByDays_l8  n M a2 a3 a4 a5 a6 a7)
  | 0, _, _, _, _, _, _, _ => g_stuck
  | n + 1, M, a2, a3, a4, a5, a6, a7 => g_X0_endByDays_lb8 hC  (g_X0_endByDays_l8 hC  n) M a2 a3 a4 a5 a6 a7
set_option maxRecDepth 20000 in
set_option maxHeartbeats 4000000 in
theorem c_X0_endByDays {l : Launch} (hfl : l.stackTraces = false) (Z : gZ) (M : gM) (a1 : Int32) (a2 : Int32) (a3 : Int32) (a4 : Int32) (a5 : Int32) : gMet l yX0_endByDays cX0_endByDays 11 (some .int) rm_X0_endByDays 1 0 Z M [.ref (zad Z 1), .int a1, .int a2, .int a3, .int a4, .int a5] (f_X0_endByDays M a1 a2 a3 a4 a5) := by
  refine g_enter hfl (by decide) (Nat.le_of_ble_eq_true rfl) (fun p e s m args below meth c hC => ?_)
  refine g_eq (F := f_X0_endByDays M a1 a2 a3 a4 a5) rfl ?_
  refine g_lv0 (lv1 := [(0, .ref (zad Z 1)), (1, .int a1), (2, .int a2), (3, .int a3), (4, .int a4), (5, .int a5)]) rfl ?_
  unfold f_X0_endByDays
  refine g_iconst hC (v := 0) dX0_endByDays_0 (by decide) ?_
  refine g_istore hC (lv1 := [(6, .int 0), (0, .ref (zad Z 1)), (1, .int a1), (2, .int a2), (3, .int a3), (4, .int a4), (5, .int a5)]) dX0_endByDays_1 (by decide) rfl ?_
  refine g_iload_n hC 2 dX0_endByDays_3 rfl rfl ?_
  refine g_iconst hC (v := 1) dX0_endByDays_4 (by decide) ?_
  refine g_iadd hC dX0_endByDays_5 ?_
  refine g_bv (fun x13 => ?_)
  refine g_istore hC (lv1 := [(7, .int x13), (6, .int 0), (0, .ref (zad Z 1)), (1, .int a1), (2, .int a2), (3, .int a3), (4, .int a4), (5, .int a5)]) dX0_endByDays_6 (by decide) rfl ?_
  refine g_sub (lv1 := [(0, .ref (zad Z 1)), (2, .int a2), (3, .int a3), (4, .int a4), (5, .int a5), (6, .int 0), (7, .int x13)]) [2, 4, 5, 6, 7, 1, 0] rfl ?_
  exact g_X0_endByDays_l8 hC  5000 M a2 a3 a4 a5 0 x13

-- ===== X1_add =====
def f_X1_add (M : gM) (a1 : Int32) : gR := (bV (M 2 0) (fun x1 => (gI x1 8 (bM (gset M 25 x1.toNatClampNeg a1) (fun M2 => (gI x1 8 (bM (gset M2 26 x1.toNatClampNeg (-1)) (fun M3 => (bM (gset M3 2 0 ((M3 2 0) + 1)) (fun M4 => (rRet x1 M4)))))))))))
abbrev rm_X1_add : Room := { frames := 0, cells := 0, slots := 0, locals := 0 }
set_option maxRecDepth 20000 in
set_option maxHeartbeats 4000000 in
theorem c_X1_add {l : Launch} (hfl : l.stackTraces = false) (Z : gZ) (M : gM) (a1 : Int32) : gMet l yX1_add cX1_add 3 (some .int) rm_X1_add 1 0 Z M [.ref (zad Z 2), .int a1] (f_X1_add M a1) := by
  refine g_enter hfl (by decide) (Nat.le_of_ble_eq_true rfl) (fun p e s m args below meth c hC => ?_)
  refine g_eq (F := f_X1_add M a1) rfl ?_
  refine g_lv0 (lv1 := [(0, .ref (zad Z 2)), (1, .int a1)]) rfl ?_
  unfold f_X1_add
  refine g_aload_n hC 0 dX1_add_0 rfl rfl ?_
  refine gf_X1_32 hC dX1_add_1 ?_
  refine g_bv (fun x1 => ?_)
  refine g_istore_n hC (lv1 := [(2, .int x1), (0, .ref (zad Z 2)), (1, .int a1)]) dX1_add_4 rfl (by decide) rfl ?_
  refine g_aload_n hC 1 dX1_add_5 rfl rfl ?_
  refine gf_X1_9 hC dX1_add_6 ?_
  refine g_iload_n hC 0 dX1_add_9 rfl rfl ?_
  refine g_iload_n hC 2 dX1_add_10 rfl rfl ?_
  refine g_iast hC 25 (by decide) rfl dX1_add_11 (fun M2 => ?_)
  refine g_aload_n hC 1 dX1_add_12 rfl rfl ?_
  refine gf_X1_15 hC dX1_add_13 ?_
  refine g_iload_n hC 0 dX1_add_16 rfl rfl ?_
  refine g_iconst hC (v := (-1)) dX1_add_17 (by decide) ?_
  refine g_iast hC 26 (by decide) rfl dX1_add_18 (fun M3 => ?_)
  refine g_aload_n hC 1 dX1_add_19 rfl rfl ?_
  refine g_dup hC dX1_add_20 rfl ?_
  refine gf_X1_32 hC dX1_add_21 ?_
  refine g_iconst hC (v := 1) dX1_add_24 (by decide) ?_
  refine g_iadd hC dX1_add_25 ?_
  refine gp_X1_32 hC dX1_add_26 (fun M4 => ?_)
  refine g_iload_n hC 0 dX1_add_29 rfl rfl ?_
  exact g_iret hC rfl (by decide) dX1_add_30

-- ===== X1_isParty =====
def f_X1_isParty (M : gM) (a1 : Int32) (a2 : Int32) : gR := (gI a1 8 (if (((M 28 a1.toNatClampNeg) >>> (a2 &&& 31)) &&& 1) = 1 then (rRet 1 M) else (rRet 0 M)))
abbrev rm_X1_isParty : Room := { frames := 0, cells := 0, slots := 0, locals := 0 }
set_option maxRecDepth 20000 in
set_option maxHeartbeats 4000000 in
theorem c_X1_isParty {l : Launch} (hfl : l.stackTraces = false) (Z : gZ) (M : gM) (a1 : Int32) (a2 : Int32) : gMet l yX1_isParty cX1_isParty 3 (some .boolean) rm_X1_isParty 1 0 Z M [.ref (zad Z 2), .int a1, .int a2] (f_X1_isParty M a1 a2) := by
  refine g_enter hfl (by decide) (Nat.le_of_ble_eq_true rfl) (fun p e s m args below meth c hC => ?_)
  refine g_eq (F := f_X1_isParty M a1 a2) rfl ?_
  refine g_lv0 (lv1 := [(0, .ref (zad Z 2)), (1, .int a1), (2, .int a2)]) rfl ?_
  unfold f_X1_isParty
  refine g_aload_n hC 0 dX1_isParty_0 rfl rfl ?_
  refine gf_X1_21 hC dX1_isParty_1 ?_
  refine g_iload_n hC 1 dX1_isParty_4 rfl rfl ?_
  refine g_iald hC 28 (by decide) rfl dX1_isParty_5 ?_
  refine g_iload_n hC 2 dX1_isParty_6 rfl rfl ?_
  refine g_ishr hC dX1_isParty_7 ?_
  refine g_iconst hC (v := 1) dX1_isParty_8 (by decide) ?_
  refine g_iand hC dX1_isParty_9 ?_
  refine g_iconst hC (v := 1) dX1_isParty_10 (by decide) ?_
  refine g_icmp_ne (tgt := 18) hC dX1_isParty_11 (by decide) (fun _ => ?_) (fun _ => ?_)
  · refine g_iconst hC (v := 1) dX1_isParty_14 (by decide) ?_
    refine g_goto (tgt := 19) hC dX1_isParty_15 (by decide) ?_
    exact g_zret1 hC rfl (by decide) dX1_isParty_19
  · refine g_iconst hC (v := 0) dX1_isParty_18 (by decide) ?_
    exact g_zret0 hC rfl (by decide) dX1_isParty_19

-- ===== X1_wasParty =====
def f_X1_wasParty (M : gM) (a1 : Int32) (a2 : Int32) (a3 : Int32) : gR := (rb (f_X1_isParty M a1 a2) (fun x2 M1 => (if x2 = 0 then (rRet 0 M1) else (gI a1 8 (gI a2 16 (if a3 < (M1 38 (a1.toNatClampNeg * 16 + a2.toNatClampNeg)) then (rRet 0 M1) else (rRet 1 M1)))))))
abbrev rm_X1_wasParty : Room := { frames := 1, cells := 0, slots := 0, locals := 22 }
set_option maxRecDepth 20000 in
set_option maxHeartbeats 4000000 in
theorem c_X1_wasParty {l : Launch} (hfl : l.stackTraces = false) (Z : gZ) (M : gM) (a1 : Int32) (a2 : Int32) (a3 : Int32) : gMet l yX1_wasParty cX1_wasParty 4 (some .boolean) rm_X1_wasParty 1 0 Z M [.ref (zad Z 2), .int a1, .int a2, .int a3] (f_X1_wasParty M a1 a2 a3) := by
  refine g_enter hfl (by decide) (Nat.le_of_ble_eq_true rfl) (fun p e s m args below meth c hC => ?_)
  refine g_eq (F := f_X1_wasParty M a1 a2 a3) rfl ?_
  refine g_lv0 (lv1 := [(0, .ref (zad Z 2)), (1, .int a1), (2, .int a2), (3, .int a3)]) rfl ?_
  unfold f_X1_wasParty
  refine g_aload_n hC 0 dX1_wasParty_0 rfl rfl ?_
  refine g_iload_n hC 1 dX1_wasParty_1 rfl rfl ?_
  refine g_iload_n hC 2 dX1_wasParty_2 rfl rfl ?_
  refine g_callVi (n := 2) hC [.int a1, .int a2] 2 1 (by decide) rfl rfl (fun hne => c_X1_isParty hC.2.2.2.2.2.2.2.1 Z M a1 a2 hne) lk_X1_36 mw_X1_isParty.1 mw_X1_isParty.2.1 mw_X1_isParty.2.2.1 mw_X1_isParty.2.2.2 ⟨rfl, by decide, by decide, by decide +kernel⟩ rfl rfl ⟨by decide, by decide⟩ rfl rfl (Nat.le_of_ble_eq_true rfl) (by decide) (by decide) (by decide) dX1_wasParty_3 (fun x2 M1 => ?_)
  refine g_if_eq (tgt := 25) hC dX1_wasParty_6 (by decide) (fun _ => ?_) (fun _ => ?_)
  · refine g_iconst hC (v := 0) dX1_wasParty_25 (by decide) ?_
    exact g_zret0 hC rfl (by decide) dX1_wasParty_26
  · refine g_aload_n hC 0 dX1_wasParty_9 rfl rfl ?_
    refine gf_X1_29 hC dX1_wasParty_10 ?_
    refine g_iload_n hC 1 dX1_wasParty_13 rfl rfl ?_
    refine g_aald hC 38 (by decide) rfl dX1_wasParty_14 (fun hr3 => ?_)
    refine g_iload_n hC 2 dX1_wasParty_15 rfl rfl ?_
    refine g_raldv hC 39 38 8 16 grid_38 hr3 dX1_wasParty_16 ?_
    refine g_iload_n hC 3 dX1_wasParty_17 rfl rfl ?_
    refine g_icmp_gt (tgt := 25) hC dX1_wasParty_18 (by decide) (fun _ => ?_) (fun _ => ?_)
    · refine g_iconst hC (v := 0) dX1_wasParty_25 (by decide) ?_
      exact g_zret0 hC rfl (by decide) dX1_wasParty_26
    · refine g_iconst hC (v := 1) dX1_wasParty_21 (by decide) ?_
      refine g_goto (tgt := 26) hC dX1_wasParty_22 (by decide) ?_
      exact g_zret1 hC rfl (by decide) dX1_wasParty_26

-- ===== X1_addParty =====
def f_X1_addParty (M : gM) (a1 : Int32) (a2 : Int32) (a3 : Int32) (a4 : Int32) : gR := (gI a1 8 (gI a1 8 (bM (gset M 28 a1.toNatClampNeg ((M 28 a1.toNatClampNeg) ||| (1 <<< (a2 &&& 31)))) (fun M1 => (gI a1 8 (gI a1 8 (bM (gset M1 27 a1.toNatClampNeg ((M1 27 a1.toNatClampNeg) + 1)) (fun M2 => (gI a1 8 (gI a2 16 (bM (gset M2 29 (a1.toNatClampNeg * 16 + a2.toNatClampNeg) a3) (fun M4 => (gI a1 8 (gI a2 16 (bM (gset M4 38 (a1.toNatClampNeg * 16 + a2.toNatClampNeg) a4) (fun M6 => (rRet 0 M6)))))))))))))))))
abbrev rm_X1_addParty : Room := { frames := 0, cells := 0, slots := 0, locals := 0 }
set_option maxRecDepth 20000 in
set_option maxHeartbeats 4000000 in
theorem c_X1_addParty {l : Launch} (hfl : l.stackTraces = false) (Z : gZ) (M : gM) (a1 : Int32) (a2 : Int32) (a3 : Int32) (a4 : Int32) : gMet l yX1_addParty cX1_addParty 5 none rm_X1_addParty 0 0 Z M [.ref (zad Z 2), .int a1, .int a2, .int a3, .int a4] (f_X1_addParty M a1 a2 a3 a4) := by
  refine g_enter hfl (by decide) (Nat.le_of_ble_eq_true rfl) (fun p e s m args below meth c hC => ?_)
  refine g_eq (F := f_X1_addParty M a1 a2 a3 a4) rfl ?_
  refine g_lv0 (lv1 := [(0, .ref (zad Z 2)), (1, .int a1), (2, .int a2), (3, .int a3), (4, .int a4)]) rfl ?_
  unfold f_X1_addParty
  refine g_aload_n hC 0 dX1_addParty_0 rfl rfl ?_
  refine gf_X1_21 hC dX1_addParty_1 ?_
  refine g_iload_n hC 1 dX1_addParty_4 rfl rfl ?_
  refine g_dup2 hC dX1_addParty_5 rfl rfl ?_
  refine g_iald hC 28 (by decide) rfl dX1_addParty_6 ?_
  refine g_iconst hC (v := 1) dX1_addParty_7 (by decide) ?_
  refine g_iload_n hC 2 dX1_addParty_8 rfl rfl ?_
  refine g_ishl hC dX1_addParty_9 ?_
  refine g_ior hC dX1_addParty_10 ?_
  refine g_iast hC 28 (by decide) rfl dX1_addParty_11 (fun M1 => ?_)
  refine g_aload_n hC 0 dX1_addParty_12 rfl rfl ?_
  refine gf_X1_18 hC dX1_addParty_13 ?_
  refine g_iload_n hC 1 dX1_addParty_16 rfl rfl ?_
  refine g_dup2 hC dX1_addParty_17 rfl rfl ?_
  refine g_iald hC 27 (by decide) rfl dX1_addParty_18 ?_
  refine g_iconst hC (v := 1) dX1_addParty_19 (by decide) ?_
  refine g_iadd hC dX1_addParty_20 ?_
  refine g_iast hC 27 (by decide) rfl dX1_addParty_21 (fun M2 => ?_)
  refine g_aload_n hC 0 dX1_addParty_22 rfl rfl ?_
  refine gf_X1_26 hC dX1_addParty_23 ?_
  refine g_iload_n hC 1 dX1_addParty_26 rfl rfl ?_
  refine g_aald hC 29 (by decide) rfl dX1_addParty_27 (fun hr3 => ?_)
  refine g_iload_n hC 2 dX1_addParty_28 rfl rfl ?_
  refine g_iload_n hC 3 dX1_addParty_29 rfl rfl ?_
  refine g_rastv hC 30 29 8 16 grid_29 hr3 dX1_addParty_30 (fun M4 => ?_)
  refine g_aload_n hC 0 dX1_addParty_31 rfl rfl ?_
  refine gf_X1_29 hC dX1_addParty_32 ?_
  refine g_iload_n hC 1 dX1_addParty_35 rfl rfl ?_
  refine g_aald hC 38 (by decide) rfl dX1_addParty_36 (fun hr5 => ?_)
  refine g_iload_n hC 2 dX1_addParty_37 rfl rfl ?_
  refine g_iload hC 4 dX1_addParty_38 rfl ?_
  refine g_rastv hC 39 38 8 16 grid_38 hr5 dX1_addParty_40 (fun M6 => ?_)
  exact g_vret hC rfl (by decide) dX1_addParty_41

-- ===== X1_areOpposed =====
def f_X1_areOpposed (M : gM) (a1 : Int32) (a2 : Int32) (a3 : Int32) : gR := (rb (f_X1_isParty M a1 a2) (fun x2 M1 => (if x2 = 0 then (rRet 0 M1) else (rb (f_X1_isParty M1 a1 a3) (fun x4 M3 => (if x4 = 0 then (rRet 0 M3) else (gI a1 8 (gI a2 16 (gI a1 8 (gI a3 16 (if (M3 29 (a1.toNatClampNeg * 16 + a2.toNatClampNeg)) = (M3 29 (a1.toNatClampNeg * 16 + a3.toNatClampNeg)) then (rRet 0 M3) else (rRet 1 M3))))))))))))
abbrev rm_X1_areOpposed : Room := { frames := 1, cells := 0, slots := 0, locals := 22 }
set_option maxRecDepth 20000 in
set_option maxHeartbeats 4000000 in
theorem c_X1_areOpposed {l : Launch} (hfl : l.stackTraces = false) (Z : gZ) (M : gM) (a1 : Int32) (a2 : Int32) (a3 : Int32) : gMet l yX1_areOpposed cX1_areOpposed 4 (some .boolean) rm_X1_areOpposed 1 0 Z M [.ref (zad Z 2), .int a1, .int a2, .int a3] (f_X1_areOpposed M a1 a2 a3) := by
  refine g_enter hfl (by decide) (Nat.le_of_ble_eq_true rfl) (fun p e s m args below meth c hC => ?_)
  refine g_eq (F := f_X1_areOpposed M a1 a2 a3) rfl ?_
  refine g_lv0 (lv1 := [(0, .ref (zad Z 2)), (1, .int a1), (2, .int a2), (3, .int a3)]) rfl ?_
  unfold f_X1_areOpposed
  refine g_aload_n hC 0 dX1_areOpposed_0 rfl rfl ?_
  refine g_iload_n hC 1 dX1_areOpposed_1 rfl rfl ?_
  refine g_iload_n hC 2 dX1_areOpposed_2 rfl rfl ?_
  refine g_callVi (n := 2) hC [.int a1, .int a2] 2 1 (by decide) rfl rfl (fun hne => c_X1_isParty hC.2.2.2.2.2.2.2.1 Z M a1 a2 hne) lk_X1_36 mw_X1_isParty.1 mw_X1_isParty.2.1 mw_X1_isParty.2.2.1 mw_X1_isParty.2.2.2 ⟨rfl, by decide, by decide, by decide +kernel⟩ rfl rfl ⟨by decide, by decide⟩ rfl rfl (Nat.le_of_ble_eq_true rfl) (by decide) (by decide) (by decide) dX1_areOpposed_3 (fun x2 M1 => ?_)
  refine g_if_eq (tgt := 41) hC dX1_areOpposed_6 (by decide) (fun _ => ?_) (fun _ => ?_)
  · refine g_iconst hC (v := 0) dX1_areOpposed_41 (by decide) ?_
    exact g_zret0 hC rfl (by decide) dX1_areOpposed_42
  · refine g_aload_n hC 0 dX1_areOpposed_9 rfl rfl ?_
    refine g_iload_n hC 1 dX1_areOpposed_10 rfl rfl ?_
    refine g_iload_n hC 3 dX1_areOpposed_11 rfl rfl ?_
    refine g_callVi (n := 2) hC [.int a1, .int a3] 2 1 (by decide) rfl rfl (fun hne => c_X1_isParty hC.2.2.2.2.2.2.2.1 Z M1 a1 a3 hne) lk_X1_36 mw_X1_isParty.1 mw_X1_isParty.2.1 mw_X1_isParty.2.2.1 mw_X1_isParty.2.2.2 ⟨rfl, by decide, by decide, by decide +kernel⟩ rfl rfl ⟨by decide, by decide⟩ rfl rfl (Nat.le_of_ble_eq_true rfl) (by decide) (by decide) (by decide) dX1_areOpposed_12 (fun x4 M3 => ?_)
    refine g_if_eq (tgt := 41) hC dX1_areOpposed_15 (by decide) (fun _ => ?_) (fun _ => ?_)
    · refine g_iconst hC (v := 0) dX1_areOpposed_41 (by decide) ?_
      exact g_zret0 hC rfl (by decide) dX1_areOpposed_42
    · refine g_aload_n hC 0 dX1_areOpposed_18 rfl rfl ?_
      refine gf_X1_26 hC dX1_areOpposed_19 ?_
      refine g_iload_n hC 1 dX1_areOpposed_22 rfl rfl ?_
      refine g_aald hC 29 (by decide) rfl dX1_areOpposed_23 (fun hr5 => ?_)
      refine g_iload_n hC 2 dX1_areOpposed_24 rfl rfl ?_
      refine g_raldv hC 30 29 8 16 grid_29 hr5 dX1_areOpposed_25 ?_
      refine g_aload_n hC 0 dX1_areOpposed_26 rfl rfl ?_
      refine gf_X1_26 hC dX1_areOpposed_27 ?_
      refine g_iload_n hC 1 dX1_areOpposed_30 rfl rfl ?_
      refine g_aald hC 29 (by decide) rfl dX1_areOpposed_31 (fun hr6 => ?_)
      refine g_iload_n hC 3 dX1_areOpposed_32 rfl rfl ?_
      refine g_raldv hC 30 29 8 16 grid_29 hr6 dX1_areOpposed_33 ?_
      refine g_icmp_eq (tgt := 41) hC dX1_areOpposed_34 (by decide) (fun _ => ?_) (fun _ => ?_)
      · refine g_iconst hC (v := 0) dX1_areOpposed_41 (by decide) ?_
        exact g_zret0 hC rfl (by decide) dX1_areOpposed_42
      · refine g_iconst hC (v := 1) dX1_areOpposed_37 (by decide) ?_
        refine g_goto (tgt := 42) hC dX1_areOpposed_38 (by decide) ?_
        exact g_zret1 hC rfl (by decide) dX1_areOpposed_42

-- ===== X1_leadsOthers =====
def f_X1_leadsOthers_lb2  (self2 : gM → Int32 → Int32 → gR) (M : gM) (a1 : Int32) (a2 : Int32) : gR := (if (M 2 0) ≤ a2 then (rRet 0 M) else (gI a2 8 (if (M 26 a2.toNatClampNeg) = a1 then (rRet 1 M) else (bV (a2 + 1) (fun x1 => (self2 M a1 x1))))))
def f_X1_leadsOthers_l2  : Nat → gM → Int32 → Int32 → gR
  | 0, _, _, _ => rStuck
  | n + 1, M, a1, a2 => f_X1_leadsOthers_lb2  (f_X1_leadsOthers_l2  n) M a1 a2
def f_X1_leadsOthers (M : gM) (a1 : Int32) : gR := (f_X1_leadsOthers_l2  5000 M a1 0)
abbrev rm_X1_leadsOthers : Room := { frames := 0, cells := 0, slots := 0, locals := 0 }
set_option maxRecDepth 20000 in
set_option maxHeartbeats 4000000 in
theorem g_X1_leadsOthers_lb2 {p : Program} {l : Launch} {e : Env} {s : State} {m : MethodId} {args : Array Value} {below : List Frame} {meth : Method} {c : Code} {Z : gZ} (hC : gC p l s m args meth c cX1_leadsOthers 3 RX1 (some .boolean) Z)  {self2 : gM → Int32 → Int32 → gR}  (hs2 : ∀ (M : gM) (a1 : Int32) (a2 : Int32) , gW p l e rm_X1_leadsOthers s m args below meth c 3 Z 1 0 0 M 2 [(0, .ref (zad Z 2)), (1, .int a1), (2, .int a2)] [] (self2 M a1 a2)) (M : gM) (a1 : Int32) (a2 : Int32) : gW p l e rm_X1_leadsOthers s m args below meth c 3 Z 1 0 0 M 2 [(0, .ref (zad Z 2)), (1, .int a1), (2, .int a2)] [] (f_X1_leadsOthers_lb2  self2 M a1 a2) := by
  unfold f_X1_leadsOthers_lb2
  refine g_iload_n hC 2 dX1_leadsOthers_2 rfl rfl ?_
  refine g_aload_n hC 0 dX1_leadsOthers_3 rfl rfl ?_
  refine gf_X1_32 hC dX1_leadsOthers_4 ?_
  refine g_icmp_ge (tgt := 28) hC dX1_leadsOthers_7 (by decide) (fun _ => ?_) (fun _ => ?_)
  · refine g_iconst hC (v := 0) dX1_leadsOthers_28 (by decide) ?_
    exact g_zret0 hC rfl (by decide) dX1_leadsOthers_29
  · refine g_aload_n hC 0 dX1_leadsOthers_10 rfl rfl ?_
    refine gf_X1_15 hC dX1_leadsOthers_11 ?_
    refine g_iload_n hC 2 dX1_leadsOthers_14 rfl rfl ?_
    refine g_iald hC 26 (by decide) rfl dX1_leadsOthers_15 ?_
    refine g_iload_n hC 1 dX1_leadsOthers_16 rfl rfl ?_
    refine g_icmp_ne (tgt := 22) hC dX1_leadsOthers_17 (by decide) (fun _ => ?_) (fun _ => ?_)
    · refine g_iconst hC (v := 1) dX1_leadsOthers_20 (by decide) ?_
      exact g_zret1 hC rfl (by decide) dX1_leadsOthers_21
    · refine g_iinc hC 2 (v := 1) (fun x1 => [(2, .int x1), (0, .ref (zad Z 2)), (1, .int a1)]) dX1_leadsOthers_22 rfl (by decide) (by decide) (fun _ => rfl) (fun x1 => ?_)
      refine g_goto (tgt := 2) hC dX1_leadsOthers_25 (by decide) ?_
      refine g_sub (lv1 := [(0, .ref (zad Z 2)), (1, .int a1), (2, .int x1)]) [1, 2, 0] rfl ?_
      exact hs2 M a1 x1
set_option maxRecDepth 20000 in
set_option maxHeartbeats 4000000 in
theorem g_X1_leadsOthers_l2 {p : Program} {l : Launch} {e : Env} {s : State} {m : MethodId} {args : Array Value} {below : List Frame} {meth : Method} {c : Code} {Z : gZ} (hC : gC p l s m args meth c cX1_leadsOthers 3 RX1 (some .boolean) Z)   : ∀ (n : Nat) (M : gM) (a1 : Int32) (a2 : Int32), gW p l e rm_X1_leadsOthers s m args below meth c 3 Z 1 0 0 M 2 [(0, .ref (zad Z 2)), (1, .int a1), (2, .int a2)] [] (f_X1_leadsOthers_l2  n M a1 a2)
  | 0, _, _, _ => g_stuck
  | n + 1, M, a1, a2 => g_X1_leadsOthers_lb2 hC  (g_X1_leadsOthers_l2 hC  n) M a1 a2
set_option maxRecDepth 20000 in
set_option maxHeartbeats 4000000 in
theorem c_X1_leadsOthers {l : Launch} (hfl : l.stackTraces = false) (Z : gZ) (M : gM) (a1 : Int32) : gMet l yX1_leadsOthers cX1_leadsOthers 3 (some .boolean) rm_X1_leadsOthers 1 0 Z M [.ref (zad Z 2), .int a1] (f_X1_leadsOthers M a1) := by
  refine g_enter hfl (by decide) (Nat.le_of_ble_eq_true rfl) (fun p e s m args below meth c hC => ?_)
  refine g_eq (F := f_X1_leadsOthers M a1) rfl ?_
  refine g_lv0 (lv1 := [(0, .ref (zad Z 2)), (1, .int a1)]) rfl ?_
  unfold f_X1_leadsOthers
  refine g_iconst hC (v := 0) dX1_leadsOthers_0 (by decide) ?_
  refine g_istore_n hC (lv1 := [(2, .int 0), (0, .ref (zad Z 2)), (1, .int a1)]) dX1_leadsOthers_1 rfl (by decide) rfl ?_
  refine g_sub (lv1 := [(0, .ref (zad Z 2)), (1, .int a1), (2, .int 0)]) [1, 2, 0] rfl ?_
  exact g_X1_leadsOthers_l2 hC  5000 M a1 0

-- ===== X1_judgeNow =====
def f_X1_judgeNow (M : gM) (a1 : Int32) : gR := (gI a1 8 (if (M 26 a1.toNatClampNeg) = (-1) then (gI a1 8 (rRet (M 25 a1.toNatClampNeg) M)) else (gI a1 8 (gI (M 26 a1.toNatClampNeg) 8 (rRet (M 25 (M 26 a1.toNatClampNeg).toNatClampNeg) M)))))
abbrev rm_X1_judgeNow : Room := { frames := 0, cells := 0, slots := 0, locals := 0 }
set_option maxRecDepth 20000 in
set_option maxHeartbeats 4000000 in
theorem c_X1_judgeNow {l : Launch} (hfl : l.stackTraces = false) (Z : gZ) (M : gM) (a1 : Int32) : gMet l yX1_judgeNow cX1_judgeNow 2 (some .int) rm_X1_judgeNow 1 0 Z M [.ref (zad Z 2), .int a1] (f_X1_judgeNow M a1) := by
  refine g_enter hfl (by decide) (Nat.le_of_ble_eq_true rfl) (fun p e s m args below meth c hC => ?_)
  refine g_eq (F := f_X1_judgeNow M a1) rfl ?_
  refine g_lv0 (lv1 := [(0, .ref (zad Z 2)), (1, .int a1)]) rfl ?_
  unfold f_X1_judgeNow
  refine g_aload_n hC 0 dX1_judgeNow_0 rfl rfl ?_
  refine gf_X1_15 hC dX1_judgeNow_1 ?_
  refine g_iload_n hC 1 dX1_judgeNow_4 rfl rfl ?_
  refine g_iald hC 26 (by decide) rfl dX1_judgeNow_5 ?_
  refine g_iconst hC (v := (-1)) dX1_judgeNow_6 (by decide) ?_
  refine g_icmp_ne (tgt := 19) hC dX1_judgeNow_7 (by decide) (fun _ => ?_) (fun _ => ?_)
  · refine g_aload_n hC 0 dX1_judgeNow_10 rfl rfl ?_
    refine gf_X1_9 hC dX1_judgeNow_11 ?_
    refine g_iload_n hC 1 dX1_judgeNow_14 rfl rfl ?_
    refine g_iald hC 25 (by decide) rfl dX1_judgeNow_15 ?_
    refine g_goto (tgt := 30) hC dX1_judgeNow_16 (by decide) ?_
    exact g_iret hC rfl (by decide) dX1_judgeNow_30
  · refine g_aload_n hC 0 dX1_judgeNow_19 rfl rfl ?_
    refine gf_X1_9 hC dX1_judgeNow_20 ?_
    refine g_aload_n hC 0 dX1_judgeNow_23 rfl rfl ?_
    refine gf_X1_15 hC dX1_judgeNow_24 ?_
    refine g_iload_n hC 1 dX1_judgeNow_27 rfl rfl ?_
    refine g_iald hC 26 (by decide) rfl dX1_judgeNow_28 ?_
    refine g_iald hC 25 (by decide) rfl dX1_judgeNow_29 ?_
    exact g_iret hC rfl (by decide) dX1_judgeNow_30

-- ===== X1_areBound =====
def f_X1_areBound (M : gM) (a1 : Int32) (a2 : Int32) : gR := (rb (f_X1_judgeNow M a1) (fun x2 M1 => (rb (f_X1_judgeNow M1 a2) (fun x4 M3 => (if x2 = x4 then (rRet 1 M3) else (gI a1 8 (gI a2 8 (if ((M3 28 a1.toNatClampNeg) &&& (M3 28 a2.toNatClampNeg)) = 0 then (rRet 0 M3) else (rRet 1 M3)))))))))
abbrev rm_X1_areBound : Room := { frames := 1, cells := 0, slots := 0, locals := 21 }
set_option maxRecDepth 20000 in
set_option maxHeartbeats 4000000 in
theorem c_X1_areBound {l : Launch} (hfl : l.stackTraces = false) (Z : gZ) (M : gM) (a1 : Int32) (a2 : Int32) : gMet l yX1_areBound cX1_areBound 3 (some .boolean) rm_X1_areBound 1 0 Z M [.ref (zad Z 2), .int a1, .int a2] (f_X1_areBound M a1 a2) := by
  refine g_enter hfl (by decide) (Nat.le_of_ble_eq_true rfl) (fun p e s m args below meth c hC => ?_)
  refine g_eq (F := f_X1_areBound M a1 a2) rfl ?_
  refine g_lv0 (lv1 := [(0, .ref (zad Z 2)), (1, .int a1), (2, .int a2)]) rfl ?_
  unfold f_X1_areBound
  refine g_aload_n hC 0 dX1_areBound_0 rfl rfl ?_
  refine g_iload_n hC 1 dX1_areBound_1 rfl rfl ?_
  refine g_callVi (n := 1) hC [.int a1] 2 1 (by decide) rfl rfl (fun hne => c_X1_judgeNow hC.2.2.2.2.2.2.2.1 Z M a1 hne) lk_X1_40 mw_X1_judgeNow.1 mw_X1_judgeNow.2.1 mw_X1_judgeNow.2.2.1 mw_X1_judgeNow.2.2.2 ⟨rfl, by decide, by decide, by decide +kernel⟩ rfl rfl ⟨by decide, by decide⟩ rfl rfl (Nat.le_of_ble_eq_true rfl) (by decide) (by decide) (by decide) dX1_areBound_2 (fun x2 M1 => ?_)
  refine g_aload_n hC 0 dX1_areBound_5 rfl rfl ?_
  refine g_iload_n hC 2 dX1_areBound_6 rfl rfl ?_
  refine g_callVi (n := 1) hC [.int a2] 2 1 (by decide) rfl rfl (fun hne => c_X1_judgeNow hC.2.2.2.2.2.2.2.1 Z M1 a2 hne) lk_X1_40 mw_X1_judgeNow.1 mw_X1_judgeNow.2.1 mw_X1_judgeNow.2.2.1 mw_X1_judgeNow.2.2.2 ⟨rfl, by decide, by decide, by decide +kernel⟩ rfl rfl ⟨by decide, by decide⟩ rfl rfl (Nat.le_of_ble_eq_true rfl) (by decide) (by decide) (by decide) dX1_areBound_7 (fun x4 M3 => ?_)
  refine g_icmp_eq (tgt := 29) hC dX1_areBound_10 (by decide) (fun _ => ?_) (fun _ => ?_)
  · refine g_iconst hC (v := 1) dX1_areBound_29 (by decide) ?_
    refine g_goto (tgt := 34) hC dX1_areBound_30 (by decide) ?_
    exact g_zret1 hC rfl (by decide) dX1_areBound_34
  · refine g_aload_n hC 0 dX1_areBound_13 rfl rfl ?_
    refine gf_X1_21 hC dX1_areBound_14 ?_
    refine g_iload_n hC 1 dX1_areBound_17 rfl rfl ?_
    refine g_iald hC 28 (by decide) rfl dX1_areBound_18 ?_
    refine g_aload_n hC 0 dX1_areBound_19 rfl rfl ?_
    refine gf_X1_21 hC dX1_areBound_20 ?_
    refine g_iload_n hC 2 dX1_areBound_23 rfl rfl ?_
    refine g_iald hC 28 (by decide) rfl dX1_areBound_24 ?_
    refine g_iand hC dX1_areBound_25 ?_
    refine g_if_eq (tgt := 33) hC dX1_areBound_26 (by decide) (fun _ => ?_) (fun _ => ?_)
    · refine g_iconst hC (v := 0) dX1_areBound_33 (by decide) ?_
      exact g_zret0 hC rfl (by decide) dX1_areBound_34
    · refine g_iconst hC (v := 1) dX1_areBound_29 (by decide) ?_
      refine g_goto (tgt := 34) hC dX1_areBound_30 (by decide) ?_
      exact g_zret1 hC rfl (by decide) dX1_areBound_34

-- ===== X1_stayMarks =====
def f_X1_stayMarks (M : gM) (a1 : Int32) : gR := (bV (1 <<< (a1 &&& 31)) (fun x1 => (gI a1 8 (if (M 26 a1.toNatClampNeg) = (-1) then (rRet x1 M) else (gI a1 8 (rRet (x1 ||| (1 <<< ((M 26 a1.toNatClampNeg) &&& 31))) M))))))
abbrev rm_X1_stayMarks : Room := { frames := 0, cells := 0, slots := 0, locals := 0 }
set_option maxRecDepth 20000 in
set_option maxHeartbeats 4000000 in
theorem c_X1_stayMarks {l : Launch} (hfl : l.stackTraces = false) (Z : gZ) (M : gM) (a1 : Int32) : gMet l yX1_stayMarks cX1_stayMarks 3 (some .int) rm_X1_stayMarks 1 0 Z M [.ref (zad Z 2), .int a1] (f_X1_stayMarks M a1) := by
  refine g_enter hfl (by decide) (Nat.le_of_ble_eq_true rfl) (fun p e s m args below meth c hC => ?_)
  refine g_eq (F := f_X1_stayMarks M a1) rfl ?_
  refine g_lv0 (lv1 := [(0, .ref (zad Z 2)), (1, .int a1)]) rfl ?_
  unfold f_X1_stayMarks
  refine g_iconst hC (v := 1) dX1_stayMarks_0 (by decide) ?_
  refine g_iload_n hC 1 dX1_stayMarks_1 rfl rfl ?_
  refine g_ishl hC dX1_stayMarks_2 ?_
  refine g_bv (fun x1 => ?_)
  refine g_istore_n hC (lv1 := [(2, .int x1), (0, .ref (zad Z 2)), (1, .int a1)]) dX1_stayMarks_3 rfl (by decide) rfl ?_
  refine g_aload_n hC 1 dX1_stayMarks_4 rfl rfl ?_
  refine gf_X1_15 hC dX1_stayMarks_5 ?_
  refine g_iload_n hC 2 dX1_stayMarks_8 rfl rfl ?_
  refine g_iald hC 26 (by decide) rfl dX1_stayMarks_9 ?_
  refine g_iconst hC (v := (-1)) dX1_stayMarks_10 (by decide) ?_
  refine g_icmp_ne (tgt := 18) hC dX1_stayMarks_11 (by decide) (fun _ => ?_) (fun _ => ?_)
  · refine g_iload_n hC 0 dX1_stayMarks_14 rfl rfl ?_
    refine g_goto (tgt := 28) hC dX1_stayMarks_15 (by decide) ?_
    exact g_iret hC rfl (by decide) dX1_stayMarks_28
  · refine g_iload_n hC 0 dX1_stayMarks_18 rfl rfl ?_
    refine g_iconst hC (v := 1) dX1_stayMarks_19 (by decide) ?_
    refine g_aload_n hC 1 dX1_stayMarks_20 rfl rfl ?_
    refine gf_X1_15 hC dX1_stayMarks_21 ?_
    refine g_iload_n hC 2 dX1_stayMarks_24 rfl rfl ?_
    refine g_iald hC 26 (by decide) rfl dX1_stayMarks_25 ?_
    refine g_ishl hC dX1_stayMarks_26 ?_
    refine g_ior hC dX1_stayMarks_27 ?_
    exact g_iret hC rfl (by decide) dX1_stayMarks_28

-- ===== X2_add =====
def f_X2_add (M : gM) (a1 : Int32) (a2 : Int32) (a3 : Int32) (a4 : Int32) : gR := (bV (M 3 0) (fun x1 => (gI x1 24 (bM (gset M 47 x1.toNatClampNeg a1) (fun M2 => (gI x1 24 (bM (gset M2 48 x1.toNatClampNeg a2) (fun M3 => (gI x1 24 (bM (gset M3 49 x1.toNatClampNeg a3) (fun M4 => (gI x1 24 (bM (gset M4 50 x1.toNatClampNeg a4) (fun M5 => (gI x1 24 (bM (gset M5 51 x1.toNatClampNeg 0) (fun M6 => (gI x1 24 (bM (gset M6 52 x1.toNatClampNeg (-1)) (fun M7 => (bM (gset M7 3 0 ((M7 3 0) + 1)) (fun M8 => (rRet x1 M8)))))))))))))))))))))))
abbrev rm_X2_add : Room := { frames := 0, cells := 0, slots := 0, locals := 0 }
set_option maxRecDepth 20000 in
set_option maxHeartbeats 4000000 in
theorem c_X2_add {l : Launch} (hfl : l.stackTraces = false) (Z : gZ) (M : gM) (a1 : Int32) (a2 : Int32) (a3 : Int32) (a4 : Int32) : gMet l yX2_add cX2_add 6 (some .int) rm_X2_add 1 0 Z M [.ref (zad Z 3), .int a1, .int a2, .int a3, .int a4] (f_X2_add M a1 a2 a3 a4) := by
  refine g_enter hfl (by decide) (Nat.le_of_ble_eq_true rfl) (fun p e s m args below meth c hC => ?_)
  refine g_eq (F := f_X2_add M a1 a2 a3 a4) rfl ?_
  refine g_lv0 (lv1 := [(0, .ref (zad Z 3)), (1, .int a1), (2, .int a2), (3, .int a3), (4, .int a4)]) rfl ?_
  unfold f_X2_add
  refine g_aload_n hC 0 dX2_add_0 rfl rfl ?_
  refine gf_X2_36 hC dX2_add_1 ?_
  refine g_bv (fun x1 => ?_)
  refine g_istore hC (lv1 := [(5, .int x1), (0, .ref (zad Z 3)), (1, .int a1), (2, .int a2), (3, .int a3), (4, .int a4)]) dX2_add_4 (by decide) rfl ?_
  refine g_aload_n hC 1 dX2_add_6 rfl rfl ?_
  refine gf_X2_9 hC dX2_add_7 ?_
  refine g_iload hC 0 dX2_add_10 rfl ?_
  refine g_iload_n hC 2 dX2_add_12 rfl rfl ?_
  refine g_iast hC 47 (by decide) rfl dX2_add_13 (fun M2 => ?_)
  refine g_aload_n hC 1 dX2_add_14 rfl rfl ?_
  refine gf_X2_15 hC dX2_add_15 ?_
  refine g_iload hC 0 dX2_add_18 rfl ?_
  refine g_iload_n hC 3 dX2_add_20 rfl rfl ?_
  refine g_iast hC 48 (by decide) rfl dX2_add_21 (fun M3 => ?_)
  refine g_aload_n hC 1 dX2_add_22 rfl rfl ?_
  refine gf_X2_18 hC dX2_add_23 ?_
  refine g_iload hC 0 dX2_add_26 rfl ?_
  refine g_iload_n hC 4 dX2_add_28 rfl rfl ?_
  refine g_iast hC 49 (by decide) rfl dX2_add_29 (fun M4 => ?_)
  refine g_aload_n hC 1 dX2_add_30 rfl rfl ?_
  refine gf_X2_21 hC dX2_add_31 ?_
  refine g_iload hC 0 dX2_add_34 rfl ?_
  refine g_iload hC 5 dX2_add_36 rfl ?_
  refine g_iast hC 50 (by decide) rfl dX2_add_38 (fun M5 => ?_)
  refine g_aload_n hC 1 dX2_add_39 rfl rfl ?_
  refine gf_X2_24 hC dX2_add_40 ?_
  refine g_iload hC 0 dX2_add_43 rfl ?_
  refine g_iconst hC (v := 0) dX2_add_45 (by decide) ?_
  refine g_iast hC 51 (by decide) rfl dX2_add_46 (fun M6 => ?_)
  refine g_aload_n hC 1 dX2_add_47 rfl rfl ?_
  refine gf_X2_27 hC dX2_add_48 ?_
  refine g_iload hC 0 dX2_add_51 rfl ?_
  refine g_iconst hC (v := (-1)) dX2_add_53 (by decide) ?_
  refine g_iast hC 52 (by decide) rfl dX2_add_54 (fun M7 => ?_)
  refine g_aload_n hC 1 dX2_add_55 rfl rfl ?_
  refine g_dup hC dX2_add_56 rfl ?_
  refine gf_X2_36 hC dX2_add_57 ?_
  refine g_iconst hC (v := 1) dX2_add_60 (by decide) ?_
  refine g_iadd hC dX2_add_61 ?_
  refine gp_X2_36 hC dX2_add_62 (fun M8 => ?_)
  refine g_iload hC 0 dX2_add_65 rfl ?_
  exact g_iret hC rfl (by decide) dX2_add_67

-- ===== X2_isEnded =====
def f_X2_isEnded (M : gM) (a1 : Int32) : gR := (gI a1 24 (if (M 51 a1.toNatClampNeg) = 4 then (rRet 1 M) else (gI a1 24 (if (M 51 a1.toNatClampNeg) = 5 then (rRet 1 M) else (rRet 0 M)))))
abbrev rm_X2_isEnded : Room := { frames := 0, cells := 0, slots := 0, locals := 0 }
set_option maxRecDepth 20000 in
set_option maxHeartbeats 4000000 in
theorem c_X2_isEnded {l : Launch} (hfl : l.stackTraces = false) (Z : gZ) (M : gM) (a1 : Int32) : gMet l yX2_isEnded cX2_isEnded 2 (some .boolean) rm_X2_isEnded 1 0 Z M [.ref (zad Z 3), .int a1] (f_X2_isEnded M a1) := by
  refine g_enter hfl (by decide) (Nat.le_of_ble_eq_true rfl) (fun p e s m args below meth c hC => ?_)
  refine g_eq (F := f_X2_isEnded M a1) rfl ?_
  refine g_lv0 (lv1 := [(0, .ref (zad Z 3)), (1, .int a1)]) rfl ?_
  unfold f_X2_isEnded
  refine g_aload_n hC 0 dX2_isEnded_0 rfl rfl ?_
  refine gf_X2_24 hC dX2_isEnded_1 ?_
  refine g_iload_n hC 1 dX2_isEnded_4 rfl rfl ?_
  refine g_iald hC 51 (by decide) rfl dX2_isEnded_5 ?_
  refine g_iconst hC (v := 4) dX2_isEnded_6 (by decide) ?_
  refine g_icmp_eq (tgt := 20) hC dX2_isEnded_7 (by decide) (fun _ => ?_) (fun _ => ?_)
  · refine g_iconst hC (v := 1) dX2_isEnded_20 (by decide) ?_
    refine g_goto (tgt := 25) hC dX2_isEnded_21 (by decide) ?_
    exact g_zret1 hC rfl (by decide) dX2_isEnded_25
  · refine g_aload_n hC 0 dX2_isEnded_10 rfl rfl ?_
    refine gf_X2_24 hC dX2_isEnded_11 ?_
    refine g_iload_n hC 1 dX2_isEnded_14 rfl rfl ?_
    refine g_iald hC 51 (by decide) rfl dX2_isEnded_15 ?_
    refine g_iconst hC (v := 5) dX2_isEnded_16 (by decide) ?_
    refine g_icmp_ne (tgt := 24) hC dX2_isEnded_17 (by decide) (fun _ => ?_) (fun _ => ?_)
    · refine g_iconst hC (v := 1) dX2_isEnded_20 (by decide) ?_
      refine g_goto (tgt := 25) hC dX2_isEnded_21 (by decide) ?_
      exact g_zret1 hC rfl (by decide) dX2_isEnded_25
    · refine g_iconst hC (v := 0) dX2_isEnded_24 (by decide) ?_
      exact g_zret0 hC rfl (by decide) dX2_isEnded_25

-- ===== X2_isAboveCap =====
def f_X2_isAboveCap (M : gM) (a1 : Int32) (a2 : Int32) : gR := (gI a1 24 (if (M 52 a1.toNatClampNeg) = (-1) then (rRet 0 M) else (gI a1 24 (if a2 ≤ (M 52 a1.toNatClampNeg) then (rRet 0 M) else (rRet 1 M)))))
abbrev rm_X2_isAboveCap : Room := { frames := 0, cells := 0, slots := 0, locals := 0 }
set_option maxRecDepth 20000 in
set_option maxHeartbeats 4000000 in
theorem c_X2_isAboveCap {l : Launch} (hfl : l.stackTraces = false) (Z : gZ) (M : gM) (a1 : Int32) (a2 : Int32) : gMet l yX2_isAboveCap cX2_isAboveCap 3 (some .boolean) rm_X2_isAboveCap 1 0 Z M [.ref (zad Z 3), .int a1, .int a2] (f_X2_isAboveCap M a1 a2) := by
  refine g_enter hfl (by decide) (Nat.le_of_ble_eq_true rfl) (fun p e s m args below meth c hC => ?_)
  refine g_eq (F := f_X2_isAboveCap M a1 a2) rfl ?_
  refine g_lv0 (lv1 := [(0, .ref (zad Z 3)), (1, .int a1), (2, .int a2)]) rfl ?_
  unfold f_X2_isAboveCap
  refine g_aload_n hC 0 dX2_isAboveCap_0 rfl rfl ?_
  refine gf_X2_27 hC dX2_isAboveCap_1 ?_
  refine g_iload_n hC 1 dX2_isAboveCap_4 rfl rfl ?_
  refine g_iald hC 52 (by decide) rfl dX2_isAboveCap_5 ?_
  refine g_iconst hC (v := (-1)) dX2_isAboveCap_6 (by decide) ?_
  refine g_icmp_eq (tgt := 24) hC dX2_isAboveCap_7 (by decide) (fun _ => ?_) (fun _ => ?_)
  · refine g_iconst hC (v := 0) dX2_isAboveCap_24 (by decide) ?_
    exact g_zret0 hC rfl (by decide) dX2_isAboveCap_25
  · refine g_iload_n hC 2 dX2_isAboveCap_10 rfl rfl ?_
    refine g_aload_n hC 0 dX2_isAboveCap_11 rfl rfl ?_
    refine gf_X2_27 hC dX2_isAboveCap_12 ?_
    refine g_iload_n hC 1 dX2_isAboveCap_15 rfl rfl ?_
    refine g_iald hC 52 (by decide) rfl dX2_isAboveCap_16 ?_
    refine g_icmp_le (tgt := 24) hC dX2_isAboveCap_17 (by decide) (fun _ => ?_) (fun _ => ?_)
    · refine g_iconst hC (v := 0) dX2_isAboveCap_24 (by decide) ?_
      exact g_zret0 hC rfl (by decide) dX2_isAboveCap_25
    · refine g_iconst hC (v := 1) dX2_isAboveCap_20 (by decide) ?_
      refine g_goto (tgt := 25) hC dX2_isAboveCap_21 (by decide) ?_
      exact g_zret1 hC rfl (by decide) dX2_isAboveCap_25

-- ===== X2_amountByDefault =====
def f_X2_amountByDefault (M : gM) (a1 : Int32) : gR := (gI a1 24 (rb (f_X2_isAboveCap M a1 (M 50 a1.toNatClampNeg)) (fun x2 M1 => (if x2 = 0 then (gI a1 24 (rRet (M1 50 a1.toNatClampNeg) M1)) else (gI a1 24 (rRet (M1 52 a1.toNatClampNeg) M1))))))
abbrev rm_X2_amountByDefault : Room := { frames := 1, cells := 0, slots := 0, locals := 22 }
set_option maxRecDepth 20000 in
set_option maxHeartbeats 4000000 in
theorem c_X2_amountByDefault {l : Launch} (hfl : l.stackTraces = false) (Z : gZ) (M : gM) (a1 : Int32) : gMet l yX2_amountByDefault cX2_amountByDefault 2 (some .int) rm_X2_amountByDefault 1 0 Z M [.ref (zad Z 3), .int a1] (f_X2_amountByDefault M a1) := by
  refine g_enter hfl (by decide) (Nat.le_of_ble_eq_true rfl) (fun p e s m args below meth c hC => ?_)
  refine g_eq (F := f_X2_amountByDefault M a1) rfl ?_
  refine g_lv0 (lv1 := [(0, .ref (zad Z 3)), (1, .int a1)]) rfl ?_
  unfold f_X2_amountByDefault
  refine g_aload_n hC 0 dX2_amountByDefault_0 rfl rfl ?_
  refine g_iload_n hC 1 dX2_amountByDefault_1 rfl rfl ?_
  refine g_aload_n hC 0 dX2_amountByDefault_2 rfl rfl ?_
  refine gf_X2_21 hC dX2_amountByDefault_3 ?_
  refine g_iload_n hC 1 dX2_amountByDefault_6 rfl rfl ?_
  refine g_iald hC 50 (by decide) rfl dX2_amountByDefault_7 ?_
  refine g_callVi (n := 2) hC [.int a1, .int (M 50 a1.toNatClampNeg)] 3 2 (by decide) rfl rfl (fun hne => c_X2_isAboveCap hC.2.2.2.2.2.2.2.1 Z M a1 (M 50 a1.toNatClampNeg) hne) lk_X2_40 mw_X2_isAboveCap.1 mw_X2_isAboveCap.2.1 mw_X2_isAboveCap.2.2.1 mw_X2_isAboveCap.2.2.2 ⟨rfl, by decide, by decide, by decide +kernel⟩ rfl rfl ⟨by decide, by decide⟩ rfl rfl (Nat.le_of_ble_eq_true rfl) (by decide) (by decide) (by decide) dX2_amountByDefault_8 (fun x2 M1 => ?_)
  refine g_if_eq (tgt := 23) hC dX2_amountByDefault_11 (by decide) (fun _ => ?_) (fun _ => ?_)
  · refine g_aload_n hC 0 dX2_amountByDefault_23 rfl rfl ?_
    refine gf_X2_21 hC dX2_amountByDefault_24 ?_
    refine g_iload_n hC 1 dX2_amountByDefault_27 rfl rfl ?_
    refine g_iald hC 50 (by decide) rfl dX2_amountByDefault_28 ?_
    exact g_iret hC rfl (by decide) dX2_amountByDefault_29
  · refine g_aload_n hC 0 dX2_amountByDefault_14 rfl rfl ?_
    refine gf_X2_27 hC dX2_amountByDefault_15 ?_
    refine g_iload_n hC 1 dX2_amountByDefault_18 rfl rfl ?_
    refine g_iald hC 52 (by decide) rfl dX2_amountByDefault_19 ?_
    refine g_goto (tgt := 29) hC dX2_amountByDefault_20 (by decide) ?_
    exact g_iret hC rfl (by decide) dX2_amountByDefault_29

-- ===== X2_isMember =====
def f_X2_isMember (M : gM) (a1 : Int32) (a2 : Int32) : gR := (gI a1 24 (if (((M 54 a1.toNatClampNeg) >>> (a2 &&& 31)) &&& 1) = 1 then (rRet 1 M) else (rRet 0 M)))
abbrev rm_X2_isMember : Room := { frames := 0, cells := 0, slots := 0, locals := 0 }
set_option maxRecDepth 20000 in
set_option maxHeartbeats 4000000 in
theorem c_X2_isMember {l : Launch} (hfl : l.stackTraces = false) (Z : gZ) (M : gM) (a1 : Int32) (a2 : Int32) : gMet l yX2_isMember cX2_isMember 3 (some .boolean) rm_X2_isMember 1 0 Z M [.ref (zad Z 3), .int a1, .int a2] (f_X2_isMember M a1 a2) := by
  refine g_enter hfl (by decide) (Nat.le_of_ble_eq_true rfl) (fun p e s m args below meth c hC => ?_)
  refine g_eq (F := f_X2_isMember M a1 a2) rfl ?_
  refine g_lv0 (lv1 := [(0, .ref (zad Z 3)), (1, .int a1), (2, .int a2)]) rfl ?_
  unfold f_X2_isMember
  refine g_aload_n hC 0 dX2_isMember_0 rfl rfl ?_
  refine gf_X2_33 hC dX2_isMember_1 ?_
  refine g_iload_n hC 1 dX2_isMember_4 rfl rfl ?_
  refine g_iald hC 54 (by decide) rfl dX2_isMember_5 ?_
  refine g_iload_n hC 2 dX2_isMember_6 rfl rfl ?_
  refine g_ishr hC dX2_isMember_7 ?_
  refine g_iconst hC (v := 1) dX2_isMember_8 (by decide) ?_
  refine g_iand hC dX2_isMember_9 ?_
  refine g_iconst hC (v := 1) dX2_isMember_10 (by decide) ?_
  refine g_icmp_ne (tgt := 18) hC dX2_isMember_11 (by decide) (fun _ => ?_) (fun _ => ?_)
  · refine g_iconst hC (v := 1) dX2_isMember_14 (by decide) ?_
    refine g_goto (tgt := 19) hC dX2_isMember_15 (by decide) ?_
    exact g_zret1 hC rfl (by decide) dX2_isMember_19
  · refine g_iconst hC (v := 0) dX2_isMember_18 (by decide) ?_
    exact g_zret0 hC rfl (by decide) dX2_isMember_19

-- ===== X2_setMember =====
def f_X2_setMember (M : gM) (a1 : Int32) (a2 : Int32) (a3 : Int32) : gR := (bV (1 <<< (a2 &&& 31)) (fun x1 => (if a3 = 0 then (gI a1 24 (gI a1 24 (bM (gset M 54 a1.toNatClampNeg ((M 54 a1.toNatClampNeg) &&& (x1 ^^^ (-1)))) (fun M2 => (rRet 0 M2))))) else (gI a1 24 (gI a1 24 (bM (gset M 54 a1.toNatClampNeg ((M 54 a1.toNatClampNeg) ||| x1)) (fun M3 => (rRet 0 M3))))))))
abbrev rm_X2_setMember : Room := { frames := 0, cells := 0, slots := 0, locals := 0 }
set_option maxRecDepth 20000 in
set_option maxHeartbeats 4000000 in
theorem c_X2_setMember {l : Launch} (hfl : l.stackTraces = false) (Z : gZ) (M : gM) (a1 : Int32) (a2 : Int32) (a3 : Int32) : gMet l yX2_setMember cX2_setMember 5 none rm_X2_setMember 0 0 Z M [.ref (zad Z 3), .int a1, .int a2, .int a3] (f_X2_setMember M a1 a2 a3) := by
  refine g_enter hfl (by decide) (Nat.le_of_ble_eq_true rfl) (fun p e s m args below meth c hC => ?_)
  refine g_eq (F := f_X2_setMember M a1 a2 a3) rfl ?_
  refine g_lv0 (lv1 := [(0, .ref (zad Z 3)), (1, .int a1), (2, .int a2), (3, .int a3)]) rfl ?_
  unfold f_X2_setMember
  refine g_iconst hC (v := 1) dX2_setMember_0 (by decide) ?_
  refine g_iload_n hC 2 dX2_setMember_1 rfl rfl ?_
  refine g_ishl hC dX2_setMember_2 ?_
  refine g_bv (fun x1 => ?_)
  refine g_istore hC (lv1 := [(4, .int x1), (0, .ref (zad Z 3)), (1, .int a1), (2, .int a2), (3, .int a3)]) dX2_setMember_3 (by decide) rfl ?_
  refine g_aload_n hC 1 dX2_setMember_5 rfl rfl ?_
  refine gf_X2_33 hC dX2_setMember_6 ?_
  refine g_iload_n hC 2 dX2_setMember_9 rfl rfl ?_
  refine g_iload_n hC 4 dX2_setMember_10 rfl rfl ?_
  refine g_if_eq (tgt := 26) hC dX2_setMember_11 (by decide) (fun _ => ?_) (fun _ => ?_)
  · refine g_aload_n hC 1 dX2_setMember_26 rfl rfl ?_
    refine gf_X2_33 hC dX2_setMember_27 ?_
    refine g_iload_n hC 2 dX2_setMember_30 rfl rfl ?_
    refine g_iald hC 54 (by decide) rfl dX2_setMember_31 ?_
    refine g_iload hC 0 dX2_setMember_32 rfl ?_
    refine g_iconst hC (v := (-1)) dX2_setMember_34 (by decide) ?_
    refine g_ixor hC dX2_setMember_35 ?_
    refine g_iand hC dX2_setMember_36 ?_
    refine g_iast hC 54 (by decide) rfl dX2_setMember_37 (fun M2 => ?_)
    exact g_vret hC rfl (by decide) dX2_setMember_38
  · refine g_aload_n hC 1 dX2_setMember_14 rfl rfl ?_
    refine gf_X2_33 hC dX2_setMember_15 ?_
    refine g_iload_n hC 2 dX2_setMember_18 rfl rfl ?_
    refine g_iald hC 54 (by decide) rfl dX2_setMember_19 ?_
    refine g_iload hC 0 dX2_setMember_20 rfl ?_
    refine g_ior hC dX2_setMember_22 ?_
    refine g_goto (tgt := 37) hC dX2_setMember_23 (by decide) ?_
    refine g_iast hC 54 (by decide) rfl dX2_setMember_37 (fun M3 => ?_)
    exact g_vret hC rfl (by decide) dX2_setMember_38

-- ===== J6_bitCount_0f7a4 =====
def f_J6_bitCount_0f7a4 (M : gM) (a0 : Int32) : gR := (bV (a0 - ((((a0).toUInt32 >>> ((1).toUInt32 &&& Int32.toUInt32 31)).toInt32) &&& 1431655765)) (fun x1 => (bV ((x1 &&& 858993459) + ((((x1).toUInt32 >>> ((2).toUInt32 &&& Int32.toUInt32 31)).toInt32) &&& 858993459)) (fun x2 => (bV ((x2 + (((x2).toUInt32 >>> ((4).toUInt32 &&& Int32.toUInt32 31)).toInt32)) &&& 252645135) (fun x3 => (bV (x3 + (((x3).toUInt32 >>> ((8).toUInt32 &&& Int32.toUInt32 31)).toInt32)) (fun x4 => (bV (x4 + (((x4).toUInt32 >>> ((16).toUInt32 &&& Int32.toUInt32 31)).toInt32)) (fun x5 => (rRet (x5 &&& 63) M)))))))))))
abbrev rm_J6_bitCount_0f7a4 : Room := { frames := 0, cells := 0, slots := 0, locals := 0 }
set_option maxRecDepth 20000 in
set_option maxHeartbeats 4000000 in
theorem c_J6_bitCount_0f7a4 {l : Launch} (hfl : l.stackTraces = false) (Z : gZ) (M : gM) (a0 : Int32) : gMet l yJ6_bitCount_0f7a4 cJ6_bitCount_0f7a4 1 (some .int) rm_J6_bitCount_0f7a4 1 0 Z M [.int a0] (f_J6_bitCount_0f7a4 M a0) := by
  refine g_enter hfl (by decide) (Nat.le_of_ble_eq_true rfl) (fun p e s m args below meth c hC => ?_)
  refine g_eq (F := f_J6_bitCount_0f7a4 M a0) rfl ?_
  refine g_lv0 (lv1 := [(0, .int a0)]) rfl ?_
  unfold f_J6_bitCount_0f7a4
  refine g_iload_n hC 0 dJ6_bitCount_0f7a4_0 rfl rfl ?_
  refine g_iload_n hC 0 dJ6_bitCount_0f7a4_1 rfl rfl ?_
  refine g_iconst hC (v := 1) dJ6_bitCount_0f7a4_2 (by decide) ?_
  refine g_iushr hC dJ6_bitCount_0f7a4_3 ?_
  refine g_ldcw hC (v := 1431655765) (gIn (by decide +kernel) (by decide +kernel)) dJ6_bitCount_0f7a4_4 ?_
  refine g_iand hC dJ6_bitCount_0f7a4_7 ?_
  refine g_isub hC dJ6_bitCount_0f7a4_8 ?_
  refine g_bv (fun x1 => ?_)
  refine g_istore_n hC (lv1 := [(0, .int x1)]) dJ6_bitCount_0f7a4_9 rfl (by decide) rfl ?_
  refine g_iload_n hC 0 dJ6_bitCount_0f7a4_10 rfl rfl ?_
  refine g_ldcw hC (v := 858993459) (gIn (by decide +kernel) (by decide +kernel)) dJ6_bitCount_0f7a4_11 ?_
  refine g_iand hC dJ6_bitCount_0f7a4_14 ?_
  refine g_iload_n hC 0 dJ6_bitCount_0f7a4_15 rfl rfl ?_
  refine g_iconst hC (v := 2) dJ6_bitCount_0f7a4_16 (by decide) ?_
  refine g_iushr hC dJ6_bitCount_0f7a4_17 ?_
  refine g_ldcw hC (v := 858993459) (gIn (by decide +kernel) (by decide +kernel)) dJ6_bitCount_0f7a4_18 ?_
  refine g_iand hC dJ6_bitCount_0f7a4_21 ?_
  refine g_iadd hC dJ6_bitCount_0f7a4_22 ?_
  refine g_bv (fun x2 => ?_)
  refine g_istore_n hC (lv1 := [(0, .int x2)]) dJ6_bitCount_0f7a4_23 rfl (by decide) rfl ?_
  refine g_iload_n hC 0 dJ6_bitCount_0f7a4_24 rfl rfl ?_
  refine g_iload_n hC 0 dJ6_bitCount_0f7a4_25 rfl rfl ?_
  refine g_iconst hC (v := 4) dJ6_bitCount_0f7a4_26 (by decide) ?_
  refine g_iushr hC dJ6_bitCount_0f7a4_27 ?_
  refine g_iadd hC dJ6_bitCount_0f7a4_28 ?_
  refine g_ldcw hC (v := 252645135) (gIn (by decide +kernel) (by decide +kernel)) dJ6_bitCount_0f7a4_29 ?_
  refine g_iand hC dJ6_bitCount_0f7a4_32 ?_
  refine g_bv (fun x3 => ?_)
  refine g_istore_n hC (lv1 := [(0, .int x3)]) dJ6_bitCount_0f7a4_33 rfl (by decide) rfl ?_
  refine g_iload_n hC 0 dJ6_bitCount_0f7a4_34 rfl rfl ?_
  refine g_iload_n hC 0 dJ6_bitCount_0f7a4_35 rfl rfl ?_
  refine g_bipush hC (v := 8) dJ6_bitCount_0f7a4_36 (by decide) ?_
  refine g_iushr hC dJ6_bitCount_0f7a4_38 ?_
  refine g_iadd hC dJ6_bitCount_0f7a4_39 ?_
  refine g_bv (fun x4 => ?_)
  refine g_istore_n hC (lv1 := [(0, .int x4)]) dJ6_bitCount_0f7a4_40 rfl (by decide) rfl ?_
  refine g_iload_n hC 0 dJ6_bitCount_0f7a4_41 rfl rfl ?_
  refine g_iload_n hC 0 dJ6_bitCount_0f7a4_42 rfl rfl ?_
  refine g_bipush hC (v := 16) dJ6_bitCount_0f7a4_43 (by decide) ?_
  refine g_iushr hC dJ6_bitCount_0f7a4_45 ?_
  refine g_iadd hC dJ6_bitCount_0f7a4_46 ?_
  refine g_bv (fun x5 => ?_)
  refine g_istore_n hC (lv1 := [(0, .int x5)]) dJ6_bitCount_0f7a4_47 rfl (by decide) rfl ?_
  refine g_iload_n hC 0 dJ6_bitCount_0f7a4_48 rfl rfl ?_
  refine g_bipush hC (v := 63) dJ6_bitCount_0f7a4_49 (by decide) ?_
  refine g_iand hC dJ6_bitCount_0f7a4_51 ?_
  exact g_iret hC rfl (by decide) dJ6_bitCount_0f7a4_52

-- ===== X2_memberCount =====
def f_X2_memberCount (M : gM) (a1 : Int32) : gR := (gI a1 24 (rb (f_J6_bitCount_0f7a4 M (M 54 a1.toNatClampNeg)) (fun x2 M1 => (rRet x2 M1))))
abbrev rm_X2_memberCount : Room := { frames := 1, cells := 0, slots := 0, locals := 20 }
set_option maxRecDepth 20000 in
set_option maxHeartbeats 4000000 in
theorem c_X2_memberCount {l : Launch} (hfl : l.stackTraces = false) (Z : gZ) (M : gM) (a1 : Int32) : gMet l yX2_memberCount cX2_memberCount 2 (some .int) rm_X2_memberCount 1 0 Z M [.ref (zad Z 3), .int a1] (f_X2_memberCount M a1) := by
  refine g_enter hfl (by decide) (Nat.le_of_ble_eq_true rfl) (fun p e s m args below meth c hC => ?_)
  refine g_eq (F := f_X2_memberCount M a1) rfl ?_
  refine g_lv0 (lv1 := [(0, .ref (zad Z 3)), (1, .int a1)]) rfl ?_
  unfold f_X2_memberCount
  refine g_aload_n hC 0 dX2_memberCount_0 rfl rfl ?_
  refine gf_X2_33 hC dX2_memberCount_1 ?_
  refine g_iload_n hC 1 dX2_memberCount_4 rfl rfl ?_
  refine g_iald hC 54 (by decide) rfl dX2_memberCount_5 ?_
  refine g_callSi (n := 1) hC [.int (M 54 a1.toNatClampNeg)] (fun hne => c_J6_bitCount_0f7a4 hC.2.2.2.2.2.2.2.1 Z M (M 54 a1.toNatClampNeg) hne) lk_X2_44 mw_J6_bitCount_0f7a4.1 mw_J6_bitCount_0f7a4.2.1 mw_J6_bitCount_0f7a4.2.2 ⟨by decide, by decide, by decide +kernel⟩ rfl rfl ⟨by decide, by decide⟩ rfl rfl (Nat.le_of_ble_eq_true rfl) (by decide) (by decide) (by decide) dX2_memberCount_6 (fun x2 M1 => ?_)
  exact g_iret hC rfl (by decide) dX2_memberCount_9

-- ===== X3_add =====
def f_X3_add (M : gM) (a1 : Int32) (a2 : Int32) (a3 : Int32) : gR := (bV (M 4 0) (fun x1 => (gI x1 160 (bM (gset M 55 x1.toNatClampNeg a1) (fun M2 => (gI x1 160 (bM (gset M2 56 x1.toNatClampNeg a2) (fun M3 => (gI x1 160 (bM (gset M3 57 x1.toNatClampNeg a3) (fun M4 => (gI x1 160 (bM (gset M4 65 x1.toNatClampNeg (-1)) (fun M5 => (bM (gset M5 4 0 ((M5 4 0) + 1)) (fun M6 => (rRet x1 M6)))))))))))))))))
abbrev rm_X3_add : Room := { frames := 0, cells := 0, slots := 0, locals := 0 }
set_option maxRecDepth 20000 in
set_option maxHeartbeats 4000000 in
theorem c_X3_add {l : Launch} (hfl : l.stackTraces = false) (Z : gZ) (M : gM) (a1 : Int32) (a2 : Int32) (a3 : Int32) : gMet l yX3_add cX3_add 5 (some .int) rm_X3_add 1 0 Z M [.ref (zad Z 4), .int a1, .int a2, .int a3] (f_X3_add M a1 a2 a3) := by
  refine g_enter hfl (by decide) (Nat.le_of_ble_eq_true rfl) (fun p e s m args below meth c hC => ?_)
  refine g_eq (F := f_X3_add M a1 a2 a3) rfl ?_
  refine g_lv0 (lv1 := [(0, .ref (zad Z 4)), (1, .int a1), (2, .int a2), (3, .int a3)]) rfl ?_
  unfold f_X3_add
  refine g_aload_n hC 0 dX3_add_0 rfl rfl ?_
  refine gf_X3_55 hC dX3_add_1 ?_
  refine g_bv (fun x1 => ?_)
  refine g_istore hC (lv1 := [(4, .int x1), (0, .ref (zad Z 4)), (1, .int a1), (2, .int a2), (3, .int a3)]) dX3_add_4 (by decide) rfl ?_
  refine g_aload_n hC 1 dX3_add_6 rfl rfl ?_
  refine gf_X3_9 hC dX3_add_7 ?_
  refine g_iload hC 0 dX3_add_10 rfl ?_
  refine g_iload_n hC 2 dX3_add_12 rfl rfl ?_
  refine g_iast hC 55 (by decide) rfl dX3_add_13 (fun M2 => ?_)
  refine g_aload_n hC 1 dX3_add_14 rfl rfl ?_
  refine gf_X3_15 hC dX3_add_15 ?_
  refine g_iload hC 0 dX3_add_18 rfl ?_
  refine g_iload_n hC 3 dX3_add_20 rfl rfl ?_
  refine g_iast hC 56 (by decide) rfl dX3_add_21 (fun M3 => ?_)
  refine g_aload_n hC 1 dX3_add_22 rfl rfl ?_
  refine gf_X3_18 hC dX3_add_23 ?_
  refine g_iload hC 0 dX3_add_26 rfl ?_
  refine g_iload_n hC 4 dX3_add_28 rfl rfl ?_
  refine g_iast hC 57 (by decide) rfl dX3_add_29 (fun M4 => ?_)
  refine g_aload_n hC 1 dX3_add_30 rfl rfl ?_
  refine gf_X3_43 hC dX3_add_31 ?_
  refine g_iload hC 0 dX3_add_34 rfl ?_
  refine g_iconst hC (v := (-1)) dX3_add_36 (by decide) ?_
  refine g_iast hC 65 (by decide) rfl dX3_add_37 (fun M5 => ?_)
  refine g_aload_n hC 1 dX3_add_38 rfl rfl ?_
  refine g_dup hC dX3_add_39 rfl ?_
  refine gf_X3_55 hC dX3_add_40 ?_
  refine g_iconst hC (v := 1) dX3_add_43 (by decide) ?_
  refine g_iadd hC dX3_add_44 ?_
  refine gp_X3_55 hC dX3_add_45 (fun M6 => ?_)
  refine g_iload hC 0 dX3_add_48 rfl ?_
  exact g_iret hC rfl (by decide) dX3_add_50

-- ===== X3_isOfCase =====
def f_X3_isOfCase (M : gM) (a1 : Int32) : gR := (gI a1 160 (if (M 55 a1.toNatClampNeg) = 11 then (rRet 1 M) else (gI a1 160 (if (M 55 a1.toNatClampNeg) = 12 then (rRet 1 M) else (rRet 0 M)))))
abbrev rm_X3_isOfCase : Room := { frames := 0, cells := 0, slots := 0, locals := 0 }
set_option maxRecDepth 20000 in
set_option maxHeartbeats 4000000 in
theorem c_X3_isOfCase {l : Launch} (hfl : l.stackTraces = false) (Z : gZ) (M : gM) (a1 : Int32) : gMet l yX3_isOfCase cX3_isOfCase 2 (some .boolean) rm_X3_isOfCase 1 0 Z M [.ref (zad Z 4), .int a1] (f_X3_isOfCase M a1) := by
  refine g_enter hfl (by decide) (Nat.le_of_ble_eq_true rfl) (fun p e s m args below meth c hC => ?_)
  refine g_eq (F := f_X3_isOfCase M a1) rfl ?_
  refine g_lv0 (lv1 := [(0, .ref (zad Z 4)), (1, .int a1)]) rfl ?_
  unfold f_X3_isOfCase
  refine g_aload_n hC 0 dX3_isOfCase_0 rfl rfl ?_
  refine gf_X3_9 hC dX3_isOfCase_1 ?_
  refine g_iload_n hC 1 dX3_isOfCase_4 rfl rfl ?_
  refine g_iald hC 55 (by decide) rfl dX3_isOfCase_5 ?_
  refine g_bipush hC (v := 11) dX3_isOfCase_6 (by decide) ?_
  refine g_icmp_eq (tgt := 22) hC dX3_isOfCase_8 (by decide) (fun _ => ?_) (fun _ => ?_)
  · refine g_iconst hC (v := 1) dX3_isOfCase_22 (by decide) ?_
    refine g_goto (tgt := 27) hC dX3_isOfCase_23 (by decide) ?_
    exact g_zret1 hC rfl (by decide) dX3_isOfCase_27
  · refine g_aload_n hC 0 dX3_isOfCase_11 rfl rfl ?_
    refine gf_X3_9 hC dX3_isOfCase_12 ?_
    refine g_iload_n hC 1 dX3_isOfCase_15 rfl rfl ?_
    refine g_iald hC 55 (by decide) rfl dX3_isOfCase_16 ?_
    refine g_bipush hC (v := 12) dX3_isOfCase_17 (by decide) ?_
    refine g_icmp_ne (tgt := 26) hC dX3_isOfCase_19 (by decide) (fun _ => ?_) (fun _ => ?_)
    · refine g_iconst hC (v := 1) dX3_isOfCase_22 (by decide) ?_
      refine g_goto (tgt := 27) hC dX3_isOfCase_23 (by decide) ?_
      exact g_zret1 hC rfl (by decide) dX3_isOfCase_27
    · refine g_iconst hC (v := 0) dX3_isOfCase_26 (by decide) ?_
      exact g_zret0 hC rfl (by decide) dX3_isOfCase_27

-- ===== X3_isOfClaim =====
def f_X3_isOfClaim (M : gM) (a1 : Int32) (a2 : Int32) : gR := (gI a1 160 (if (M 57 a1.toNatClampNeg) = a2 then (rb (f_X3_isOfCase M a1) (fun x2 M1 => (if x2 = 0 then (rRet 1 M1) else (rRet 0 M1)))) else (rRet 0 M)))
abbrev rm_X3_isOfClaim : Room := { frames := 1, cells := 0, slots := 0, locals := 21 }
set_option maxRecDepth 20000 in
set_option maxHeartbeats 4000000 in
theorem c_X3_isOfClaim {l : Launch} (hfl : l.stackTraces = false) (Z : gZ) (M : gM) (a1 : Int32) (a2 : Int32) : gMet l yX3_isOfClaim cX3_isOfClaim 3 (some .boolean) rm_X3_isOfClaim 1 0 Z M [.ref (zad Z 4), .int a1, .int a2] (f_X3_isOfClaim M a1 a2) := by
  refine g_enter hfl (by decide) (Nat.le_of_ble_eq_true rfl) (fun p e s m args below meth c hC => ?_)
  refine g_eq (F := f_X3_isOfClaim M a1 a2) rfl ?_
  refine g_lv0 (lv1 := [(0, .ref (zad Z 4)), (1, .int a1), (2, .int a2)]) rfl ?_
  unfold f_X3_isOfClaim
  refine g_aload_n hC 0 dX3_isOfClaim_0 rfl rfl ?_
  refine gf_X3_18 hC dX3_isOfClaim_1 ?_
  refine g_iload_n hC 1 dX3_isOfClaim_4 rfl rfl ?_
  refine g_iald hC 57 (by decide) rfl dX3_isOfClaim_5 ?_
  refine g_iload_n hC 2 dX3_isOfClaim_6 rfl rfl ?_
  refine g_icmp_ne (tgt := 22) hC dX3_isOfClaim_7 (by decide) (fun _ => ?_) (fun _ => ?_)
  · refine g_aload_n hC 0 dX3_isOfClaim_10 rfl rfl ?_
    refine g_iload_n hC 1 dX3_isOfClaim_11 rfl rfl ?_
    refine g_callVi (n := 1) hC [.int a1] 4 3 (by decide) rfl rfl (fun hne => c_X3_isOfCase hC.2.2.2.2.2.2.2.1 Z M a1 hne) lk_X3_59 mw_X3_isOfCase.1 mw_X3_isOfCase.2.1 mw_X3_isOfCase.2.2.1 mw_X3_isOfCase.2.2.2 ⟨rfl, by decide, by decide, by decide +kernel⟩ rfl rfl ⟨by decide, by decide⟩ rfl rfl (Nat.le_of_ble_eq_true rfl) (by decide) (by decide) (by decide) dX3_isOfClaim_12 (fun x2 M1 => ?_)
    refine g_if_ne (tgt := 22) hC dX3_isOfClaim_15 (by decide) (fun _ => ?_) (fun _ => ?_)
    · refine g_iconst hC (v := 1) dX3_isOfClaim_18 (by decide) ?_
      refine g_goto (tgt := 23) hC dX3_isOfClaim_19 (by decide) ?_
      exact g_zret1 hC rfl (by decide) dX3_isOfClaim_23
    · refine g_iconst hC (v := 0) dX3_isOfClaim_22 (by decide) ?_
      exact g_zret0 hC rfl (by decide) dX3_isOfClaim_23
  · refine g_iconst hC (v := 0) dX3_isOfClaim_22 (by decide) ?_
    exact g_zret0 hC rfl (by decide) dX3_isOfClaim_23

-- ===== X3_hasDefect =====
def f_X3_hasDefect (M : gM) (a1 : Int32) : gR := (gI a1 160 (if (M 65 a1.toNatClampNeg) = (-1) then (rRet 0 M) else (rRet 1 M)))
abbrev rm_X3_hasDefect : Room := { frames := 0, cells := 0, slots := 0, locals := 0 }
set_option maxRecDepth 20000 in
set_option maxHeartbeats 4000000 in
theorem c_X3_hasDefect {l : Launch} (hfl : l.stackTraces = false) (Z : gZ) (M : gM) (a1 : Int32) : gMet l yX3_hasDefect cX3_hasDefect 2 (some .boolean) rm_X3_hasDefect 1 0 Z M [.ref (zad Z 4), .int a1] (f_X3_hasDefect M a1) := by
  refine g_enter hfl (by decide) (Nat.le_of_ble_eq_true rfl) (fun p e s m args below meth c hC => ?_)
  refine g_eq (F := f_X3_hasDefect M a1) rfl ?_
  refine g_lv0 (lv1 := [(0, .ref (zad Z 4)), (1, .int a1)]) rfl ?_
  unfold f_X3_hasDefect
  refine g_aload_n hC 0 dX3_hasDefect_0 rfl rfl ?_
  refine gf_X3_43 hC dX3_hasDefect_1 ?_
  refine g_iload_n hC 1 dX3_hasDefect_4 rfl rfl ?_
  refine g_iald hC 65 (by decide) rfl dX3_hasDefect_5 ?_
  refine g_iconst hC (v := (-1)) dX3_hasDefect_6 (by decide) ?_
  refine g_icmp_eq (tgt := 14) hC dX3_hasDefect_7 (by decide) (fun _ => ?_) (fun _ => ?_)
  · refine g_iconst hC (v := 0) dX3_hasDefect_14 (by decide) ?_
    exact g_zret0 hC rfl (by decide) dX3_hasDefect_15
  · refine g_iconst hC (v := 1) dX3_hasDefect_10 (by decide) ?_
    refine g_goto (tgt := 15) hC dX3_hasDefect_11 (by decide) ?_
    exact g_zret1 hC rfl (by decide) dX3_hasDefect_15

-- ===== X3_latest =====
def f_X3_latest_lb7  (self7 : gM → Int32 → Int32 → Int32 → gR) (M : gM) (a1 : Int32) (a2 : Int32) (a3 : Int32) : gR := (if a3 < 0 then (rRet (-1) M) else (gI a3 160 (if (M 55 a3.toNatClampNeg) = a1 then (gI a3 160 (if (M 57 a3.toNatClampNeg) = a2 then (rRet a3 M) else (bV (a3 + (-1)) (fun x1 => (self7 M a1 a2 x1))))) else (bV (a3 + (-1)) (fun x2 => (self7 M a1 a2 x2))))))
def f_X3_latest_l7  : Nat → gM → Int32 → Int32 → Int32 → gR
  | 0, _, _, _, _ => rStuck
  | n + 1, M, a1, a2, a3 => f_X3_latest_lb7  (f_X3_latest_l7  n) M a1 a2 a3
def f_X3_latest (M : gM) (a1 : Int32) (a2 : Int32) : gR := (bV ((M 4 0) - 1) (fun x3 => (f_X3_latest_l7  5000 M a1 a2 x3)))
abbrev rm_X3_latest : Room := { frames := 0, cells := 0, slots := 0, locals := 0 }
set_option maxRecDepth 20000 in
set_option maxHeartbeats 4000000 in
theorem g_X3_latest_lb7 {p : Program} {l : Launch} {e : Env} {s : State} {m : MethodId} {args : Array Value} {below : List Frame} {meth : Method} {c : Code} {Z : gZ} (hC : gC p l s m args meth c cX3_latest 4 RX3 (some .int) Z)  {self7 : gM → Int32 → Int32 → Int32 → gR}  (hs7 : ∀ (M : gM) (a1 : Int32) (a2 : Int32) (a3 : Int32) , gW p l e rm_X3_latest s m args below meth c 4 Z 1 0 0 M 7 [(0, .ref (zad Z 4)), (1, .int a1), (2, .int a2), (3, .int a3)] [] (self7 M a1 a2 a3)) (M : gM) (a1 : Int32) (a2 : Int32) (a3 : Int32) : gW p l e rm_X3_latest s m args below meth c 4 Z 1 0 0 M 7 [(0, .ref (zad Z 4)), (1, .int a1), (2, .int a2), (3, .int a3)] [] (f_X3_latest_lb7  self7 M a1 a2 a3) := by
  unfold f_X3_latest_lb7
  refine g_iload_n hC 3 dX3_latest_7 rfl rfl ?_
  refine g_if_lt (tgt := 39) hC dX3_latest_8 (by decide) (fun _ => ?_) (fun _ => ?_)
  · refine g_iconst hC (v := (-1)) dX3_latest_39 (by decide) ?_
    exact g_iret hC rfl (by decide) dX3_latest_40
  · refine g_aload_n hC 0 dX3_latest_11 rfl rfl ?_
    refine gf_X3_9 hC dX3_latest_12 ?_
    refine g_iload_n hC 3 dX3_latest_15 rfl rfl ?_
    refine g_iald hC 55 (by decide) rfl dX3_latest_16 ?_
    refine g_iload_n hC 1 dX3_latest_17 rfl rfl ?_
    refine g_icmp_ne (tgt := 33) hC dX3_latest_18 (by decide) (fun _ => ?_) (fun _ => ?_)
    · refine g_aload_n hC 0 dX3_latest_21 rfl rfl ?_
      refine gf_X3_18 hC dX3_latest_22 ?_
      refine g_iload_n hC 3 dX3_latest_25 rfl rfl ?_
      refine g_iald hC 57 (by decide) rfl dX3_latest_26 ?_
      refine g_iload_n hC 2 dX3_latest_27 rfl rfl ?_
      refine g_icmp_ne (tgt := 33) hC dX3_latest_28 (by decide) (fun _ => ?_) (fun _ => ?_)
      · refine g_iload_n hC 3 dX3_latest_31 rfl rfl ?_
        exact g_iret hC rfl (by decide) dX3_latest_32
      · refine g_iinc hC 3 (v := (-1)) (fun x1 => [(3, .int x1), (0, .ref (zad Z 4)), (1, .int a1), (2, .int a2)]) dX3_latest_33 rfl (by decide) (by decide) (fun _ => rfl) (fun x1 => ?_)
        refine g_goto (tgt := 7) hC dX3_latest_36 (by decide) ?_
        refine g_sub (lv1 := [(0, .ref (zad Z 4)), (1, .int a1), (2, .int a2), (3, .int x1)]) [1, 2, 3, 0] rfl ?_
        exact hs7 M a1 a2 x1
    · refine g_iinc hC 3 (v := (-1)) (fun x2 => [(3, .int x2), (0, .ref (zad Z 4)), (1, .int a1), (2, .int a2)]) dX3_latest_33 rfl (by decide) (by decide) (fun _ => rfl) (fun x2 => ?_)
      refine g_goto (tgt := 7) hC dX3_latest_36 (by decide) ?_
      refine g_sub (lv1 := [(0, .ref (zad Z 4)), (1, .int a1), (2, .int a2), (3, .int x2)]) [1, 2, 3, 0] rfl ?_
      exact hs7 M a1 a2 x2
set_option maxRecDepth 20000 in
set_option maxHeartbeats 4000000 in
theorem g_X3_latest_l7 {p : Program} {l : Launch} {e : Env} {s : State} {m : MethodId} {args : Array Value} {below : List Frame} {meth : Method} {c : Code} {Z : gZ} (hC : gC p l s m args meth c cX3_latest 4 RX3 (some .int) Z)   : ∀ (n : Nat) (M : gM) (a1 : Int32) (a2 : Int32) (a3 : Int32), gW p l e rm_X3_latest s m args below meth c 4 Z 1 0 0 M 7 [(0, .ref (zad Z 4)), (1, .int a1), (2, .int a2), (3, .int a3)] [] (f_X3_latest_l7  n M a1 a2 a3)
  | 0, _, _, _, _ => g_stuck
  | n + 1, M, a1, a2, a3 => g_X3_latest_lb7 hC  (g_X3_latest_l7 hC  n) M a1 a2 a3
set_option maxRecDepth 20000 in
set_option maxHeartbeats 4000000 in
theorem c_X3_latest {l : Launch} (hfl : l.stackTraces = false) (Z : gZ) (M : gM) (a1 : Int32) (a2 : Int32) : gMet l yX3_latest cX3_latest 4 (some .int) rm_X3_latest 1 0 Z M [.ref (zad Z 4), .int a1, .int a2] (f_X3_latest M a1 a2) := by
  refine g_enter hfl (by decide) (Nat.le_of_ble_eq_true rfl) (fun p e s m args below meth c hC => ?_)
  refine g_eq (F := f_X3_latest M a1 a2) rfl ?_
  refine g_lv0 (lv1 := [(0, .ref (zad Z 4)), (1, .int a1), (2, .int a2)]) rfl ?_
  unfold f_X3_latest
  refine g_aload_n hC 0 dX3_latest_0 rfl rfl ?_
  refine gf_X3_55 hC dX3_latest_1 ?_
  refine g_iconst hC (v := 1) dX3_latest_4 (by decide) ?_
  refine g_isub hC dX3_latest_5 ?_
  refine g_bv (fun x3 => ?_)
  refine g_istore_n hC (lv1 := [(3, .int x3), (0, .ref (zad Z 4)), (1, .int a1), (2, .int a2)]) dX3_latest_6 rfl (by decide) rfl ?_
  refine g_sub (lv1 := [(0, .ref (zad Z 4)), (1, .int a1), (2, .int a2), (3, .int x3)]) [1, 2, 3, 0] rfl ?_
  exact g_X3_latest_l7 hC  5000 M a1 a2 x3

-- ===== X3_latestOrder =====
def f_X3_latestOrder_b48 (self7 : gM → Int32 → Int32 → gR) (M : gM) (a1 : Int32) (a2 : Int32) (t0 : Int32) : gR := (if t0 = 0 then (bV (a2 + (-1)) (fun x1 => (self7 M a1 x1))) else (gI a2 160 (if (M 57 a2.toNatClampNeg) = a1 then (gI a2 160 (if (M 61 a2.toNatClampNeg) = 0 then (rRet a2 M) else (bV (a2 + (-1)) (fun x2 => (self7 M a1 x2))))) else (bV (a2 + (-1)) (fun x3 => (self7 M a1 x3))))))
def f_X3_latestOrder_b47 (self7 : gM → Int32 → Int32 → gR) (M : gM) (a1 : Int32) (a2 : Int32)  : gR := (f_X3_latestOrder_b48 self7 M a1 a2 0)
def f_X3_latestOrder_lb7  (self7 : gM → Int32 → Int32 → gR) (M : gM) (a1 : Int32) (a2 : Int32) : gR := (if a2 < 0 then (rRet (-1) M) else (gI a2 160 (if (M 55 a2.toNatClampNeg) < 4 then (f_X3_latestOrder_b47 self7 M a1 a2 ) else (gI a2 160 (if 10 < (M 55 a2.toNatClampNeg) then (f_X3_latestOrder_b47 self7 M a1 a2 ) else (gI a2 160 (if (M 55 a2.toNatClampNeg) = 6 then (f_X3_latestOrder_b47 self7 M a1 a2 ) else (f_X3_latestOrder_b48 self7 M a1 a2 1))))))))
def f_X3_latestOrder_l7  : Nat → gM → Int32 → Int32 → gR
  | 0, _, _, _ => rStuck
  | n + 1, M, a1, a2 => f_X3_latestOrder_lb7  (f_X3_latestOrder_l7  n) M a1 a2
def f_X3_latestOrder (M : gM) (a1 : Int32) : gR := (bV ((M 4 0) - 1) (fun x4 => (f_X3_latestOrder_l7  5000 M a1 x4)))
abbrev rm_X3_latestOrder : Room := { frames := 0, cells := 0, slots := 0, locals := 0 }
set_option maxRecDepth 20000 in
set_option maxHeartbeats 4000000 in
theorem g_X3_latestOrder_b48 {p : Program} {l : Launch} {e : Env} {s : State} {m : MethodId} {args : Array Value} {below : List Frame} {meth : Method} {c : Code} {Z : gZ} (hC : gC p l s m args meth c cX3_latestOrder 4 RX3 (some .int) Z) {self7 : gM → Int32 → Int32 → gR} (hs7 : ∀ (M : gM) (a1 : Int32) (a2 : Int32) , gW p l e rm_X3_latestOrder s m args below meth c 4 Z 1 0 0 M 7 [(0, .ref (zad Z 4)), (1, .int a1), (2, .int a2)] [] (self7 M a1 a2)) (M : gM) (a1 : Int32) (a2 : Int32) (t0 : Int32) : gW p l e rm_X3_latestOrder s m args below meth c 4 Z 1 0 0 M 48 [(0, .ref (zad Z 4)), (1, .int a1), (2, .int a2)] [.int t0] (f_X3_latestOrder_b48 self7 M a1 a2 t0) := by
  unfold f_X3_latestOrder_b48
  refine g_istore_n hC (lv1 := [(3, .int t0), (0, .ref (zad Z 4)), (1, .int a1), (2, .int a2)]) dX3_latestOrder_48 rfl (by decide) rfl ?_
  refine g_iload_n hC 0 dX3_latestOrder_49 rfl rfl ?_
  refine g_if_eq (tgt := 74) hC dX3_latestOrder_50 (by decide) (fun _ => ?_) (fun _ => ?_)
  · refine g_iinc hC 3 (v := (-1)) (fun x1 => [(2, .int x1), (3, .int t0), (0, .ref (zad Z 4)), (1, .int a1)]) dX3_latestOrder_74 rfl (by decide) (by decide) (fun _ => rfl) (fun x1 => ?_)
    refine g_goto (tgt := 7) hC dX3_latestOrder_77 (by decide) ?_
    refine g_sub (lv1 := [(0, .ref (zad Z 4)), (1, .int a1), (2, .int x1)]) [2, 3, 0] rfl ?_
    exact hs7 M a1 x1
  · refine g_aload_n hC 1 dX3_latestOrder_53 rfl rfl ?_
    refine gf_X3_18 hC dX3_latestOrder_54 ?_
    refine g_iload_n hC 3 dX3_latestOrder_57 rfl rfl ?_
    refine g_iald hC 57 (by decide) rfl dX3_latestOrder_58 ?_
    refine g_iload_n hC 2 dX3_latestOrder_59 rfl rfl ?_
    refine g_icmp_ne (tgt := 74) hC dX3_latestOrder_60 (by decide) (fun _ => ?_) (fun _ => ?_)
    · refine g_aload_n hC 1 dX3_latestOrder_63 rfl rfl ?_
      refine gf_X3_30 hC dX3_latestOrder_64 ?_
      refine g_iload_n hC 3 dX3_latestOrder_67 rfl rfl ?_
      refine g_zald hC 61 (by decide) rfl dX3_latestOrder_68 ?_
      refine g_if_ne (tgt := 74) hC dX3_latestOrder_69 (by decide) (fun _ => ?_) (fun _ => ?_)
      · refine g_iload_n hC 3 dX3_latestOrder_72 rfl rfl ?_
        exact g_iret hC rfl (by decide) dX3_latestOrder_73
      · refine g_iinc hC 3 (v := (-1)) (fun x2 => [(2, .int x2), (3, .int t0), (0, .ref (zad Z 4)), (1, .int a1)]) dX3_latestOrder_74 rfl (by decide) (by decide) (fun _ => rfl) (fun x2 => ?_)
        refine g_goto (tgt := 7) hC dX3_latestOrder_77 (by decide) ?_
        refine g_sub (lv1 := [(0, .ref (zad Z 4)), (1, .int a1), (2, .int x2)]) [2, 3, 0] rfl ?_
        exact hs7 M a1 x2
    · refine g_iinc hC 3 (v := (-1)) (fun x3 => [(2, .int x3), (3, .int t0), (0, .ref (zad Z 4)), (1, .int a1)]) dX3_latestOrder_74 rfl (by decide) (by decide) (fun _ => rfl) (fun x3 => ?_)
      refine g_goto (tgt := 7) hC dX3_latestOrder_77 (by decide) ?_
      refine g_sub (lv1 := [(0, .ref (zad Z 4)), (1, .int a1), (2, .int x3)]) [2, 3, 0] rfl ?_
      exact hs7 M a1 x3
set_option maxRecDepth 20000 in
set_option maxHeartbeats 4000000 in
theorem g_X3_latestOrder_b47 {p : Program} {l : Launch} {e : Env} {s : State} {m : MethodId} {args : Array Value} {below : List Frame} {meth : Method} {c : Code} {Z : gZ} (hC : gC p l s m args meth c cX3_latestOrder 4 RX3 (some .int) Z) {self7 : gM → Int32 → Int32 → gR} (hs7 : ∀ (M : gM) (a1 : Int32) (a2 : Int32) , gW p l e rm_X3_latestOrder s m args below meth c 4 Z 1 0 0 M 7 [(0, .ref (zad Z 4)), (1, .int a1), (2, .int a2)] [] (self7 M a1 a2)) (M : gM) (a1 : Int32) (a2 : Int32)  : gW p l e rm_X3_latestOrder s m args below meth c 4 Z 1 0 0 M 47 [(0, .ref (zad Z 4)), (1, .int a1), (2, .int a2)] [] (f_X3_latestOrder_b47 self7 M a1 a2 ) := by
  unfold f_X3_latestOrder_b47
  refine g_iconst hC (v := 0) dX3_latestOrder_47 (by decide) ?_
  exact g_X3_latestOrder_b48 hC hs7 M a1 a2 0
set_option maxRecDepth 20000 in
set_option maxHeartbeats 4000000 in
theorem g_X3_latestOrder_lb7 {p : Program} {l : Launch} {e : Env} {s : State} {m : MethodId} {args : Array Value} {below : List Frame} {meth : Method} {c : Code} {Z : gZ} (hC : gC p l s m args meth c cX3_latestOrder 4 RX3 (some .int) Z)  {self7 : gM → Int32 → Int32 → gR}  (hs7 : ∀ (M : gM) (a1 : Int32) (a2 : Int32) , gW p l e rm_X3_latestOrder s m args below meth c 4 Z 1 0 0 M 7 [(0, .ref (zad Z 4)), (1, .int a1), (2, .int a2)] [] (self7 M a1 a2)) (M : gM) (a1 : Int32) (a2 : Int32) : gW p l e rm_X3_latestOrder s m args below meth c 4 Z 1 0 0 M 7 [(0, .ref (zad Z 4)), (1, .int a1), (2, .int a2)] [] (f_X3_latestOrder_lb7  self7 M a1 a2) := by
  unfold f_X3_latestOrder_lb7
  refine g_iload_n hC 2 dX3_latestOrder_7 rfl rfl ?_
  refine g_if_lt (tgt := 80) hC dX3_latestOrder_8 (by decide) (fun _ => ?_) (fun _ => ?_)
  · refine g_iconst hC (v := (-1)) dX3_latestOrder_80 (by decide) ?_
    exact g_iret hC rfl (by decide) dX3_latestOrder_81
  · refine g_aload_n hC 0 dX3_latestOrder_11 rfl rfl ?_
    refine gf_X3_9 hC dX3_latestOrder_12 ?_
    refine g_iload_n hC 2 dX3_latestOrder_15 rfl rfl ?_
    refine g_iald hC 55 (by decide) rfl dX3_latestOrder_16 ?_
    refine g_iconst hC (v := 4) dX3_latestOrder_17 (by decide) ?_
    refine g_icmp_lt (tgt := 47) hC dX3_latestOrder_18 (by decide) (fun _ => ?_) (fun _ => ?_)
    · exact g_X3_latestOrder_b47 hC hs7 M a1 a2
    · refine g_aload_n hC 0 dX3_latestOrder_21 rfl rfl ?_
      refine gf_X3_9 hC dX3_latestOrder_22 ?_
      refine g_iload_n hC 2 dX3_latestOrder_25 rfl rfl ?_
      refine g_iald hC 55 (by decide) rfl dX3_latestOrder_26 ?_
      refine g_bipush hC (v := 10) dX3_latestOrder_27 (by decide) ?_
      refine g_icmp_gt (tgt := 47) hC dX3_latestOrder_29 (by decide) (fun _ => ?_) (fun _ => ?_)
      · exact g_X3_latestOrder_b47 hC hs7 M a1 a2
      · refine g_aload_n hC 0 dX3_latestOrder_32 rfl rfl ?_
        refine gf_X3_9 hC dX3_latestOrder_33 ?_
        refine g_iload_n hC 2 dX3_latestOrder_36 rfl rfl ?_
        refine g_iald hC 55 (by decide) rfl dX3_latestOrder_37 ?_
        refine g_bipush hC (v := 6) dX3_latestOrder_38 (by decide) ?_
        refine g_icmp_eq (tgt := 47) hC dX3_latestOrder_40 (by decide) (fun _ => ?_) (fun _ => ?_)
        · exact g_X3_latestOrder_b47 hC hs7 M a1 a2
        · refine g_iconst hC (v := 1) dX3_latestOrder_43 (by decide) ?_
          refine g_goto (tgt := 48) hC dX3_latestOrder_44 (by decide) ?_
          exact g_X3_latestOrder_b48 hC hs7 M a1 a2 1
set_option maxRecDepth 20000 in
set_option maxHeartbeats 4000000 in
theorem g_X3_latestOrder_l7 {p : Program} {l : Launch} {e : Env} {s : State} {m : MethodId} {args : Array Value} {below : List Frame} {meth : Method} {c : Code} {Z : gZ} (hC : gC p l s m args meth c cX3_latestOrder 4 RX3 (some .int) Z)   : ∀ (n : Nat) (M : gM) (a1 : Int32) (a2 : Int32), gW p l e rm_X3_latestOrder s m args below meth c 4 Z 1 0 0 M 7 [(0, .ref (zad Z 4)), (1, .int a1), (2, .int a2)] [] (f_X3_latestOrder_l7  n M a1 a2)
  | 0, _, _, _ => g_stuck
  | n + 1, M, a1, a2 => g_X3_latestOrder_lb7 hC  (g_X3_latestOrder_l7 hC  n) M a1 a2
set_option maxRecDepth 20000 in
set_option maxHeartbeats 4000000 in
theorem c_X3_latestOrder {l : Launch} (hfl : l.stackTraces = false) (Z : gZ) (M : gM) (a1 : Int32) : gMet l yX3_latestOrder cX3_latestOrder 4 (some .int) rm_X3_latestOrder 1 0 Z M [.ref (zad Z 4), .int a1] (f_X3_latestOrder M a1) := by
  refine g_enter hfl (by decide) (Nat.le_of_ble_eq_true rfl) (fun p e s m args below meth c hC => ?_)
  refine g_eq (F := f_X3_latestOrder M a1) rfl ?_
  refine g_lv0 (lv1 := [(0, .ref (zad Z 4)), (1, .int a1)]) rfl ?_
  unfold f_X3_latestOrder
  refine g_aload_n hC 0 dX3_latestOrder_0 rfl rfl ?_
  refine gf_X3_55 hC dX3_latestOrder_1 ?_
  refine g_iconst hC (v := 1) dX3_latestOrder_4 (by decide) ?_
  refine g_isub hC dX3_latestOrder_5 ?_
  refine g_bv (fun x4 => ?_)
  refine g_istore_n hC (lv1 := [(2, .int x4), (0, .ref (zad Z 4)), (1, .int a1)]) dX3_latestOrder_6 rfl (by decide) rfl ?_
  refine g_sub (lv1 := [(0, .ref (zad Z 4)), (1, .int a1), (2, .int x4)]) [1, 2, 0] rfl ?_
  exact g_X3_latestOrder_l7 hC  5000 M a1 x4

-- ===== X3_appealsSinceJudgement =====
def f_X3_appealsSinceJudgement_lb9  (self9 : gM → Int32 → Int32 → Int32 → gR) (M : gM) (a1 : Int32) (a2 : Int32) (a3 : Int32) : gR := (if a3 < 0 then (rRet a2 M) else (gI a3 160 (if (M 57 a3.toNatClampNeg) = a1 then (gI a3 160 (if (M 55 a3.toNatClampNeg) = 5 then (rRet a2 M) else (gI a3 160 (if (M 55 a3.toNatClampNeg) = 7 then (bV (a2 + 1) (fun x1 => (bV (a3 + (-1)) (fun x2 => (self9 M a1 x1 x2))))) else (bV (a3 + (-1)) (fun x3 => (self9 M a1 a2 x3))))))) else (bV (a3 + (-1)) (fun x4 => (self9 M a1 a2 x4))))))
def f_X3_appealsSinceJudgement_l9  : Nat → gM → Int32 → Int32 → Int32 → gR
  | 0, _, _, _, _ => rStuck
  | n + 1, M, a1, a2, a3 => f_X3_appealsSinceJudgement_lb9  (f_X3_appealsSinceJudgement_l9  n) M a1 a2 a3
def f_X3_appealsSinceJudgement (M : gM) (a1 : Int32) : gR := (bV ((M 4 0) - 1) (fun x5 => (f_X3_appealsSinceJudgement_l9  5000 M a1 0 x5)))
abbrev rm_X3_appealsSinceJudgement : Room := { frames := 0, cells := 0, slots := 0, locals := 0 }
set_option maxRecDepth 20000 in
set_option maxHeartbeats 4000000 in
theorem g_X3_appealsSinceJudgement_lb9 {p : Program} {l : Launch} {e : Env} {s : State} {m : MethodId} {args : Array Value} {below : List Frame} {meth : Method} {c : Code} {Z : gZ} (hC : gC p l s m args meth c cX3_appealsSinceJudgement 4 RX3 (some .int) Z)  {self9 : gM → Int32 → Int32 → Int32 → gR}  (hs9 : ∀ (M : gM) (a1 : Int32) (a2 : Int32) (a3 : Int32) , gW p l e rm_X3_appealsSinceJudgement s m args below meth c 4 Z 1 0 0 M 9 [(0, .ref (zad Z 4)), (1, .int a1), (2, .int a2), (3, .int a3)] [] (self9 M a1 a2 a3)) (M : gM) (a1 : Int32) (a2 : Int32) (a3 : Int32) : gW p l e rm_X3_appealsSinceJudgement s m args below meth c 4 Z 1 0 0 M 9 [(0, .ref (zad Z 4)), (1, .int a1), (2, .int a2), (3, .int a3)] [] (f_X3_appealsSinceJudgement_lb9  self9 M a1 a2 a3) := by
  unfold f_X3_appealsSinceJudgement_lb9
  refine g_iload_n hC 3 dX3_appealsSinceJudgement_9 rfl rfl ?_
  refine g_if_lt (tgt := 58) hC dX3_appealsSinceJudgement_10 (by decide) (fun _ => ?_) (fun _ => ?_)
  · refine g_iload_n hC 2 dX3_appealsSinceJudgement_58 rfl rfl ?_
    exact g_iret hC rfl (by decide) dX3_appealsSinceJudgement_59
  · refine g_aload_n hC 0 dX3_appealsSinceJudgement_13 rfl rfl ?_
    refine gf_X3_18 hC dX3_appealsSinceJudgement_14 ?_
    refine g_iload_n hC 3 dX3_appealsSinceJudgement_17 rfl rfl ?_
    refine g_iald hC 57 (by decide) rfl dX3_appealsSinceJudgement_18 ?_
    refine g_iload_n hC 1 dX3_appealsSinceJudgement_19 rfl rfl ?_
    refine g_icmp_eq (tgt := 26) hC dX3_appealsSinceJudgement_20 (by decide) (fun _ => ?_) (fun _ => ?_)
    · refine g_aload_n hC 0 dX3_appealsSinceJudgement_26 rfl rfl ?_
      refine gf_X3_9 hC dX3_appealsSinceJudgement_27 ?_
      refine g_iload_n hC 3 dX3_appealsSinceJudgement_30 rfl rfl ?_
      refine g_iald hC 55 (by decide) rfl dX3_appealsSinceJudgement_31 ?_
      refine g_iconst hC (v := 5) dX3_appealsSinceJudgement_32 (by decide) ?_
      refine g_icmp_ne (tgt := 38) hC dX3_appealsSinceJudgement_33 (by decide) (fun _ => ?_) (fun _ => ?_)
      · refine g_iload_n hC 2 dX3_appealsSinceJudgement_36 rfl rfl ?_
        exact g_iret hC rfl (by decide) dX3_appealsSinceJudgement_37
      · refine g_aload_n hC 0 dX3_appealsSinceJudgement_38 rfl rfl ?_
        refine gf_X3_9 hC dX3_appealsSinceJudgement_39 ?_
        refine g_iload_n hC 3 dX3_appealsSinceJudgement_42 rfl rfl ?_
        refine g_iald hC 55 (by decide) rfl dX3_appealsSinceJudgement_43 ?_
        refine g_bipush hC (v := 7) dX3_appealsSinceJudgement_44 (by decide) ?_
        refine g_icmp_ne (tgt := 52) hC dX3_appealsSinceJudgement_46 (by decide) (fun _ => ?_) (fun _ => ?_)
        · refine g_iinc hC 2 (v := 1) (fun x1 => [(2, .int x1), (0, .ref (zad Z 4)), (1, .int a1), (3, .int a3)]) dX3_appealsSinceJudgement_49 rfl (by decide) (by decide) (fun _ => rfl) (fun x1 => ?_)
          refine g_iinc hC 3 (v := (-1)) (fun x2 => [(3, .int x2), (2, .int x1), (0, .ref (zad Z 4)), (1, .int a1)]) dX3_appealsSinceJudgement_52 rfl (by decide) (by decide) (fun _ => rfl) (fun x2 => ?_)
          refine g_goto (tgt := 9) hC dX3_appealsSinceJudgement_55 (by decide) ?_
          refine g_sub (lv1 := [(0, .ref (zad Z 4)), (1, .int a1), (2, .int x1), (3, .int x2)]) [2, 3, 1, 0] rfl ?_
          exact hs9 M a1 x1 x2
        · refine g_iinc hC 3 (v := (-1)) (fun x3 => [(3, .int x3), (0, .ref (zad Z 4)), (1, .int a1), (2, .int a2)]) dX3_appealsSinceJudgement_52 rfl (by decide) (by decide) (fun _ => rfl) (fun x3 => ?_)
          refine g_goto (tgt := 9) hC dX3_appealsSinceJudgement_55 (by decide) ?_
          refine g_sub (lv1 := [(0, .ref (zad Z 4)), (1, .int a1), (2, .int a2), (3, .int x3)]) [1, 2, 3, 0] rfl ?_
          exact hs9 M a1 a2 x3
    · refine g_goto (tgt := 52) hC dX3_appealsSinceJudgement_23 (by decide) ?_
      refine g_iinc hC 3 (v := (-1)) (fun x4 => [(3, .int x4), (0, .ref (zad Z 4)), (1, .int a1), (2, .int a2)]) dX3_appealsSinceJudgement_52 rfl (by decide) (by decide) (fun _ => rfl) (fun x4 => ?_)
      refine g_goto (tgt := 9) hC dX3_appealsSinceJudgement_55 (by decide) ?_
      refine g_sub (lv1 := [(0, .ref (zad Z 4)), (1, .int a1), (2, .int a2), (3, .int x4)]) [1, 2, 3, 0] rfl ?_
      exact hs9 M a1 a2 x4
set_option maxRecDepth 20000 in
set_option maxHeartbeats 4000000 in
theorem g_X3_appealsSinceJudgement_l9 {p : Program} {l : Launch} {e : Env} {s : State} {m : MethodId} {args : Array Value} {below : List Frame} {meth : Method} {c : Code} {Z : gZ} (hC : gC p l s m args meth c cX3_appealsSinceJudgement 4 RX3 (some .int) Z)   : ∀ (n : Nat) (M : gM) (a1 : Int32) (a2 : Int32) (a3 : Int32), gW p l e rm_X3_appealsSinceJudgement s m args below meth c 4 Z 1 0 0 M 9 [(0, .ref (zad Z 4)), (1, .int a1), (2, .int a2), (3, .int a3)] [] (f_X3_appealsSinceJudgement_l9  n M a1 a2 a3)
  | 0, _, _, _, _ => g_stuck
  | n + 1, M, a1, a2, a3 => g_X3_appealsSinceJudgement_lb9 hC  (g_X3_appealsSinceJudgement_l9 hC  n) M a1 a2 a3
set_option maxRecDepth 20000 in
set_option maxHeartbeats 4000000 in
theorem c_X3_appealsSinceJudgement {l : Launch} (hfl : l.stackTraces = false) (Z : gZ) (M : gM) (a1 : Int32) : gMet l yX3_appealsSinceJudgement cX3_appealsSinceJudgement 4 (some .int) rm_X3_appealsSinceJudgement 1 0 Z M [.ref (zad Z 4), .int a1] (f_X3_appealsSinceJudgement M a1) := by
  refine g_enter hfl (by decide) (Nat.le_of_ble_eq_true rfl) (fun p e s m args below meth c hC => ?_)
  refine g_eq (F := f_X3_appealsSinceJudgement M a1) rfl ?_
  refine g_lv0 (lv1 := [(0, .ref (zad Z 4)), (1, .int a1)]) rfl ?_
  unfold f_X3_appealsSinceJudgement
  refine g_iconst hC (v := 0) dX3_appealsSinceJudgement_0 (by decide) ?_
  refine g_istore_n hC (lv1 := [(2, .int 0), (0, .ref (zad Z 4)), (1, .int a1)]) dX3_appealsSinceJudgement_1 rfl (by decide) rfl ?_
  refine g_aload_n hC 1 dX3_appealsSinceJudgement_2 rfl rfl ?_
  refine gf_X3_55 hC dX3_appealsSinceJudgement_3 ?_
  refine g_iconst hC (v := 1) dX3_appealsSinceJudgement_6 (by decide) ?_
  refine g_isub hC dX3_appealsSinceJudgement_7 ?_
  refine g_bv (fun x5 => ?_)
  refine g_istore_n hC (lv1 := [(3, .int x5), (2, .int 0), (0, .ref (zad Z 4)), (1, .int a1)]) dX3_appealsSinceJudgement_8 rfl (by decide) rfl ?_
  refine g_sub (lv1 := [(0, .ref (zad Z 4)), (1, .int a1), (2, .int 0), (3, .int x5)]) [2, 3, 1, 0] rfl ?_
  exact g_X3_appealsSinceJudgement_l9 hC  5000 M a1 0 x5

-- ===== X3_beginsAnew =====
def f_X3_beginsAnew (M : gM) (a1 : Int32) : gR := (gI a1 160 (if (M 55 a1.toNatClampNeg) = 6 then (gI a1 160 (gI (M 58 a1.toNatClampNeg) 160 (if (M 55 (M 58 a1.toNatClampNeg).toNatClampNeg) = 4 then (rRet 1 M) else (rRet 0 M)))) else (gI a1 160 (if (M 55 a1.toNatClampNeg) = 4 then (gI a1 160 (if (M 58 a1.toNatClampNeg) = 0 then (rRet 0 M) else (rRet 1 M))) else (rRet 0 M)))))
abbrev rm_X3_beginsAnew : Room := { frames := 0, cells := 0, slots := 0, locals := 0 }
set_option maxRecDepth 20000 in
set_option maxHeartbeats 4000000 in
theorem c_X3_beginsAnew {l : Launch} (hfl : l.stackTraces = false) (Z : gZ) (M : gM) (a1 : Int32) : gMet l yX3_beginsAnew cX3_beginsAnew 2 (some .boolean) rm_X3_beginsAnew 1 0 Z M [.ref (zad Z 4), .int a1] (f_X3_beginsAnew M a1) := by
  refine g_enter hfl (by decide) (Nat.le_of_ble_eq_true rfl) (fun p e s m args below meth c hC => ?_)
  refine g_eq (F := f_X3_beginsAnew M a1) rfl ?_
  refine g_lv0 (lv1 := [(0, .ref (zad Z 4)), (1, .int a1)]) rfl ?_
  unfold f_X3_beginsAnew
  refine g_aload_n hC 0 dX3_beginsAnew_0 rfl rfl ?_
  refine gf_X3_9 hC dX3_beginsAnew_1 ?_
  refine g_iload_n hC 1 dX3_beginsAnew_4 rfl rfl ?_
  refine g_iald hC 55 (by decide) rfl dX3_beginsAnew_5 ?_
  refine g_bipush hC (v := 6) dX3_beginsAnew_6 (by decide) ?_
  refine g_icmp_ne (tgt := 32) hC dX3_beginsAnew_8 (by decide) (fun _ => ?_) (fun _ => ?_)
  · refine g_aload_n hC 0 dX3_beginsAnew_11 rfl rfl ?_
    refine gf_X3_9 hC dX3_beginsAnew_12 ?_
    refine g_aload_n hC 0 dX3_beginsAnew_15 rfl rfl ?_
    refine gf_X3_21 hC dX3_beginsAnew_16 ?_
    refine g_iload_n hC 1 dX3_beginsAnew_19 rfl rfl ?_
    refine g_iald hC 58 (by decide) rfl dX3_beginsAnew_20 ?_
    refine g_iald hC 55 (by decide) rfl dX3_beginsAnew_21 ?_
    refine g_iconst hC (v := 4) dX3_beginsAnew_22 (by decide) ?_
    refine g_icmp_ne (tgt := 30) hC dX3_beginsAnew_23 (by decide) (fun _ => ?_) (fun _ => ?_)
    · refine g_iconst hC (v := 1) dX3_beginsAnew_26 (by decide) ?_
      refine g_goto (tgt := 31) hC dX3_beginsAnew_27 (by decide) ?_
      exact g_zret1 hC rfl (by decide) dX3_beginsAnew_31
    · refine g_iconst hC (v := 0) dX3_beginsAnew_30 (by decide) ?_
      exact g_zret0 hC rfl (by decide) dX3_beginsAnew_31
  · refine g_aload_n hC 0 dX3_beginsAnew_32 rfl rfl ?_
    refine gf_X3_9 hC dX3_beginsAnew_33 ?_
    refine g_iload_n hC 1 dX3_beginsAnew_36 rfl rfl ?_
    refine g_iald hC 55 (by decide) rfl dX3_beginsAnew_37 ?_
    refine g_iconst hC (v := 4) dX3_beginsAnew_38 (by decide) ?_
    refine g_icmp_ne (tgt := 55) hC dX3_beginsAnew_39 (by decide) (fun _ => ?_) (fun _ => ?_)
    · refine g_aload_n hC 0 dX3_beginsAnew_42 rfl rfl ?_
      refine gf_X3_21 hC dX3_beginsAnew_43 ?_
      refine g_iload_n hC 1 dX3_beginsAnew_46 rfl rfl ?_
      refine g_iald hC 58 (by decide) rfl dX3_beginsAnew_47 ?_
      refine g_if_eq (tgt := 55) hC dX3_beginsAnew_48 (by decide) (fun _ => ?_) (fun _ => ?_)
      · refine g_iconst hC (v := 0) dX3_beginsAnew_55 (by decide) ?_
        exact g_zret0 hC rfl (by decide) dX3_beginsAnew_56
      · refine g_iconst hC (v := 1) dX3_beginsAnew_51 (by decide) ?_
        refine g_goto (tgt := 56) hC dX3_beginsAnew_52 (by decide) ?_
        exact g_zret1 hC rfl (by decide) dX3_beginsAnew_56
    · refine g_iconst hC (v := 0) dX3_beginsAnew_55 (by decide) ?_
      exact g_zret0 hC rfl (by decide) dX3_beginsAnew_56

-- ===== X3_answerStart =====
def f_X3_answerStart_lb7  (self7 : gM → Int32 → Int32 → gR) (M : gM) (a1 : Int32) (a2 : Int32) : gR := (if a2 < 0 then (rRet (-1) M) else (rb (f_X3_isOfClaim M a2 a1) (fun x2 M1 => (if x2 = 0 then (bV (a2 + (-1)) (fun x3 => (self7 M1 a1 x3))) else (gI a2 160 (if (M1 55 a2.toNatClampNeg) = 0 then (rRet a2 M1) else (rb (f_X3_beginsAnew M1 a2) (fun x5 M4 => (if x5 = 0 then (bV (a2 + (-1)) (fun x6 => (self7 M4 a1 x6))) else (rRet a2 M4))))))))))
def f_X3_answerStart_l7  : Nat → gM → Int32 → Int32 → gR
  | 0, _, _, _ => rStuck
  | n + 1, M, a1, a2 => f_X3_answerStart_lb7  (f_X3_answerStart_l7  n) M a1 a2
def f_X3_answerStart (M : gM) (a1 : Int32) : gR := (bV ((M 4 0) - 1) (fun x7 => (f_X3_answerStart_l7  5000 M a1 x7)))
abbrev rm_X3_answerStart : Room := { frames := 2, cells := 0, slots := 0, locals := 43 }
set_option maxRecDepth 20000 in
set_option maxHeartbeats 4000000 in
theorem g_X3_answerStart_lb7 {p : Program} {l : Launch} {e : Env} {s : State} {m : MethodId} {args : Array Value} {below : List Frame} {meth : Method} {c : Code} {Z : gZ} (hC : gC p l s m args meth c cX3_answerStart 3 RX3 (some .int) Z)  {self7 : gM → Int32 → Int32 → gR}  (hs7 : ∀ (M : gM) (a1 : Int32) (a2 : Int32) , gW p l e rm_X3_answerStart s m args below meth c 3 Z 1 0 0 M 7 [(0, .ref (zad Z 4)), (1, .int a1), (2, .int a2)] [] (self7 M a1 a2)) (M : gM) (a1 : Int32) (a2 : Int32) : gW p l e rm_X3_answerStart s m args below meth c 3 Z 1 0 0 M 7 [(0, .ref (zad Z 4)), (1, .int a1), (2, .int a2)] [] (f_X3_answerStart_lb7  self7 M a1 a2) := by
  unfold f_X3_answerStart_lb7
  refine g_iload_n hC 2 dX3_answerStart_7 rfl rfl ?_
  refine g_if_lt (tgt := 45) hC dX3_answerStart_8 (by decide) (fun _ => ?_) (fun _ => ?_)
  · refine g_iconst hC (v := (-1)) dX3_answerStart_45 (by decide) ?_
    exact g_iret hC rfl (by decide) dX3_answerStart_46
  · refine g_aload_n hC 0 dX3_answerStart_11 rfl rfl ?_
    refine g_iload_n hC 2 dX3_answerStart_12 rfl rfl ?_
    refine g_iload_n hC 1 dX3_answerStart_13 rfl rfl ?_
    refine g_callVi (n := 2) hC [.int a2, .int a1] 4 3 (by decide) rfl rfl (fun hne => c_X3_isOfClaim hC.2.2.2.2.2.2.2.1 Z M a2 a1 hne) lk_X3_63 mw_X3_isOfClaim.1 mw_X3_isOfClaim.2.1 mw_X3_isOfClaim.2.2.1 mw_X3_isOfClaim.2.2.2 ⟨rfl, by decide, by decide, by decide +kernel⟩ rfl rfl ⟨by decide, by decide⟩ rfl rfl (Nat.le_of_ble_eq_true rfl) (by decide) (by decide) (by decide) dX3_answerStart_14 (fun x2 M1 => ?_)
    refine g_if_eq (tgt := 39) hC dX3_answerStart_17 (by decide) (fun _ => ?_) (fun _ => ?_)
    · refine g_iinc hC 2 (v := (-1)) (fun x3 => [(2, .int x3), (0, .ref (zad Z 4)), (1, .int a1)]) dX3_answerStart_39 rfl (by decide) (by decide) (fun _ => rfl) (fun x3 => ?_)
      refine g_goto (tgt := 7) hC dX3_answerStart_42 (by decide) ?_
      refine g_sub (lv1 := [(0, .ref (zad Z 4)), (1, .int a1), (2, .int x3)]) [1, 2, 0] rfl ?_
      exact hs7 M1 a1 x3
    · refine g_aload_n hC 0 dX3_answerStart_20 rfl rfl ?_
      refine gf_X3_9 hC dX3_answerStart_21 ?_
      refine g_iload_n hC 2 dX3_answerStart_24 rfl rfl ?_
      refine g_iald hC 55 (by decide) rfl dX3_answerStart_25 ?_
      refine g_if_eq (tgt := 37) hC dX3_answerStart_26 (by decide) (fun _ => ?_) (fun _ => ?_)
      · refine g_iload_n hC 2 dX3_answerStart_37 rfl rfl ?_
        exact g_iret hC rfl (by decide) dX3_answerStart_38
      · refine g_aload_n hC 0 dX3_answerStart_29 rfl rfl ?_
        refine g_iload_n hC 2 dX3_answerStart_30 rfl rfl ?_
        refine g_callVi (n := 1) hC [.int a2] 4 3 (by decide) rfl rfl (fun hne => c_X3_beginsAnew hC.2.2.2.2.2.2.2.1 Z M1 a2 hne) lk_X3_67 mw_X3_beginsAnew.1 mw_X3_beginsAnew.2.1 mw_X3_beginsAnew.2.2.1 mw_X3_beginsAnew.2.2.2 ⟨rfl, by decide, by decide, by decide +kernel⟩ rfl rfl ⟨by decide, by decide⟩ rfl rfl (Nat.le_of_ble_eq_true rfl) (by decide) (by decide) (by decide) dX3_answerStart_31 (fun x5 M4 => ?_)
        refine g_if_eq (tgt := 39) hC dX3_answerStart_34 (by decide) (fun _ => ?_) (fun _ => ?_)
        · refine g_iinc hC 2 (v := (-1)) (fun x6 => [(2, .int x6), (0, .ref (zad Z 4)), (1, .int a1)]) dX3_answerStart_39 rfl (by decide) (by decide) (fun _ => rfl) (fun x6 => ?_)
          refine g_goto (tgt := 7) hC dX3_answerStart_42 (by decide) ?_
          refine g_sub (lv1 := [(0, .ref (zad Z 4)), (1, .int a1), (2, .int x6)]) [1, 2, 0] rfl ?_
          exact hs7 M4 a1 x6
        · refine g_iload_n hC 2 dX3_answerStart_37 rfl rfl ?_
          exact g_iret hC rfl (by decide) dX3_answerStart_38
set_option maxRecDepth 20000 in
set_option maxHeartbeats 4000000 in
theorem g_X3_answerStart_l7 {p : Program} {l : Launch} {e : Env} {s : State} {m : MethodId} {args : Array Value} {below : List Frame} {meth : Method} {c : Code} {Z : gZ} (hC : gC p l s m args meth c cX3_answerStart 3 RX3 (some .int) Z)   : ∀ (n : Nat) (M : gM) (a1 : Int32) (a2 : Int32), gW p l e rm_X3_answerStart s m args below meth c 3 Z 1 0 0 M 7 [(0, .ref (zad Z 4)), (1, .int a1), (2, .int a2)] [] (f_X3_answerStart_l7  n M a1 a2)
  | 0, _, _, _ => g_stuck
  | n + 1, M, a1, a2 => g_X3_answerStart_lb7 hC  (g_X3_answerStart_l7 hC  n) M a1 a2
set_option maxRecDepth 20000 in
set_option maxHeartbeats 4000000 in
theorem c_X3_answerStart {l : Launch} (hfl : l.stackTraces = false) (Z : gZ) (M : gM) (a1 : Int32) : gMet l yX3_answerStart cX3_answerStart 3 (some .int) rm_X3_answerStart 1 0 Z M [.ref (zad Z 4), .int a1] (f_X3_answerStart M a1) := by
  refine g_enter hfl (by decide) (Nat.le_of_ble_eq_true rfl) (fun p e s m args below meth c hC => ?_)
  refine g_eq (F := f_X3_answerStart M a1) rfl ?_
  refine g_lv0 (lv1 := [(0, .ref (zad Z 4)), (1, .int a1)]) rfl ?_
  unfold f_X3_answerStart
  refine g_aload_n hC 0 dX3_answerStart_0 rfl rfl ?_
  refine gf_X3_55 hC dX3_answerStart_1 ?_
  refine g_iconst hC (v := 1) dX3_answerStart_4 (by decide) ?_
  refine g_isub hC dX3_answerStart_5 ?_
  refine g_bv (fun x7 => ?_)
  refine g_istore_n hC (lv1 := [(2, .int x7), (0, .ref (zad Z 4)), (1, .int a1)]) dX3_answerStart_6 rfl (by decide) rfl ?_
  refine g_sub (lv1 := [(0, .ref (zad Z 4)), (1, .int a1), (2, .int x7)]) [1, 2, 0] rfl ?_
  exact g_X3_answerStart_l7 hC  5000 M a1 x7

-- ===== X3_appealStart =====
def f_X3_appealStart (M : gM) (a1 : Int32) : gR := (rb (f_X3_latest M 5 a1) (fun x2 M1 => (rb (f_X3_latest M1 8 a1) (fun x4 M3 => (rRet (if x2 < x4 then x4 else x2) M3)))))
abbrev rm_X3_appealStart : Room := { frames := 1, cells := 0, slots := 0, locals := 23 }
set_option maxRecDepth 20000 in
set_option maxHeartbeats 4000000 in
theorem c_X3_appealStart {l : Launch} (hfl : l.stackTraces = false) (Z : gZ) (M : gM) (a1 : Int32) : gMet l yX3_appealStart cX3_appealStart 2 (some .int) rm_X3_appealStart 1 0 Z M [.ref (zad Z 4), .int a1] (f_X3_appealStart M a1) := by
  refine g_enter hfl (by decide) (Nat.le_of_ble_eq_true rfl) (fun p e s m args below meth c hC => ?_)
  refine g_eq (F := f_X3_appealStart M a1) rfl ?_
  refine g_lv0 (lv1 := [(0, .ref (zad Z 4)), (1, .int a1)]) rfl ?_
  unfold f_X3_appealStart
  refine g_aload_n hC 0 dX3_appealStart_0 rfl rfl ?_
  refine g_iconst hC (v := 5) dX3_appealStart_1 (by decide) ?_
  refine g_iload_n hC 1 dX3_appealStart_2 rfl rfl ?_
  refine g_callVi (n := 2) hC [.int 5, .int a1] 4 3 (by decide) rfl rfl (fun hne => c_X3_latest hC.2.2.2.2.2.2.2.1 Z M 5 a1 hne) lk_X3_70 mw_X3_latest.1 mw_X3_latest.2.1 mw_X3_latest.2.2.1 mw_X3_latest.2.2.2 ⟨rfl, by decide, by decide, by decide +kernel⟩ rfl rfl ⟨by decide, by decide⟩ rfl rfl (Nat.le_of_ble_eq_true rfl) (by decide) (by decide) (by decide) dX3_appealStart_3 (fun x2 M1 => ?_)
  refine g_aload_n hC 0 dX3_appealStart_6 rfl rfl ?_
  refine g_bipush hC (v := 8) dX3_appealStart_7 (by decide) ?_
  refine g_iload_n hC 1 dX3_appealStart_9 rfl rfl ?_
  refine g_callVi (n := 2) hC [.int 8, .int a1] 4 3 (by decide) rfl rfl (fun hne => c_X3_latest hC.2.2.2.2.2.2.2.1 Z M1 8 a1 hne) lk_X3_70 mw_X3_latest.1 mw_X3_latest.2.1 mw_X3_latest.2.2.1 mw_X3_latest.2.2.2 ⟨rfl, by decide, by decide, by decide +kernel⟩ rfl rfl ⟨by decide, by decide⟩ rfl rfl (Nat.le_of_ble_eq_true rfl) (by decide) (by decide) (by decide) dX3_appealStart_10 (fun x4 M3 => ?_)
  refine g_mmax hC mx_1 mx_2 mx_3 mx_4 (by decide) (by decide) (by decide) (by decide) (by decide) dX3_appealStart_13 ?_
  exact g_iret hC rfl (by decide) dX3_appealStart_16

-- ===== X4_add =====
def f_X4_add (M : gM) (a1 : Int32) : gR := (bV (M 7 0) (fun x1 => (gI x1 12 (bM (gset M 84 x1.toNatClampNeg a1) (fun M2 => (bM (gset M2 7 0 ((M2 7 0) + 1)) (fun M3 => (rRet x1 M3))))))))
abbrev rm_X4_add : Room := { frames := 0, cells := 0, slots := 0, locals := 0 }
set_option maxRecDepth 20000 in
set_option maxHeartbeats 4000000 in
theorem c_X4_add {l : Launch} (hfl : l.stackTraces = false) (Z : gZ) (M : gM) (a1 : Int32) : gMet l yX4_add cX4_add 3 (some .int) rm_X4_add 1 0 Z M [.ref (zad Z 7), .int a1] (f_X4_add M a1) := by
  refine g_enter hfl (by decide) (Nat.le_of_ble_eq_true rfl) (fun p e s m args below meth c hC => ?_)
  refine g_eq (F := f_X4_add M a1) rfl ?_
  refine g_lv0 (lv1 := [(0, .ref (zad Z 7)), (1, .int a1)]) rfl ?_
  unfold f_X4_add
  refine g_aload_n hC 0 dX4_add_0 rfl rfl ?_
  refine gf_X4_24 hC dX4_add_1 ?_
  refine g_bv (fun x1 => ?_)
  refine g_istore_n hC (lv1 := [(2, .int x1), (0, .ref (zad Z 7)), (1, .int a1)]) dX4_add_4 rfl (by decide) rfl ?_
  refine g_aload_n hC 1 dX4_add_5 rfl rfl ?_
  refine gf_X4_9 hC dX4_add_6 ?_
  refine g_iload_n hC 0 dX4_add_9 rfl rfl ?_
  refine g_iload_n hC 2 dX4_add_10 rfl rfl ?_
  refine g_iast hC 84 (by decide) rfl dX4_add_11 (fun M2 => ?_)
  refine g_aload_n hC 1 dX4_add_12 rfl rfl ?_
  refine g_dup hC dX4_add_13 rfl ?_
  refine gf_X4_24 hC dX4_add_14 ?_
  refine g_iconst hC (v := 1) dX4_add_17 (by decide) ?_
  refine g_iadd hC dX4_add_18 ?_
  refine gp_X4_24 hC dX4_add_19 (fun M3 => ?_)
  refine g_iload_n hC 0 dX4_add_22 rfl rfl ?_
  exact g_iret hC rfl (by decide) dX4_add_23
