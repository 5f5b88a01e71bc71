-- ===== X4_isOpposed =====
def f_X4_isOpposed_lb2  (self2 : gM → Int32 → Int32 → gR) (M : gM) (a1 : Int32) (a2 : Int32) : gR := (if 2 ≤ a2 then (rRet 0 M) else (gI a1 12 (gI a2 2 (bV (M 86 (a1.toNatClampNeg * 2 + a2.toNatClampNeg)) (fun x2 => (if x2 = 1 then (rRet 1 M) else (if x2 = 2 then (rRet 1 M) else (bV (a2 + 1) (fun x3 => (self2 M a1 x3))))))))))
def f_X4_isOpposed_l2  : Nat → gM → Int32 → Int32 → gR
  | 0, _, _, _ => rStuck
  | n + 1, M, a1, a2 => f_X4_isOpposed_lb2  (f_X4_isOpposed_l2  n) M a1 a2
def f_X4_isOpposed (M : gM) (a1 : Int32) : gR := (f_X4_isOpposed_l2  5000 M a1 0)
abbrev rm_X4_isOpposed : Room := { frames := 0, cells := 0, slots := 0, locals := 0 }
set_option maxRecDepth 20000 in
set_option maxHeartbeats 4000000 in
theorem g_X4_isOpposed_lb2 {p : Program} {l : Launch} {e : Env} {s : State} {m : MethodId} {args : Array Value} {below : List Frame} {meth : Method} {c : Code} {Z : gZ} (hC : gC p l s m args meth c cX4_isOpposed 4 RX4 (some .boolean) Z)  {self2 : gM → Int32 → Int32 → gR}  (hs2 : ∀ (M : gM) (a1 : Int32) (a2 : Int32) , gW p l e rm_X4_isOpposed s m args below meth c 4 Z 1 0 0 M 2 [(0, .ref (zad Z 7)), (1, .int a1), (2, .int a2)] [] (self2 M a1 a2)) (M : gM) (a1 : Int32) (a2 : Int32) : gW p l e rm_X4_isOpposed s m args below meth c 4 Z 1 0 0 M 2 [(0, .ref (zad Z 7)), (1, .int a1), (2, .int a2)] [] (f_X4_isOpposed_lb2  self2 M a1 a2) := by
  unfold f_X4_isOpposed_lb2
  refine g_iload_n hC 2 dX4_isOpposed_2 rfl rfl ?_
  refine g_iconst hC (v := 2) dX4_isOpposed_3 (by decide) ?_
  refine g_icmp_ge (tgt := 34) hC dX4_isOpposed_4 (by decide) (fun _ => ?_) (fun _ => ?_)
  · refine g_iconst hC (v := 0) dX4_isOpposed_34 (by decide) ?_
    exact g_zret0 hC rfl (by decide) dX4_isOpposed_35
  · refine g_aload_n hC 0 dX4_isOpposed_7 rfl rfl ?_
    refine gf_X4_21 hC dX4_isOpposed_8 ?_
    refine g_iload_n hC 1 dX4_isOpposed_11 rfl rfl ?_
    refine g_aald hC 86 (by decide) rfl dX4_isOpposed_12 (fun hr1 => ?_)
    refine g_iload_n hC 2 dX4_isOpposed_13 rfl rfl ?_
    refine g_raldv hC 87 86 12 2 grid_86 hr1 dX4_isOpposed_14 ?_
    refine g_bv (fun x2 => ?_)
    refine g_istore_n hC (lv1 := [(3, .int x2), (0, .ref (zad Z 7)), (1, .int a1), (2, .int a2)]) dX4_isOpposed_15 rfl (by decide) rfl ?_
    refine g_iload_n hC 0 dX4_isOpposed_16 rfl rfl ?_
    refine g_iconst hC (v := 1) dX4_isOpposed_17 (by decide) ?_
    refine g_icmp_eq (tgt := 26) hC dX4_isOpposed_18 (by decide) (fun _ => ?_) (fun _ => ?_)
    · refine g_iconst hC (v := 1) dX4_isOpposed_26 (by decide) ?_
      exact g_zret1 hC rfl (by decide) dX4_isOpposed_27
    · refine g_iload_n hC 0 dX4_isOpposed_21 rfl rfl ?_
      refine g_iconst hC (v := 2) dX4_isOpposed_22 (by decide) ?_
      refine g_icmp_ne (tgt := 28) hC dX4_isOpposed_23 (by decide) (fun _ => ?_) (fun _ => ?_)
      · refine g_iconst hC (v := 1) dX4_isOpposed_26 (by decide) ?_
        exact g_zret1 hC rfl (by decide) dX4_isOpposed_27
      · refine g_iinc hC 3 (v := 1) (fun x3 => [(2, .int x3), (3, .int x2), (0, .ref (zad Z 7)), (1, .int a1)]) dX4_isOpposed_28 rfl (by decide) (by decide) (fun _ => rfl) (fun x3 => ?_)
        refine g_goto (tgt := 2) hC dX4_isOpposed_31 (by decide) ?_
        refine g_sub (lv1 := [(0, .ref (zad Z 7)), (1, .int a1), (2, .int x3)]) [2, 3, 0] rfl ?_
        exact hs2 M a1 x3
set_option maxRecDepth 20000 in
set_option maxHeartbeats 4000000 in
theorem g_X4_isOpposed_l2 {p : Program} {l : Launch} {e : Env} {s : State} {m : MethodId} {args : Array Value} {below : List Frame} {meth : Method} {c : Code} {Z : gZ} (hC : gC p l s m args meth c cX4_isOpposed 4 RX4 (some .boolean) Z)   : ∀ (n : Nat) (M : gM) (a1 : Int32) (a2 : Int32), gW p l e rm_X4_isOpposed s m args below meth c 4 Z 1 0 0 M 2 [(0, .ref (zad Z 7)), (1, .int a1), (2, .int a2)] [] (f_X4_isOpposed_l2  n M a1 a2)
  | 0, _, _, _ => g_stuck
  | n + 1, M, a1, a2 => g_X4_isOpposed_lb2 hC  (g_X4_isOpposed_l2 hC  n) M a1 a2
set_option maxRecDepth 20000 in
set_option maxHeartbeats 4000000 in
theorem c_X4_isOpposed {l : Launch} (hfl : l.stackTraces = false) (Z : gZ) (M : gM) (a1 : Int32) : gMet l yX4_isOpposed cX4_isOpposed 4 (some .boolean) rm_X4_isOpposed 1 0 Z M [.ref (zad Z 7), .int a1] (f_X4_isOpposed M a1) := by
  refine g_enter hfl (by decide) (Nat.le_of_ble_eq_true rfl) (fun p e s m args below meth c hC => ?_)
  refine g_eq (F := f_X4_isOpposed M a1) rfl ?_
  refine g_lv0 (lv1 := [(0, .ref (zad Z 7)), (1, .int a1)]) rfl ?_
  unfold f_X4_isOpposed
  refine g_iconst hC (v := 0) dX4_isOpposed_0 (by decide) ?_
  refine g_istore_n hC (lv1 := [(2, .int 0), (0, .ref (zad Z 7)), (1, .int a1)]) dX4_isOpposed_1 rfl (by decide) rfl ?_
  refine g_sub (lv1 := [(0, .ref (zad Z 7)), (1, .int a1), (2, .int 0)]) [1, 2, 0] rfl ?_
  exact g_X4_isOpposed_l2 hC  5000 M a1 0

-- ===== X5_add =====
def f_X5_add (M : gM) (a1 : Int32) (a2 : Int32) (a3 : Int32) : gR := (bV (M 5 0) (fun x1 => (gI x1 40 (bM (gset M 69 x1.toNatClampNeg a1) (fun M2 => (gI x1 40 (bM (gset M2 70 x1.toNatClampNeg a2) (fun M3 => (gI x1 40 (bM (gset M3 71 x1.toNatClampNeg a3) (fun M4 => (bM (gset M4 5 0 ((M4 5 0) + 1)) (fun M5 => (rRet x1 M5))))))))))))))
abbrev rm_X5_add : Room := { frames := 0, cells := 0, slots := 0, locals := 0 }
set_option maxRecDepth 20000 in
set_option maxHeartbeats 4000000 in
theorem c_X5_add {l : Launch} (hfl : l.stackTraces = false) (Z : gZ) (M : gM) (a1 : Int32) (a2 : Int32) (a3 : Int32) : gMet l yX5_add cX5_add 5 (some .int) rm_X5_add 1 0 Z M [.ref (zad Z 5), .int a1, .int a2, .int a3] (f_X5_add M a1 a2 a3) := by
  refine g_enter hfl (by decide) (Nat.le_of_ble_eq_true rfl) (fun p e s m args below meth c hC => ?_)
  refine g_eq (F := f_X5_add M a1 a2 a3) rfl ?_
  refine g_lv0 (lv1 := [(0, .ref (zad Z 5)), (1, .int a1), (2, .int a2), (3, .int a3)]) rfl ?_
  unfold f_X5_add
  refine g_aload_n hC 0 dX5_add_0 rfl rfl ?_
  refine gf_X5_21 hC dX5_add_1 ?_
  refine g_bv (fun x1 => ?_)
  refine g_istore hC (lv1 := [(4, .int x1), (0, .ref (zad Z 5)), (1, .int a1), (2, .int a2), (3, .int a3)]) dX5_add_4 (by decide) rfl ?_
  refine g_aload_n hC 1 dX5_add_6 rfl rfl ?_
  refine gf_X5_9 hC dX5_add_7 ?_
  refine g_iload hC 0 dX5_add_10 rfl ?_
  refine g_iload_n hC 2 dX5_add_12 rfl rfl ?_
  refine g_iast hC 69 (by decide) rfl dX5_add_13 (fun M2 => ?_)
  refine g_aload_n hC 1 dX5_add_14 rfl rfl ?_
  refine gf_X5_15 hC dX5_add_15 ?_
  refine g_iload hC 0 dX5_add_18 rfl ?_
  refine g_iload_n hC 3 dX5_add_20 rfl rfl ?_
  refine g_iast hC 70 (by decide) rfl dX5_add_21 (fun M3 => ?_)
  refine g_aload_n hC 1 dX5_add_22 rfl rfl ?_
  refine gf_X5_18 hC dX5_add_23 ?_
  refine g_iload hC 0 dX5_add_26 rfl ?_
  refine g_iload_n hC 4 dX5_add_28 rfl rfl ?_
  refine g_iast hC 71 (by decide) rfl dX5_add_29 (fun M4 => ?_)
  refine g_aload_n hC 1 dX5_add_30 rfl rfl ?_
  refine g_dup hC dX5_add_31 rfl ?_
  refine gf_X5_21 hC dX5_add_32 ?_
  refine g_iconst hC (v := 1) dX5_add_35 (by decide) ?_
  refine g_iadd hC dX5_add_36 ?_
  refine gp_X5_21 hC dX5_add_37 (fun M5 => ?_)
  refine g_iload hC 0 dX5_add_40 rfl ?_
  exact g_iret hC rfl (by decide) dX5_add_42

-- ===== X6_isDone =====
def f_X6_isDone (M : gM) (a1 : Int32) : gR := (gI a1 8 (if (M 72 a1.toNatClampNeg) < 6 then (rRet 0 M) else (rRet 1 M)))
abbrev rm_X6_isDone : Room := { frames := 0, cells := 0, slots := 0, locals := 0 }
set_option maxRecDepth 20000 in
set_option maxHeartbeats 4000000 in
theorem c_X6_isDone {l : Launch} (hfl : l.stackTraces = false) (Z : gZ) (M : gM) (a1 : Int32) : gMet l yX6_isDone cX6_isDone 2 (some .boolean) rm_X6_isDone 1 0 Z M [.ref (zad Z 6), .int a1] (f_X6_isDone M a1) := by
  refine g_enter hfl (by decide) (Nat.le_of_ble_eq_true rfl) (fun p e s m args below meth c hC => ?_)
  refine g_eq (F := f_X6_isDone M a1) rfl ?_
  refine g_lv0 (lv1 := [(0, .ref (zad Z 6)), (1, .int a1)]) rfl ?_
  unfold f_X6_isDone
  refine g_aload_n hC 0 dX6_isDone_0 rfl rfl ?_
  refine gf_X6_9 hC dX6_isDone_1 ?_
  refine g_iload_n hC 1 dX6_isDone_4 rfl rfl ?_
  refine g_iald hC 72 (by decide) rfl dX6_isDone_5 ?_
  refine g_bipush hC (v := 6) dX6_isDone_6 (by decide) ?_
  refine g_icmp_lt (tgt := 15) hC dX6_isDone_8 (by decide) (fun _ => ?_) (fun _ => ?_)
  · refine g_iconst hC (v := 0) dX6_isDone_15 (by decide) ?_
    exact g_zret0 hC rfl (by decide) dX6_isDone_16
  · refine g_iconst hC (v := 1) dX6_isDone_11 (by decide) ?_
    refine g_goto (tgt := 16) hC dX6_isDone_12 (by decide) ?_
    exact g_zret1 hC rfl (by decide) dX6_isDone_16

-- ===== X6_turn =====
def f_X6_turn (M : gM) (a1 : Int32) : gR := (gI a1 8 (gNz 2 (rRet ((M 72 a1.toNatClampNeg) - (M 72 a1.toNatClampNeg) / 2 * 2) M)))
abbrev rm_X6_turn : Room := { frames := 0, cells := 0, slots := 0, locals := 0 }
set_option maxRecDepth 20000 in
set_option maxHeartbeats 4000000 in
theorem c_X6_turn {l : Launch} (hfl : l.stackTraces = false) (Z : gZ) (M : gM) (a1 : Int32) : gMet l yX6_turn cX6_turn 2 (some .int) rm_X6_turn 1 0 Z M [.ref (zad Z 6), .int a1] (f_X6_turn M a1) := by
  refine g_enter hfl (by decide) (Nat.le_of_ble_eq_true rfl) (fun p e s m args below meth c hC => ?_)
  refine g_eq (F := f_X6_turn M a1) rfl ?_
  refine g_lv0 (lv1 := [(0, .ref (zad Z 6)), (1, .int a1)]) rfl ?_
  unfold f_X6_turn
  refine g_aload_n hC 0 dX6_turn_0 rfl rfl ?_
  refine gf_X6_9 hC dX6_turn_1 ?_
  refine g_iload_n hC 1 dX6_turn_4 rfl rfl ?_
  refine g_iald hC 72 (by decide) rfl dX6_turn_5 ?_
  refine g_iconst hC (v := 2) dX6_turn_6 (by decide) ?_
  refine g_irem hC dX6_turn_7 ?_
  exact g_iret hC rfl (by decide) dX6_turn_8

-- ===== X6_isStruck =====
def f_X6_isStruck (M : gM) (a1 : Int32) (a2 : Int32) : gR := (gI a1 8 (if (((M 73 a1.toNatClampNeg) >>> (a2 &&& 31)) &&& 1) = 1 then (rRet 1 M) else (rRet 0 M)))
abbrev rm_X6_isStruck : Room := { frames := 0, cells := 0, slots := 0, locals := 0 }
set_option maxRecDepth 20000 in
set_option maxHeartbeats 4000000 in
theorem c_X6_isStruck {l : Launch} (hfl : l.stackTraces = false) (Z : gZ) (M : gM) (a1 : Int32) (a2 : Int32) : gMet l yX6_isStruck cX6_isStruck 3 (some .boolean) rm_X6_isStruck 1 0 Z M [.ref (zad Z 6), .int a1, .int a2] (f_X6_isStruck M a1 a2) := by
  refine g_enter hfl (by decide) (Nat.le_of_ble_eq_true rfl) (fun p e s m args below meth c hC => ?_)
  refine g_eq (F := f_X6_isStruck M a1 a2) rfl ?_
  refine g_lv0 (lv1 := [(0, .ref (zad Z 6)), (1, .int a1), (2, .int a2)]) rfl ?_
  unfold f_X6_isStruck
  refine g_aload_n hC 0 dX6_isStruck_0 rfl rfl ?_
  refine gf_X6_15 hC dX6_isStruck_1 ?_
  refine g_iload_n hC 1 dX6_isStruck_4 rfl rfl ?_
  refine g_iald hC 73 (by decide) rfl dX6_isStruck_5 ?_
  refine g_iload_n hC 2 dX6_isStruck_6 rfl rfl ?_
  refine g_ishr hC dX6_isStruck_7 ?_
  refine g_iconst hC (v := 1) dX6_isStruck_8 (by decide) ?_
  refine g_iand hC dX6_isStruck_9 ?_
  refine g_iconst hC (v := 1) dX6_isStruck_10 (by decide) ?_
  refine g_icmp_ne (tgt := 18) hC dX6_isStruck_11 (by decide) (fun _ => ?_) (fun _ => ?_)
  · refine g_iconst hC (v := 1) dX6_isStruck_14 (by decide) ?_
    refine g_goto (tgt := 19) hC dX6_isStruck_15 (by decide) ?_
    exact g_zret1 hC rfl (by decide) dX6_isStruck_19
  · refine g_iconst hC (v := 0) dX6_isStruck_18 (by decide) ?_
    exact g_zret0 hC rfl (by decide) dX6_isStruck_19

-- ===== X6_fillPlaces =====
def f_X6_fillPlaces_lb4  (self4 : gM → Int32 → Int32 → Int32 → gR) (M : gM) (a1 : Int32) (a2 : Int32) (a3 : Int32) : gR := (if 14 ≤ a3 then (rRet 0 M) else (if 8 ≤ a2 then (rRet 0 M) else (rb (f_X6_isStruck M a1 a3) (fun x2 M1 => (if x2 = 0 then (gI a1 8 (gI a2 8 (bM (gset M1 74 (a1.toNatClampNeg * 8 + a2.toNatClampNeg) a3) (fun M4 => (bV (a2 + 1) (fun x5 => (bV (a3 + 1) (fun x6 => (self4 M4 a1 x5 x6))))))))) else (bV (a3 + 1) (fun x7 => (self4 M1 a1 a2 x7))))))))
def f_X6_fillPlaces_l4  : Nat → gM → Int32 → Int32 → Int32 → gR
  | 0, _, _, _, _ => rStuck
  | n + 1, M, a1, a2, a3 => f_X6_fillPlaces_lb4  (f_X6_fillPlaces_l4  n) M a1 a2 a3
def f_X6_fillPlaces (M : gM) (a1 : Int32) : gR := (f_X6_fillPlaces_l4  5000 M a1 0 0)
abbrev rm_X6_fillPlaces : Room := { frames := 1, cells := 0, slots := 0, locals := 22 }
set_option maxRecDepth 20000 in
set_option maxHeartbeats 4000000 in
theorem g_X6_fillPlaces_lb4 {p : Program} {l : Launch} {e : Env} {s : State} {m : MethodId} {args : Array Value} {below : List Frame} {meth : Method} {c : Code} {Z : gZ} (hC : gC p l s m args meth c cX6_fillPlaces 4 RX6 none Z)  {self4 : gM → Int32 → Int32 → Int32 → gR}  (hs4 : ∀ (M : gM) (a1 : Int32) (a2 : Int32) (a3 : Int32) , gW p l e rm_X6_fillPlaces s m args below meth c 4 Z 0 0 0 M 4 [(0, .ref (zad Z 6)), (1, .int a1), (2, .int a2), (3, .int a3)] [] (self4 M a1 a2 a3)) (M : gM) (a1 : Int32) (a2 : Int32) (a3 : Int32) : gW p l e rm_X6_fillPlaces s m args below meth c 4 Z 0 0 0 M 4 [(0, .ref (zad Z 6)), (1, .int a1), (2, .int a2), (3, .int a3)] [] (f_X6_fillPlaces_lb4  self4 M a1 a2 a3) := by
  unfold f_X6_fillPlaces_lb4
  refine g_iload_n hC 3 dX6_fillPlaces_4 rfl rfl ?_
  refine g_bipush hC (v := 14) dX6_fillPlaces_5 (by decide) ?_
  refine g_icmp_ge (tgt := 43) hC dX6_fillPlaces_7 (by decide) (fun _ => ?_) (fun _ => ?_)
  · exact g_vret hC rfl (by decide) dX6_fillPlaces_43
  · refine g_iload_n hC 2 dX6_fillPlaces_10 rfl rfl ?_
    refine g_bipush hC (v := 8) dX6_fillPlaces_11 (by decide) ?_
    refine g_icmp_ge (tgt := 43) hC dX6_fillPlaces_13 (by decide) (fun _ => ?_) (fun _ => ?_)
    · exact g_vret hC rfl (by decide) dX6_fillPlaces_43
    · refine g_aload_n hC 0 dX6_fillPlaces_16 rfl rfl ?_
      refine g_iload_n hC 1 dX6_fillPlaces_17 rfl rfl ?_
      refine g_iload_n hC 3 dX6_fillPlaces_18 rfl rfl ?_
      refine g_callVi (n := 2) hC [.int a1, .int a3] 6 6 (by decide) rfl rfl (fun hne => c_X6_isStruck hC.2.2.2.2.2.2.2.1 Z M a1 a3 hne) lk_X6_34 mw_X6_isStruck.1 mw_X6_isStruck.2.1 mw_X6_isStruck.2.2.1 mw_X6_isStruck.2.2.2 ⟨rfl, by decide, by decide, by decide +kernel⟩ rfl rfl ⟨by decide, by decide⟩ rfl rfl (Nat.le_of_ble_eq_true rfl) (by decide) (by decide) (by decide) dX6_fillPlaces_19 (fun x2 M1 => ?_)
      refine g_if_ne (tgt := 37) hC dX6_fillPlaces_22 (by decide) (fun _ => ?_) (fun _ => ?_)
      · refine g_aload_n hC 0 dX6_fillPlaces_25 rfl rfl ?_
        refine gf_X6_20 hC dX6_fillPlaces_26 ?_
        refine g_iload_n hC 1 dX6_fillPlaces_29 rfl rfl ?_
        refine g_aald hC 74 (by decide) rfl dX6_fillPlaces_30 (fun hr3 => ?_)
        refine g_iload_n hC 2 dX6_fillPlaces_31 rfl rfl ?_
        refine g_iload_n hC 3 dX6_fillPlaces_32 rfl rfl ?_
        refine g_rastv hC 75 74 8 8 grid_74 hr3 dX6_fillPlaces_33 (fun M4 => ?_)
        refine g_iinc hC 2 (v := 1) (fun x5 => [(2, .int x5), (0, .ref (zad Z 6)), (1, .int a1), (3, .int a3)]) dX6_fillPlaces_34 rfl (by decide) (by decide) (fun _ => rfl) (fun x5 => ?_)
        refine g_iinc hC 3 (v := 1) (fun x6 => [(3, .int x6), (2, .int x5), (0, .ref (zad Z 6)), (1, .int a1)]) dX6_fillPlaces_37 rfl (by decide) (by decide) (fun _ => rfl) (fun x6 => ?_)
        refine g_goto (tgt := 4) hC dX6_fillPlaces_40 (by decide) ?_
        refine g_sub (lv1 := [(0, .ref (zad Z 6)), (1, .int a1), (2, .int x5), (3, .int x6)]) [2, 3, 1, 0] rfl ?_
        exact hs4 M4 a1 x5 x6
      · refine g_iinc hC 3 (v := 1) (fun x7 => [(3, .int x7), (0, .ref (zad Z 6)), (1, .int a1), (2, .int a2)]) dX6_fillPlaces_37 rfl (by decide) (by decide) (fun _ => rfl) (fun x7 => ?_)
        refine g_goto (tgt := 4) hC dX6_fillPlaces_40 (by decide) ?_
        refine g_sub (lv1 := [(0, .ref (zad Z 6)), (1, .int a1), (2, .int a2), (3, .int x7)]) [1, 2, 3, 0] rfl ?_
        exact hs4 M1 a1 a2 x7
set_option maxRecDepth 20000 in
set_option maxHeartbeats 4000000 in
theorem g_X6_fillPlaces_l4 {p : Program} {l : Launch} {e : Env} {s : State} {m : MethodId} {args : Array Value} {below : List Frame} {meth : Method} {c : Code} {Z : gZ} (hC : gC p l s m args meth c cX6_fillPlaces 4 RX6 none Z)   : ∀ (n : Nat) (M : gM) (a1 : Int32) (a2 : Int32) (a3 : Int32), gW p l e rm_X6_fillPlaces s m args below meth c 4 Z 0 0 0 M 4 [(0, .ref (zad Z 6)), (1, .int a1), (2, .int a2), (3, .int a3)] [] (f_X6_fillPlaces_l4  n M a1 a2 a3)
  | 0, _, _, _, _ => g_stuck
  | n + 1, M, a1, a2, a3 => g_X6_fillPlaces_lb4 hC  (g_X6_fillPlaces_l4 hC  n) M a1 a2 a3
set_option maxRecDepth 20000 in
set_option maxHeartbeats 4000000 in
theorem c_X6_fillPlaces {l : Launch} (hfl : l.stackTraces = false) (Z : gZ) (M : gM) (a1 : Int32) : gMet l yX6_fillPlaces cX6_fillPlaces 4 none rm_X6_fillPlaces 0 0 Z M [.ref (zad Z 6), .int a1] (f_X6_fillPlaces M a1) := by
  refine g_enter hfl (by decide) (Nat.le_of_ble_eq_true rfl) (fun p e s m args below meth c hC => ?_)
  refine g_eq (F := f_X6_fillPlaces M a1) rfl ?_
  refine g_lv0 (lv1 := [(0, .ref (zad Z 6)), (1, .int a1)]) rfl ?_
  unfold f_X6_fillPlaces
  refine g_iconst hC (v := 0) dX6_fillPlaces_0 (by decide) ?_
  refine g_istore_n hC (lv1 := [(2, .int 0), (0, .ref (zad Z 6)), (1, .int a1)]) dX6_fillPlaces_1 rfl (by decide) rfl ?_
  refine g_iconst hC (v := 0) dX6_fillPlaces_2 (by decide) ?_
  refine g_istore_n hC (lv1 := [(3, .int 0), (2, .int 0), (0, .ref (zad Z 6)), (1, .int a1)]) dX6_fillPlaces_3 rfl (by decide) rfl ?_
  refine g_sub (lv1 := [(0, .ref (zad Z 6)), (1, .int a1), (2, .int 0), (3, .int 0)]) [2, 3, 1, 0] rfl ?_
  exact g_X6_fillPlaces_l4 hC  5000 M a1 0 0

-- ===== X6_addStrike =====
def f_X6_addStrike (M : gM) (a1 : Int32) (a2 : Int32) : gR := (gI a1 8 (gI a1 8 (bM (gset M 73 a1.toNatClampNeg ((M 73 a1.toNatClampNeg) ||| (1 <<< (a2 &&& 31)))) (fun M1 => (gI a1 8 (gI a1 8 (bM (gset M1 72 a1.toNatClampNeg ((M1 72 a1.toNatClampNeg) + 1)) (fun M2 => (rb (f_X6_isDone M2 a1) (fun x4 M3 => (if x4 = 0 then (rRet 0 M3) else (rb (f_X6_fillPlaces M3 a1) (fun _ M5 => (rRet 0 M5))))))))))))))
abbrev rm_X6_addStrike : Room := { frames := 2, cells := 0, slots := 0, locals := 45 }
set_option maxRecDepth 20000 in
set_option maxHeartbeats 4000000 in
theorem c_X6_addStrike {l : Launch} (hfl : l.stackTraces = false) (Z : gZ) (M : gM) (a1 : Int32) (a2 : Int32) : gMet l yX6_addStrike cX6_addStrike 3 none rm_X6_addStrike 0 0 Z M [.ref (zad Z 6), .int a1, .int a2] (f_X6_addStrike M a1 a2) := by
  refine g_enter hfl (by decide) (Nat.le_of_ble_eq_true rfl) (fun p e s m args below meth c hC => ?_)
  refine g_eq (F := f_X6_addStrike M a1 a2) rfl ?_
  refine g_lv0 (lv1 := [(0, .ref (zad Z 6)), (1, .int a1), (2, .int a2)]) rfl ?_
  unfold f_X6_addStrike
  refine g_aload_n hC 0 dX6_addStrike_0 rfl rfl ?_
  refine gf_X6_15 hC dX6_addStrike_1 ?_
  refine g_iload_n hC 1 dX6_addStrike_4 rfl rfl ?_
  refine g_dup2 hC dX6_addStrike_5 rfl rfl ?_
  refine g_iald hC 73 (by decide) rfl dX6_addStrike_6 ?_
  refine g_iconst hC (v := 1) dX6_addStrike_7 (by decide) ?_
  refine g_iload_n hC 2 dX6_addStrike_8 rfl rfl ?_
  refine g_ishl hC dX6_addStrike_9 ?_
  refine g_ior hC dX6_addStrike_10 ?_
  refine g_iast hC 73 (by decide) rfl dX6_addStrike_11 (fun M1 => ?_)
  refine g_aload_n hC 0 dX6_addStrike_12 rfl rfl ?_
  refine gf_X6_9 hC dX6_addStrike_13 ?_
  refine g_iload_n hC 1 dX6_addStrike_16 rfl rfl ?_
  refine g_dup2 hC dX6_addStrike_17 rfl rfl ?_
  refine g_iald hC 72 (by decide) rfl dX6_addStrike_18 ?_
  refine g_iconst hC (v := 1) dX6_addStrike_19 (by decide) ?_
  refine g_iadd hC dX6_addStrike_20 ?_
  refine g_iast hC 72 (by decide) rfl dX6_addStrike_21 (fun M2 => ?_)
  refine g_aload_n hC 0 dX6_addStrike_22 rfl rfl ?_
  refine g_iload_n hC 1 dX6_addStrike_23 rfl rfl ?_
  refine g_callVi (n := 1) hC [.int a1] 6 6 (by decide) rfl rfl (fun hne => c_X6_isDone hC.2.2.2.2.2.2.2.1 Z M2 a1 hne) lk_X6_26 mw_X6_isDone.1 mw_X6_isDone.2.1 mw_X6_isDone.2.2.1 mw_X6_isDone.2.2.2 ⟨rfl, by decide, by decide, by decide +kernel⟩ rfl rfl ⟨by decide, by decide⟩ rfl rfl (Nat.le_of_ble_eq_true rfl) (by decide) (by decide) (by decide) dX6_addStrike_24 (fun x4 M3 => ?_)
  refine g_if_eq (tgt := 35) hC dX6_addStrike_27 (by decide) (fun _ => ?_) (fun _ => ?_)
  · exact g_vret hC rfl (by decide) dX6_addStrike_35
  · refine g_aload_n hC 0 dX6_addStrike_30 rfl rfl ?_
    refine g_iload_n hC 1 dX6_addStrike_31 rfl rfl ?_
    refine g_callVv (n := 1) hC [.int a1] 6 6 (by decide) rfl rfl (fun hne => c_X6_fillPlaces hC.2.2.2.2.2.2.2.1 Z M3 a1 hne) lk_X6_30 mw_X6_fillPlaces.1 mw_X6_fillPlaces.2.1 mw_X6_fillPlaces.2.2.1 mw_X6_fillPlaces.2.2.2 ⟨rfl, by decide, by decide, by decide +kernel⟩ rfl rfl ⟨by decide, by decide⟩ rfl rfl (Nat.le_of_ble_eq_true rfl) (by decide) (by decide) (by decide) dX6_addStrike_32 (fun M5 => ?_)
    exact g_vret hC rfl (by decide) dX6_addStrike_35

-- ===== X6_inSeat =====
def f_X6_inSeat (M : gM) (a1 : Int32) (a2 : Int32) : gR := (rb (f_X6_isDone M a1) (fun x2 M1 => (if x2 = 0 then (rRet (-1) M1) else (gI a1 8 (gI a2 8 (rRet (M1 74 (a1.toNatClampNeg * 8 + a2.toNatClampNeg)) M1))))))
abbrev rm_X6_inSeat : Room := { frames := 1, cells := 0, slots := 0, locals := 21 }
set_option maxRecDepth 20000 in
set_option maxHeartbeats 4000000 in
theorem c_X6_inSeat {l : Launch} (hfl : l.stackTraces = false) (Z : gZ) (M : gM) (a1 : Int32) (a2 : Int32) : gMet l yX6_inSeat cX6_inSeat 3 (some .int) rm_X6_inSeat 1 0 Z M [.ref (zad Z 6), .int a1, .int a2] (f_X6_inSeat M a1 a2) := by
  refine g_enter hfl (by decide) (Nat.le_of_ble_eq_true rfl) (fun p e s m args below meth c hC => ?_)
  refine g_eq (F := f_X6_inSeat M a1 a2) rfl ?_
  refine g_lv0 (lv1 := [(0, .ref (zad Z 6)), (1, .int a1), (2, .int a2)]) rfl ?_
  unfold f_X6_inSeat
  refine g_aload_n hC 0 dX6_inSeat_0 rfl rfl ?_
  refine g_iload_n hC 1 dX6_inSeat_1 rfl rfl ?_
  refine g_callVi (n := 1) hC [.int a1] 6 6 (by decide) rfl rfl (fun hne => c_X6_isDone hC.2.2.2.2.2.2.2.1 Z M a1 hne) lk_X6_26 mw_X6_isDone.1 mw_X6_isDone.2.1 mw_X6_isDone.2.2.1 mw_X6_isDone.2.2.2 ⟨rfl, by decide, by decide, by decide +kernel⟩ rfl rfl ⟨by decide, by decide⟩ rfl rfl (Nat.le_of_ble_eq_true rfl) (by decide) (by decide) (by decide) dX6_inSeat_2 (fun x2 M1 => ?_)
  refine g_if_eq (tgt := 19) hC dX6_inSeat_5 (by decide) (fun _ => ?_) (fun _ => ?_)
  · refine g_iconst hC (v := (-1)) dX6_inSeat_19 (by decide) ?_
    exact g_iret hC rfl (by decide) dX6_inSeat_20
  · refine g_aload_n hC 0 dX6_inSeat_8 rfl rfl ?_
    refine gf_X6_20 hC dX6_inSeat_9 ?_
    refine g_iload_n hC 1 dX6_inSeat_12 rfl rfl ?_
    refine g_aald hC 74 (by decide) rfl dX6_inSeat_13 (fun hr3 => ?_)
    refine g_iload_n hC 2 dX6_inSeat_14 rfl rfl ?_
    refine g_raldv hC 75 74 8 8 grid_74 hr3 dX6_inSeat_15 ?_
    refine g_goto (tgt := 20) hC dX6_inSeat_16 (by decide) ?_
    exact g_iret hC rfl (by decide) dX6_inSeat_20

-- ===== X6_nextAlternate =====
def f_X6_nextAlternate (M : gM) (a1 : Int32) : gR := (rb (f_X6_isDone M a1) (fun x2 M1 => (if x2 = 0 then (rRet (-1) M1) else (gI a1 8 (if (M1 83 a1.toNatClampNeg) < 2 then (gI a1 8 (gI a1 8 (gI (6 + (M1 83 a1.toNatClampNeg)) 8 (rRet (M1 74 (a1.toNatClampNeg * 8 + (6 + (M1 83 a1.toNatClampNeg)).toNatClampNeg)) M1)))) else (rRet (-1) M1))))))
abbrev rm_X6_nextAlternate : Room := { frames := 1, cells := 0, slots := 0, locals := 21 }
set_option maxRecDepth 20000 in
set_option maxHeartbeats 4000000 in
theorem c_X6_nextAlternate {l : Launch} (hfl : l.stackTraces = false) (Z : gZ) (M : gM) (a1 : Int32) : gMet l yX6_nextAlternate cX6_nextAlternate 2 (some .int) rm_X6_nextAlternate 1 0 Z M [.ref (zad Z 6), .int a1] (f_X6_nextAlternate M a1) := by
  refine g_enter hfl (by decide) (Nat.le_of_ble_eq_true rfl) (fun p e s m args below meth c hC => ?_)
  refine g_eq (F := f_X6_nextAlternate M a1) rfl ?_
  refine g_lv0 (lv1 := [(0, .ref (zad Z 6)), (1, .int a1)]) rfl ?_
  unfold f_X6_nextAlternate
  refine g_aload_n hC 0 dX6_nextAlternate_0 rfl rfl ?_
  refine g_iload_n hC 1 dX6_nextAlternate_1 rfl rfl ?_
  refine g_callVi (n := 1) hC [.int a1] 6 6 (by decide) rfl rfl (fun hne => c_X6_isDone hC.2.2.2.2.2.2.2.1 Z M a1 hne) lk_X6_26 mw_X6_isDone.1 mw_X6_isDone.2.1 mw_X6_isDone.2.2.1 mw_X6_isDone.2.2.2 ⟨rfl, by decide, by decide, by decide +kernel⟩ rfl rfl ⟨by decide, by decide⟩ rfl rfl (Nat.le_of_ble_eq_true rfl) (by decide) (by decide) (by decide) dX6_nextAlternate_2 (fun x2 M1 => ?_)
  refine g_if_eq (tgt := 18) hC dX6_nextAlternate_5 (by decide) (fun _ => ?_) (fun _ => ?_)
  · refine g_iconst hC (v := (-1)) dX6_nextAlternate_18 (by decide) ?_
    exact g_iret hC rfl (by decide) dX6_nextAlternate_19
  · refine g_aload_n hC 0 dX6_nextAlternate_8 rfl rfl ?_
    refine gf_X6_23 hC dX6_nextAlternate_9 ?_
    refine g_iload_n hC 1 dX6_nextAlternate_12 rfl rfl ?_
    refine g_iald hC 83 (by decide) rfl dX6_nextAlternate_13 ?_
    refine g_iconst hC (v := 2) dX6_nextAlternate_14 (by decide) ?_
    refine g_icmp_lt (tgt := 20) hC dX6_nextAlternate_15 (by decide) (fun _ => ?_) (fun _ => ?_)
    · refine g_aload_n hC 0 dX6_nextAlternate_20 rfl rfl ?_
      refine gf_X6_20 hC dX6_nextAlternate_21 ?_
      refine g_iload_n hC 1 dX6_nextAlternate_24 rfl rfl ?_
      refine g_aald hC 74 (by decide) rfl dX6_nextAlternate_25 (fun hr3 => ?_)
      refine g_bipush hC (v := 6) dX6_nextAlternate_26 (by decide) ?_
      refine g_aload_n hC 0 dX6_nextAlternate_28 rfl rfl ?_
      refine gf_X6_23 hC dX6_nextAlternate_29 ?_
      refine g_iload_n hC 1 dX6_nextAlternate_32 rfl rfl ?_
      refine g_iald hC 83 (by decide) rfl dX6_nextAlternate_33 ?_
      refine g_iadd hC dX6_nextAlternate_34 ?_
      refine g_raldv hC 75 74 8 8 grid_74 hr3 dX6_nextAlternate_35 ?_
      exact g_iret hC rfl (by decide) dX6_nextAlternate_36
    · refine g_iconst hC (v := (-1)) dX6_nextAlternate_18 (by decide) ?_
      exact g_iret hC rfl (by decide) dX6_nextAlternate_19

-- ===== X6_placeOf =====
def f_X6_placeOf_lb2  (self2 : gM → Int32 → Int32 → Int32 → gR) (M : gM) (a1 : Int32) (a2 : Int32) (a3 : Int32) : gR := (if 6 ≤ a3 then (rRet (-1) M) else (rb (f_X6_inSeat M a1 a3) (fun x2 M1 => (if x2 = a2 then (rRet a3 M1) else (bV (a3 + 1) (fun x3 => (self2 M1 a1 a2 x3)))))))
def f_X6_placeOf_l2  : Nat → gM → Int32 → Int32 → Int32 → gR
  | 0, _, _, _, _ => rStuck
  | n + 1, M, a1, a2, a3 => f_X6_placeOf_lb2  (f_X6_placeOf_l2  n) M a1 a2 a3
def f_X6_placeOf (M : gM) (a1 : Int32) (a2 : Int32) : gR := (f_X6_placeOf_l2  5000 M a1 a2 0)
abbrev rm_X6_placeOf : Room := { frames := 2, cells := 0, slots := 0, locals := 43 }
set_option maxRecDepth 20000 in
set_option maxHeartbeats 4000000 in
theorem g_X6_placeOf_lb2 {p : Program} {l : Launch} {e : Env} {s : State} {m : MethodId} {args : Array Value} {below : List Frame} {meth : Method} {c : Code} {Z : gZ} (hC : gC p l s m args meth c cX6_placeOf 4 RX6 (some .int) Z)  {self2 : gM → Int32 → Int32 → Int32 → gR}  (hs2 : ∀ (M : gM) (a1 : Int32) (a2 : Int32) (a3 : Int32) , gW p l e rm_X6_placeOf s m args below meth c 4 Z 1 0 0 M 2 [(0, .ref (zad Z 6)), (1, .int a1), (2, .int a2), (3, .int a3)] [] (self2 M a1 a2 a3)) (M : gM) (a1 : Int32) (a2 : Int32) (a3 : Int32) : gW p l e rm_X6_placeOf s m args below meth c 4 Z 1 0 0 M 2 [(0, .ref (zad Z 6)), (1, .int a1), (2, .int a2), (3, .int a3)] [] (f_X6_placeOf_lb2  self2 M a1 a2 a3) := by
  unfold f_X6_placeOf_lb2
  refine g_iload_n hC 3 dX6_placeOf_2 rfl rfl ?_
  refine g_bipush hC (v := 6) dX6_placeOf_3 (by decide) ?_
  refine g_icmp_ge (tgt := 26) hC dX6_placeOf_5 (by decide) (fun _ => ?_) (fun _ => ?_)
  · refine g_iconst hC (v := (-1)) dX6_placeOf_26 (by decide) ?_
    exact g_iret hC rfl (by decide) dX6_placeOf_27
  · refine g_aload_n hC 0 dX6_placeOf_8 rfl rfl ?_
    refine g_iload_n hC 1 dX6_placeOf_9 rfl rfl ?_
    refine g_iload_n hC 3 dX6_placeOf_10 rfl rfl ?_
    refine g_callVi (n := 2) hC [.int a1, .int a3] 6 6 (by decide) rfl rfl (fun hne => c_X6_inSeat hC.2.2.2.2.2.2.2.1 Z M a1 a3 hne) lk_X6_38 mw_X6_inSeat.1 mw_X6_inSeat.2.1 mw_X6_inSeat.2.2.1 mw_X6_inSeat.2.2.2 ⟨rfl, by decide, by decide, by decide +kernel⟩ rfl rfl ⟨by decide, by decide⟩ rfl rfl (Nat.le_of_ble_eq_true rfl) (by decide) (by decide) (by decide) dX6_placeOf_11 (fun x2 M1 => ?_)
    refine g_iload_n hC 2 dX6_placeOf_14 rfl rfl ?_
    refine g_icmp_ne (tgt := 20) hC dX6_placeOf_15 (by decide) (fun _ => ?_) (fun _ => ?_)
    · refine g_iload_n hC 3 dX6_placeOf_18 rfl rfl ?_
      exact g_iret hC rfl (by decide) dX6_placeOf_19
    · refine g_iinc hC 3 (v := 1) (fun x3 => [(3, .int x3), (0, .ref (zad Z 6)), (1, .int a1), (2, .int a2)]) dX6_placeOf_20 rfl (by decide) (by decide) (fun _ => rfl) (fun x3 => ?_)
      refine g_goto (tgt := 2) hC dX6_placeOf_23 (by decide) ?_
      refine g_sub (lv1 := [(0, .ref (zad Z 6)), (1, .int a1), (2, .int a2), (3, .int x3)]) [1, 2, 3, 0] rfl ?_
      exact hs2 M1 a1 a2 x3
set_option maxRecDepth 20000 in
set_option maxHeartbeats 4000000 in
theorem g_X6_placeOf_l2 {p : Program} {l : Launch} {e : Env} {s : State} {m : MethodId} {args : Array Value} {below : List Frame} {meth : Method} {c : Code} {Z : gZ} (hC : gC p l s m args meth c cX6_placeOf 4 RX6 (some .int) Z)   : ∀ (n : Nat) (M : gM) (a1 : Int32) (a2 : Int32) (a3 : Int32), gW p l e rm_X6_placeOf s m args below meth c 4 Z 1 0 0 M 2 [(0, .ref (zad Z 6)), (1, .int a1), (2, .int a2), (3, .int a3)] [] (f_X6_placeOf_l2  n M a1 a2 a3)
  | 0, _, _, _, _ => g_stuck
  | n + 1, M, a1, a2, a3 => g_X6_placeOf_lb2 hC  (g_X6_placeOf_l2 hC  n) M a1 a2 a3
set_option maxRecDepth 20000 in
set_option maxHeartbeats 4000000 in
theorem c_X6_placeOf {l : Launch} (hfl : l.stackTraces = false) (Z : gZ) (M : gM) (a1 : Int32) (a2 : Int32) : gMet l yX6_placeOf cX6_placeOf 4 (some .int) rm_X6_placeOf 1 0 Z M [.ref (zad Z 6), .int a1, .int a2] (f_X6_placeOf M a1 a2) := by
  refine g_enter hfl (by decide) (Nat.le_of_ble_eq_true rfl) (fun p e s m args below meth c hC => ?_)
  refine g_eq (F := f_X6_placeOf M a1 a2) rfl ?_
  refine g_lv0 (lv1 := [(0, .ref (zad Z 6)), (1, .int a1), (2, .int a2)]) rfl ?_
  unfold f_X6_placeOf
  refine g_iconst hC (v := 0) dX6_placeOf_0 (by decide) ?_
  refine g_istore_n hC (lv1 := [(3, .int 0), (0, .ref (zad Z 6)), (1, .int a1), (2, .int a2)]) dX6_placeOf_1 rfl (by decide) rfl ?_
  refine g_sub (lv1 := [(0, .ref (zad Z 6)), (1, .int a1), (2, .int a2), (3, .int 0)]) [1, 2, 3, 0] rfl ?_
  exact g_X6_placeOf_l2 hC  5000 M a1 a2 0

-- ===== X6_reseat =====
def f_X6_reseat (M : gM) (a1 : Int32) (a2 : Int32) (a3 : Int32) : gR := (gI a1 8 (gI a2 8 (bM (gset M 74 (a1.toNatClampNeg * 8 + a2.toNatClampNeg) a3) (fun M2 => (gI a1 8 (gI a1 8 (bM (gset M2 83 a1.toNatClampNeg ((M2 83 a1.toNatClampNeg) + 1)) (fun M3 => (rRet 0 M3)))))))))
abbrev rm_X6_reseat : Room := { frames := 0, cells := 0, slots := 0, locals := 0 }
set_option maxRecDepth 20000 in
set_option maxHeartbeats 4000000 in
theorem c_X6_reseat {l : Launch} (hfl : l.stackTraces = false) (Z : gZ) (M : gM) (a1 : Int32) (a2 : Int32) (a3 : Int32) : gMet l yX6_reseat cX6_reseat 4 none rm_X6_reseat 0 0 Z M [.ref (zad Z 6), .int a1, .int a2, .int a3] (f_X6_reseat M a1 a2 a3) := by
  refine g_enter hfl (by decide) (Nat.le_of_ble_eq_true rfl) (fun p e s m args below meth c hC => ?_)
  refine g_eq (F := f_X6_reseat M a1 a2 a3) rfl ?_
  refine g_lv0 (lv1 := [(0, .ref (zad Z 6)), (1, .int a1), (2, .int a2), (3, .int a3)]) rfl ?_
  unfold f_X6_reseat
  refine g_aload_n hC 0 dX6_reseat_0 rfl rfl ?_
  refine gf_X6_20 hC dX6_reseat_1 ?_
  refine g_iload_n hC 1 dX6_reseat_4 rfl rfl ?_
  refine g_aald hC 74 (by decide) rfl dX6_reseat_5 (fun hr1 => ?_)
  refine g_iload_n hC 2 dX6_reseat_6 rfl rfl ?_
  refine g_iload_n hC 3 dX6_reseat_7 rfl rfl ?_
  refine g_rastv hC 75 74 8 8 grid_74 hr1 dX6_reseat_8 (fun M2 => ?_)
  refine g_aload_n hC 0 dX6_reseat_9 rfl rfl ?_
  refine gf_X6_23 hC dX6_reseat_10 ?_
  refine g_iload_n hC 1 dX6_reseat_13 rfl rfl ?_
  refine g_dup2 hC dX6_reseat_14 rfl rfl ?_
  refine g_iald hC 83 (by decide) rfl dX6_reseat_15 ?_
  refine g_iconst hC (v := 1) dX6_reseat_16 (by decide) ?_
  refine g_iadd hC dX6_reseat_17 ?_
  refine g_iast hC 83 (by decide) rfl dX6_reseat_18 (fun M3 => ?_)
  exact g_vret hC rfl (by decide) dX6_reseat_19

-- ===== X7_isSealed =====
def f_X7_isSealed_lb7  (self7 : gM → Int32 → Int32 → Int32 → gR) (M : gM) (a1 : Int32) (a2 : Int32) (a3 : Int32) : gR := (if a3 < 0 then (rRet 0 M) else (gI a3 512 (if (M 99 a3.toNatClampNeg) = a1 then (gI a3 512 (if a2 < (M 100 a3.toNatClampNeg) then (bV (a3 + (-1)) (fun x1 => (self7 M a1 a2 x1))) else (gI a3 512 (gZ01 (M 101 a3.toNatClampNeg) (rRet (M 101 a3.toNatClampNeg) M))))) else (bV (a3 + (-1)) (fun x2 => (self7 M a1 a2 x2))))))
def f_X7_isSealed_l7  : Nat → gM → Int32 → Int32 → Int32 → gR
  | 0, _, _, _, _ => rStuck
  | n + 1, M, a1, a2, a3 => f_X7_isSealed_lb7  (f_X7_isSealed_l7  n) M a1 a2 a3
def f_X7_isSealed (M : gM) (a1 : Int32) (a2 : Int32) : gR := (bV ((M 8 0) - 1) (fun x3 => (f_X7_isSealed_l7  5000 M a1 a2 x3)))
abbrev rm_X7_isSealed : Room := { frames := 0, cells := 0, slots := 0, locals := 0 }
set_option maxRecDepth 20000 in
set_option maxHeartbeats 4000000 in
theorem g_X7_isSealed_lb7 {p : Program} {l : Launch} {e : Env} {s : State} {m : MethodId} {args : Array Value} {below : List Frame} {meth : Method} {c : Code} {Z : gZ} (hC : gC p l s m args meth c cX7_isSealed 4 RX7 (some .boolean) Z)  {self7 : gM → Int32 → Int32 → Int32 → gR}  (hs7 : ∀ (M : gM) (a1 : Int32) (a2 : Int32) (a3 : Int32) , gW p l e rm_X7_isSealed s m args below meth c 4 Z 1 0 0 M 7 [(0, .ref (zad Z 8)), (1, .int a1), (2, .int a2), (3, .int a3)] [] (self7 M a1 a2 a3)) (M : gM) (a1 : Int32) (a2 : Int32) (a3 : Int32) : gW p l e rm_X7_isSealed s m args below meth c 4 Z 1 0 0 M 7 [(0, .ref (zad Z 8)), (1, .int a1), (2, .int a2), (3, .int a3)] [] (f_X7_isSealed_lb7  self7 M a1 a2 a3) := by
  unfold f_X7_isSealed_lb7
  refine g_iload_n hC 3 dX7_isSealed_7 rfl rfl ?_
  refine g_if_lt (tgt := 44) hC dX7_isSealed_8 (by decide) (fun _ => ?_) (fun _ => ?_)
  · refine g_iconst hC (v := 0) dX7_isSealed_44 (by decide) ?_
    exact g_zret0 hC rfl (by decide) dX7_isSealed_45
  · refine g_aload_n hC 0 dX7_isSealed_11 rfl rfl ?_
    refine gf_X7_9 hC dX7_isSealed_12 ?_
    refine g_iload_n hC 3 dX7_isSealed_15 rfl rfl ?_
    refine g_iald hC 99 (by decide) rfl dX7_isSealed_16 ?_
    refine g_iload_n hC 1 dX7_isSealed_17 rfl rfl ?_
    refine g_icmp_ne (tgt := 38) hC dX7_isSealed_18 (by decide) (fun _ => ?_) (fun _ => ?_)
    · refine g_aload_n hC 0 dX7_isSealed_21 rfl rfl ?_
      refine gf_X7_15 hC dX7_isSealed_22 ?_
      refine g_iload_n hC 3 dX7_isSealed_25 rfl rfl ?_
      refine g_iald hC 100 (by decide) rfl dX7_isSealed_26 ?_
      refine g_iload_n hC 2 dX7_isSealed_27 rfl rfl ?_
      refine g_icmp_gt (tgt := 38) hC dX7_isSealed_28 (by decide) (fun _ => ?_) (fun _ => ?_)
      · refine g_iinc hC 3 (v := (-1)) (fun x1 => [(3, .int x1), (0, .ref (zad Z 8)), (1, .int a1), (2, .int a2)]) dX7_isSealed_38 rfl (by decide) (by decide) (fun _ => rfl) (fun x1 => ?_)
        refine g_goto (tgt := 7) hC dX7_isSealed_41 (by decide) ?_
        refine g_sub (lv1 := [(0, .ref (zad Z 8)), (1, .int a1), (2, .int a2), (3, .int x1)]) [1, 2, 3, 0] rfl ?_
        exact hs7 M a1 a2 x1
      · refine g_aload_n hC 0 dX7_isSealed_31 rfl rfl ?_
        refine gf_X7_18 hC dX7_isSealed_32 ?_
        refine g_iload_n hC 3 dX7_isSealed_35 rfl rfl ?_
        refine g_zald hC 101 (by decide) rfl dX7_isSealed_36 ?_
        exact g_zret hC rfl (by decide) dX7_isSealed_37
    · refine g_iinc hC 3 (v := (-1)) (fun x2 => [(3, .int x2), (0, .ref (zad Z 8)), (1, .int a1), (2, .int a2)]) dX7_isSealed_38 rfl (by decide) (by decide) (fun _ => rfl) (fun x2 => ?_)
      refine g_goto (tgt := 7) hC dX7_isSealed_41 (by decide) ?_
      refine g_sub (lv1 := [(0, .ref (zad Z 8)), (1, .int a1), (2, .int a2), (3, .int x2)]) [1, 2, 3, 0] rfl ?_
      exact hs7 M a1 a2 x2
set_option maxRecDepth 20000 in
set_option maxHeartbeats 4000000 in
theorem g_X7_isSealed_l7 {p : Program} {l : Launch} {e : Env} {s : State} {m : MethodId} {args : Array Value} {below : List Frame} {meth : Method} {c : Code} {Z : gZ} (hC : gC p l s m args meth c cX7_isSealed 4 RX7 (some .boolean) Z)   : ∀ (n : Nat) (M : gM) (a1 : Int32) (a2 : Int32) (a3 : Int32), gW p l e rm_X7_isSealed s m args below meth c 4 Z 1 0 0 M 7 [(0, .ref (zad Z 8)), (1, .int a1), (2, .int a2), (3, .int a3)] [] (f_X7_isSealed_l7  n M a1 a2 a3)
  | 0, _, _, _, _ => g_stuck
  | n + 1, M, a1, a2, a3 => g_X7_isSealed_lb7 hC  (g_X7_isSealed_l7 hC  n) M a1 a2 a3
set_option maxRecDepth 20000 in
set_option maxHeartbeats 4000000 in
theorem c_X7_isSealed {l : Launch} (hfl : l.stackTraces = false) (Z : gZ) (M : gM) (a1 : Int32) (a2 : Int32) : gMet l yX7_isSealed cX7_isSealed 4 (some .boolean) rm_X7_isSealed 1 0 Z M [.ref (zad Z 8), .int a1, .int a2] (f_X7_isSealed M a1 a2) := by
  refine g_enter hfl (by decide) (Nat.le_of_ble_eq_true rfl) (fun p e s m args below meth c hC => ?_)
  refine g_eq (F := f_X7_isSealed M a1 a2) rfl ?_
  refine g_lv0 (lv1 := [(0, .ref (zad Z 8)), (1, .int a1), (2, .int a2)]) rfl ?_
  unfold f_X7_isSealed
  refine g_aload_n hC 0 dX7_isSealed_0 rfl rfl ?_
  refine gf_X7_22 hC dX7_isSealed_1 ?_
  refine g_iconst hC (v := 1) dX7_isSealed_4 (by decide) ?_
  refine g_isub hC dX7_isSealed_5 ?_
  refine g_bv (fun x3 => ?_)
  refine g_istore_n hC (lv1 := [(3, .int x3), (0, .ref (zad Z 8)), (1, .int a1), (2, .int a2)]) dX7_isSealed_6 rfl (by decide) rfl ?_
  refine g_sub (lv1 := [(0, .ref (zad Z 8)), (1, .int a1), (2, .int a2), (3, .int x3)]) [1, 2, 3, 0] rfl ?_
  exact g_X7_isSealed_l7 hC  5000 M a1 a2 x3

-- ===== X7_add =====
def f_X7_add (M : gM) (a1 : Int32) (a2 : Int32) (a3 : Int32) : gR := (if 512 ≤ (M 8 0) then (rRet 0 M) else (gI (M 8 0) 512 (bM (gset M 99 (M 8 0).toNatClampNeg a1) (fun M1 => (gI (M1 8 0) 512 (bM (gset M1 100 (M1 8 0).toNatClampNeg a2) (fun M2 => (gZ01 a3 (gI (M2 8 0) 512 (bM (gset M2 101 (M2 8 0).toNatClampNeg a3) (fun M3 => (bM (gset M3 8 0 ((M3 8 0) + 1)) (fun M4 => (rRet 0 M4))))))))))))))
abbrev rm_X7_add : Room := { frames := 0, cells := 0, slots := 0, locals := 0 }
set_option maxRecDepth 20000 in
set_option maxHeartbeats 4000000 in
theorem c_X7_add {l : Launch} (hfl : l.stackTraces = false) (Z : gZ) (M : gM) (a1 : Int32) (a2 : Int32) (a3 : Int32) : gMet l yX7_add cX7_add 4 none rm_X7_add 0 0 Z M [.ref (zad Z 8), .int a1, .int a2, .int a3] (f_X7_add M a1 a2 a3) := by
  refine g_enter hfl (by decide) (Nat.le_of_ble_eq_true rfl) (fun p e s m args below meth c hC => ?_)
  refine g_eq (F := f_X7_add M a1 a2 a3) rfl ?_
  refine g_lv0 (lv1 := [(0, .ref (zad Z 8)), (1, .int a1), (2, .int a2), (3, .int a3)]) rfl ?_
  unfold f_X7_add
  refine g_aload_n hC 0 dX7_add_0 rfl rfl ?_
  refine gf_X7_22 hC dX7_add_1 ?_
  refine g_sipush hC (v := 512) dX7_add_4 (by decide) ?_
  refine g_icmp_ge (tgt := 50) hC dX7_add_7 (by decide) (fun _ => ?_) (fun _ => ?_)
  · exact g_vret hC rfl (by decide) dX7_add_50
  · refine g_aload_n hC 0 dX7_add_10 rfl rfl ?_
    refine gf_X7_9 hC dX7_add_11 ?_
    refine g_aload_n hC 0 dX7_add_14 rfl rfl ?_
    refine gf_X7_22 hC dX7_add_15 ?_
    refine g_iload_n hC 1 dX7_add_18 rfl rfl ?_
    refine g_iast hC 99 (by decide) rfl dX7_add_19 (fun M1 => ?_)
    refine g_aload_n hC 0 dX7_add_20 rfl rfl ?_
    refine gf_X7_15 hC dX7_add_21 ?_
    refine g_aload_n hC 0 dX7_add_24 rfl rfl ?_
    refine gf_X7_22 hC dX7_add_25 ?_
    refine g_iload_n hC 2 dX7_add_28 rfl rfl ?_
    refine g_iast hC 100 (by decide) rfl dX7_add_29 (fun M2 => ?_)
    refine g_aload_n hC 0 dX7_add_30 rfl rfl ?_
    refine gf_X7_18 hC dX7_add_31 ?_
    refine g_aload_n hC 0 dX7_add_34 rfl rfl ?_
    refine gf_X7_22 hC dX7_add_35 ?_
    refine g_iload_n hC 3 dX7_add_38 rfl rfl ?_
    refine g_zast hC 101 (by decide) rfl dX7_add_39 (fun M3 => ?_)
    refine g_aload_n hC 0 dX7_add_40 rfl rfl ?_
    refine g_dup hC dX7_add_41 rfl ?_
    refine gf_X7_22 hC dX7_add_42 ?_
    refine g_iconst hC (v := 1) dX7_add_45 (by decide) ?_
    refine g_iadd hC dX7_add_46 ?_
    refine gp_X7_22 hC dX7_add_47 (fun M4 => ?_)
    exact g_vret hC rfl (by decide) dX7_add_50

-- ===== X8_checkDays =====
def f_X8_checkDays (M : gM) (a1 : Int32) : gR := (if a1 < 1 then (rThr 1 M) else (if a1 ≤ 60 then (rRet 0 M) else (rThr 1 M)))
abbrev rm_X8_checkDays : Room := { frames := 6, cells := 1, slots := 6, locals := 90 }
set_option maxRecDepth 20000 in
set_option maxHeartbeats 4000000 in
theorem c_X8_checkDays {l : Launch} (hfl : l.stackTraces = false) (Z : gZ) (M : gM) (a1 : Int32) : gMet l yX8_checkDays cX8_checkDays 2 none rm_X8_checkDays 0 1 Z M [.ref (zad Z 0), .int a1] (f_X8_checkDays M a1) := by
  refine g_enter hfl (by decide) (Nat.le_of_ble_eq_true rfl) (fun p e s m args below meth c hC => ?_)
  refine g_eq (F := f_X8_checkDays M a1) rfl ?_
  refine g_lv0 (lv1 := [(0, .ref (zad Z 0)), (1, .int a1)]) rfl ?_
  unfold f_X8_checkDays
  refine g_iload_n hC 1 dX8_checkDays_0 rfl rfl ?_
  refine g_iconst hC (v := 1) dX8_checkDays_1 (by decide) ?_
  refine g_icmp_lt (tgt := 11) hC dX8_checkDays_2 (by decide) (fun _ => ?_) (fun _ => ?_)
  · exact g_throwSW (text := "days out of range") hC 1 (by decide) thr_c1 thr_i1 (by decide) thr_a1 thr_n1 thr_g1 (by decide) (by decide) (Nat.le_of_ble_eq_true rfl) (by decide) (by decide) (by decide) dX8_checkDays_11 dX8_checkDays_14 dX8_checkDays_15 dX8_checkDays_18 dX8_checkDays_21
  · refine g_iload_n hC 1 dX8_checkDays_5 rfl rfl ?_
    refine g_bipush hC (v := 60) dX8_checkDays_6 (by decide) ?_
    refine g_icmp_le (tgt := 22) hC dX8_checkDays_8 (by decide) (fun _ => ?_) (fun _ => ?_)
    · exact g_vret hC rfl (by decide) dX8_checkDays_22
    · exact g_throwSW (text := "days out of range") hC 1 (by decide) thr_c1 thr_i1 (by decide) thr_a1 thr_n1 thr_g1 (by decide) (by decide) (Nat.le_of_ble_eq_true rfl) (by decide) (by decide) (by decide) dX8_checkDays_11 dX8_checkDays_14 dX8_checkDays_15 dX8_checkDays_18 dX8_checkDays_21

-- ===== X8_pass =====
def f_X8_pass (M : gM) (a1 : Int32) : gR := (rb (f_X8_checkDays M a1) (fun _ M1 => (if ((M1 1 0) + a1) ≤ 900 then (bM (gset M1 1 0 ((M1 1 0) + a1)) (fun M3 => (rRet (M3 1 0) M3))) else (rThr 2 M1))))
abbrev rm_X8_pass : Room := { frames := 7, cells := 2, slots := 12, locals := 111 }
set_option maxRecDepth 20000 in
set_option maxHeartbeats 4000000 in
theorem c_X8_pass {l : Launch} (hfl : l.stackTraces = false) (Z : gZ) (M : gM) (a1 : Int32) : gMet l yX8_pass cX8_pass 2 (some .int) rm_X8_pass 1 2 Z M [.ref (zad Z 0), .int a1] (f_X8_pass M a1) := by
  refine g_enter hfl (by decide) (Nat.le_of_ble_eq_true rfl) (fun p e s m args below meth c hC => ?_)
  refine g_eq (F := f_X8_pass M a1) rfl ?_
  refine g_lv0 (lv1 := [(0, .ref (zad Z 0)), (1, .int a1)]) rfl ?_
  unfold f_X8_pass
  refine g_aload_n hC 0 dX8_pass_0 rfl rfl ?_
  refine g_iload_n hC 1 dX8_pass_1 rfl rfl ?_
  refine g_callVv (n := 1) hC [.int a1] 0 8 (by decide) rfl rfl (fun hne => c_X8_checkDays hC.2.2.2.2.2.2.2.1 Z M a1 hne) lk_X8_65 mw_X8_checkDays.1 mw_X8_checkDays.2.1 mw_X8_checkDays.2.2.1 mw_X8_checkDays.2.2.2 ⟨rfl, by decide, by decide, by decide +kernel⟩ rfl rfl ⟨by decide, by decide⟩ rfl rfl (Nat.le_of_ble_eq_true rfl) (by decide) (by decide) (by decide) dX8_pass_2 (fun M1 => ?_)
  refine g_aload_n hC 0 dX8_pass_5 rfl rfl ?_
  refine gf_X8_12 hC dX8_pass_6 ?_
  refine gf_X8_69 hC dX8_pass_9 ?_
  refine g_iload_n hC 1 dX8_pass_12 rfl rfl ?_
  refine g_iadd hC dX8_pass_13 ?_
  refine g_sipush hC (v := 900) dX8_pass_14 (by decide) ?_
  refine g_icmp_le (tgt := 30) hC dX8_pass_17 (by decide) (fun _ => ?_) (fun _ => ?_)
  · refine g_aload_n hC 0 dX8_pass_30 rfl rfl ?_
    refine gf_X8_12 hC dX8_pass_31 ?_
    refine g_dup hC dX8_pass_34 rfl ?_
    refine gf_X8_69 hC dX8_pass_35 ?_
    refine g_iload_n hC 1 dX8_pass_38 rfl rfl ?_
    refine g_iadd hC dX8_pass_39 ?_
    refine gp_X8_69 hC dX8_pass_40 (fun M3 => ?_)
    refine g_aload_n hC 0 dX8_pass_43 rfl rfl ?_
    refine gf_X8_12 hC dX8_pass_44 ?_
    refine gf_X8_69 hC dX8_pass_47 ?_
    exact g_iret hC rfl (by decide) dX8_pass_50
  · exact g_throwS (text := "today would be too late") hC 2 (by decide) thr_c2 thr_i2 (by decide) thr_a2 thr_n2 thr_g2 (by decide) (by decide) (Nat.le_of_ble_eq_true rfl) (by decide) (by decide) (by decide) dX8_pass_20 dX8_pass_23 dX8_pass_24 dX8_pass_26 dX8_pass_29

-- ===== X8_holiday =====
def f_X8_holiday (M : gM) (a1 : Int32) : gR := (if a1 < 0 then (rThr 1 M) else (if a1 ≤ 1000 then (if a1 ≤ (M 1 0) then (rThr 2 M) else (rb (f_X0_isHoliday M a1) (fun x2 M1 => (if x2 = 0 then (if (M1 1 3) < 30 then (rb (f_X0_isFree M1 a1) (fun x4 M3 => (rb (f_X0_addHoliday M3 a1) (fun _ M5 => (if x4 = 0 then (rRet 1 M5) else (rRet 0 M5)))))) else (rThr 2 M1)) else (rThr 2 M1))))) else (rThr 1 M)))
abbrev rm_X8_holiday : Room := { frames := 6, cells := 1, slots := 6, locals := 90 }
set_option maxRecDepth 20000 in
set_option maxHeartbeats 4000000 in
theorem c_X8_holiday {l : Launch} (hfl : l.stackTraces = false) (Z : gZ) (M : gM) (a1 : Int32) : gMet l yX8_holiday cX8_holiday 3 (some .boolean) rm_X8_holiday 1 1 Z M [.ref (zad Z 0), .int a1] (f_X8_holiday M a1) := by
  refine g_enter hfl (by decide) (Nat.le_of_ble_eq_true rfl) (fun p e s m args below meth c hC => ?_)
  refine g_eq (F := f_X8_holiday M a1) rfl ?_
  refine g_lv0 (lv1 := [(0, .ref (zad Z 0)), (1, .int a1)]) rfl ?_
  unfold f_X8_holiday
  refine g_iload_n hC 1 dX8_holiday_0 rfl rfl ?_
  refine g_if_lt (tgt := 11) hC dX8_holiday_1 (by decide) (fun _ => ?_) (fun _ => ?_)
  · exact g_throwS (text := "day out of range") hC 1 (by decide) thr_c1 thr_i1 (by decide) thr_a1 thr_n1 thr_g1 (by decide) (by decide) (Nat.le_of_ble_eq_true rfl) (by decide) (by decide) (by decide) dX8_holiday_11 dX8_holiday_14 dX8_holiday_15 dX8_holiday_17 dX8_holiday_20
  · refine g_iload_n hC 1 dX8_holiday_4 rfl rfl ?_
    refine g_sipush hC (v := 1000) dX8_holiday_5 (by decide) ?_
    refine g_icmp_le (tgt := 21) hC dX8_holiday_8 (by decide) (fun _ => ?_) (fun _ => ?_)
    · refine g_iload_n hC 1 dX8_holiday_21 rfl rfl ?_
      refine g_aload_n hC 0 dX8_holiday_22 rfl rfl ?_
      refine gf_X8_12 hC dX8_holiday_23 ?_
      refine gf_X8_69 hC dX8_holiday_26 ?_
      refine g_icmp_le (tgt := 55) hC dX8_holiday_29 (by decide) (fun _ => ?_) (fun _ => ?_)
      · exact g_throwS (text := "no holiday can be made of it") hC 2 (by decide) thr_c2 thr_i2 (by decide) thr_a2 thr_n2 thr_g2 (by decide) (by decide) (Nat.le_of_ble_eq_true rfl) (by decide) (by decide) (by decide) dX8_holiday_55 dX8_holiday_58 dX8_holiday_59 dX8_holiday_61 dX8_holiday_64
      · refine g_aload_n hC 0 dX8_holiday_32 rfl rfl ?_
        refine gf_X8_12 hC dX8_holiday_33 ?_
        refine g_iload_n hC 1 dX8_holiday_36 rfl rfl ?_
        refine g_callVi (n := 1) hC [.int a1] 1 0 (by decide) rfl rfl (fun hne => c_X0_isHoliday hC.2.2.2.2.2.2.2.1 Z M a1 hne) lk_X8_85 mw_X0_isHoliday.1 mw_X0_isHoliday.2.1 mw_X0_isHoliday.2.2.1 mw_X0_isHoliday.2.2.2 ⟨rfl, by decide, by decide, by decide +kernel⟩ rfl rfl ⟨by decide, by decide⟩ rfl rfl (Nat.le_of_ble_eq_true rfl) (by decide) (by decide) (by decide) dX8_holiday_37 (fun x2 M1 => ?_)
        refine g_if_ne (tgt := 55) hC dX8_holiday_40 (by decide) (fun _ => ?_) (fun _ => ?_)
        · refine g_aload_n hC 0 dX8_holiday_43 rfl rfl ?_
          refine gf_X8_12 hC dX8_holiday_44 ?_
          refine gf_X8_89 hC dX8_holiday_47 ?_
          refine g_bipush hC (v := 30) dX8_holiday_50 (by decide) ?_
          refine g_icmp_lt (tgt := 65) hC dX8_holiday_52 (by decide) (fun _ => ?_) (fun _ => ?_)
          · refine g_aload_n hC 0 dX8_holiday_65 rfl rfl ?_
            refine gf_X8_12 hC dX8_holiday_66 ?_
            refine g_iload_n hC 1 dX8_holiday_69 rfl rfl ?_
            refine g_callVi (n := 1) hC [.int a1] 1 0 (by decide) rfl rfl (fun hne => c_X0_isFree hC.2.2.2.2.2.2.2.1 Z M1 a1 hne) lk_X8_94 mw_X0_isFree.1 mw_X0_isFree.2.1 mw_X0_isFree.2.2.1 mw_X0_isFree.2.2.2 ⟨rfl, by decide, by decide, by decide +kernel⟩ rfl rfl ⟨by decide, by decide⟩ rfl rfl (Nat.le_of_ble_eq_true rfl) (by decide) (by decide) (by decide) dX8_holiday_70 (fun x4 M3 => ?_)
            refine g_istore_n hC (lv1 := [(2, .int x4), (0, .ref (zad Z 0)), (1, .int a1)]) dX8_holiday_73 rfl (by decide) rfl ?_
            refine g_aload_n hC 1 dX8_holiday_74 rfl rfl ?_
            refine gf_X8_12 hC dX8_holiday_75 ?_
            refine g_iload_n hC 2 dX8_holiday_78 rfl rfl ?_
            refine g_callVv (n := 1) hC [.int a1] 1 0 (by decide) rfl rfl (fun hne => c_X0_addHoliday hC.2.2.2.2.2.2.2.1 Z M3 a1 hne) lk_X8_97 mw_X0_addHoliday.1 mw_X0_addHoliday.2.1 mw_X0_addHoliday.2.2.1 mw_X0_addHoliday.2.2.2 ⟨rfl, by decide, by decide, by decide +kernel⟩ rfl rfl ⟨by decide, by decide⟩ rfl rfl (Nat.le_of_ble_eq_true rfl) (by decide) (by decide) (by decide) dX8_holiday_79 (fun M5 => ?_)
            refine g_iload_n hC 0 dX8_holiday_82 rfl rfl ?_
            refine g_if_ne (tgt := 90) hC dX8_holiday_83 (by decide) (fun _ => ?_) (fun _ => ?_)
            · refine g_iconst hC (v := 1) dX8_holiday_86 (by decide) ?_
              refine g_goto (tgt := 91) hC dX8_holiday_87 (by decide) ?_
              exact g_zret1 hC rfl (by decide) dX8_holiday_91
            · refine g_iconst hC (v := 0) dX8_holiday_90 (by decide) ?_
              exact g_zret0 hC rfl (by decide) dX8_holiday_91
          · exact g_throwS (text := "no holiday can be made of it") hC 2 (by decide) thr_c2 thr_i2 (by decide) thr_a2 thr_n2 thr_g2 (by decide) (by decide) (Nat.le_of_ble_eq_true rfl) (by decide) (by decide) (by decide) dX8_holiday_55 dX8_holiday_58 dX8_holiday_59 dX8_holiday_61 dX8_holiday_64
        · exact g_throwS (text := "no holiday can be made of it") hC 2 (by decide) thr_c2 thr_i2 (by decide) thr_a2 thr_n2 thr_g2 (by decide) (by decide) (Nat.le_of_ble_eq_true rfl) (by decide) (by decide) (by decide) dX8_holiday_55 dX8_holiday_58 dX8_holiday_59 dX8_holiday_61 dX8_holiday_64
    · exact g_throwS (text := "day out of range") hC 1 (by decide) thr_c1 thr_i1 (by decide) thr_a1 thr_n1 thr_g1 (by decide) (by decide) (Nat.le_of_ble_eq_true rfl) (by decide) (by decide) (by decide) dX8_holiday_11 dX8_holiday_14 dX8_holiday_15 dX8_holiday_17 dX8_holiday_20

-- ===== X8_setRule =====
def f_X8_setRule (M : gM) (a1 : Int32) (a2 : Int32) (a3 : Int32) : gR := (if a1 < 0 then (rThr 0 M) else (if a1 < 5 then (rb (f_X8_checkDays M a2) (fun _ M1 => (gI a1 5 (bV (M1 13 a1.toNatClampNeg) (fun x3 => (gI a1 5 (bM (gset M1 13 a1.toNatClampNeg a2) (fun M4 => (gZ01 a3 (gI a1 5 (bM (gset M4 14 a1.toNatClampNeg a3) (fun M5 => (rRet x3 M5))))))))))))) else (rThr 0 M)))
abbrev rm_X8_setRule : Room := { frames := 7, cells := 1, slots := 6, locals := 111 }
set_option maxRecDepth 20000 in
set_option maxHeartbeats 4000000 in
theorem c_X8_setRule {l : Launch} (hfl : l.stackTraces = false) (Z : gZ) (M : gM) (a1 : Int32) (a2 : Int32) (a3 : Int32) : gMet l yX8_setRule cX8_setRule 5 (some .int) rm_X8_setRule 1 1 Z M [.ref (zad Z 0), .int a1, .int a2, .int a3] (f_X8_setRule M a1 a2 a3) := by
  refine g_enter hfl (by decide) (Nat.le_of_ble_eq_true rfl) (fun p e s m args below meth c hC => ?_)
  refine g_eq (F := f_X8_setRule M a1 a2 a3) rfl ?_
  refine g_lv0 (lv1 := [(0, .ref (zad Z 0)), (1, .int a1), (2, .int a2), (3, .int a3)]) rfl ?_
  unfold f_X8_setRule
  refine g_iload_n hC 1 dX8_setRule_0 rfl rfl ?_
  refine g_if_lt (tgt := 9) hC dX8_setRule_1 (by decide) (fun _ => ?_) (fun _ => ?_)
  · exact g_throwS (text := "no such rule") hC 0 (by decide) thr_c0 thr_i0 (by decide) thr_a0 thr_n0 thr_g0 (by decide) (by decide) (Nat.le_of_ble_eq_true rfl) (by decide) (by decide) (by decide) dX8_setRule_9 dX8_setRule_12 dX8_setRule_13 dX8_setRule_15 dX8_setRule_18
  · refine g_iload_n hC 1 dX8_setRule_4 rfl rfl ?_
    refine g_iconst hC (v := 5) dX8_setRule_5 (by decide) ?_
    refine g_icmp_lt (tgt := 19) hC dX8_setRule_6 (by decide) (fun _ => ?_) (fun _ => ?_)
    · refine g_aload_n hC 0 dX8_setRule_19 rfl rfl ?_
      refine g_iload_n hC 2 dX8_setRule_20 rfl rfl ?_
      refine g_callVv (n := 1) hC [.int a2] 0 8 (by decide) rfl rfl (fun hne => c_X8_checkDays hC.2.2.2.2.2.2.2.1 Z M a2 hne) lk_X8_65 mw_X8_checkDays.1 mw_X8_checkDays.2.1 mw_X8_checkDays.2.2.1 mw_X8_checkDays.2.2.2 ⟨rfl, by decide, by decide, by decide +kernel⟩ rfl rfl ⟨by decide, by decide⟩ rfl rfl (Nat.le_of_ble_eq_true rfl) (by decide) (by decide) (by decide) dX8_setRule_21 (fun M1 => ?_)
      refine g_aload_n hC 0 dX8_setRule_24 rfl rfl ?_
      refine gf_X8_12 hC dX8_setRule_25 ?_
      refine gf_X8_105 hC dX8_setRule_28 ?_
      refine g_iload_n hC 1 dX8_setRule_31 rfl rfl ?_
      refine g_iald hC 13 (by decide) rfl dX8_setRule_32 ?_
      refine g_bv (fun x3 => ?_)
      refine g_istore hC (lv1 := [(4, .int x3), (0, .ref (zad Z 0)), (1, .int a1), (2, .int a2), (3, .int a3)]) dX8_setRule_33 (by decide) rfl ?_
      refine g_aload_n hC 1 dX8_setRule_35 rfl rfl ?_
      refine gf_X8_12 hC dX8_setRule_36 ?_
      refine gf_X8_105 hC dX8_setRule_39 ?_
      refine g_iload_n hC 2 dX8_setRule_42 rfl rfl ?_
      refine g_iload_n hC 3 dX8_setRule_43 rfl rfl ?_
      refine g_iast hC 13 (by decide) rfl dX8_setRule_44 (fun M4 => ?_)
      refine g_aload_n hC 1 dX8_setRule_45 rfl rfl ?_
      refine gf_X8_12 hC dX8_setRule_46 ?_
      refine gf_X8_109 hC dX8_setRule_49 ?_
      refine g_iload_n hC 2 dX8_setRule_52 rfl rfl ?_
      refine g_iload_n hC 4 dX8_setRule_53 rfl rfl ?_
      refine g_zast hC 14 (by decide) rfl dX8_setRule_54 (fun M5 => ?_)
      refine g_iload hC 0 dX8_setRule_55 rfl ?_
      exact g_iret hC rfl (by decide) dX8_setRule_57
    · exact g_throwS (text := "no such rule") hC 0 (by decide) thr_c0 thr_i0 (by decide) thr_a0 thr_n0 thr_g0 (by decide) (by decide) (Nat.le_of_ble_eq_true rfl) (by decide) (by decide) (by decide) dX8_setRule_9 dX8_setRule_12 dX8_setRule_13 dX8_setRule_15 dX8_setRule_18

-- ===== X8_open =====
def f_X8_open (M : gM) (a1 : Int32) : gR := (if a1 < 0 then (rThr 0 M) else (if a1 < 3 then (if (M 2 0) < 8 then (rb (f_X1_add M a1) (fun x2 M1 => (rRet x2 M1))) else (rThr 2 M)) else (rThr 0 M)))
abbrev rm_X8_open : Room := { frames := 6, cells := 1, slots := 6, locals := 90 }
set_option maxRecDepth 20000 in
set_option maxHeartbeats 4000000 in
theorem c_X8_open {l : Launch} (hfl : l.stackTraces = false) (Z : gZ) (M : gM) (a1 : Int32) : gMet l yX8_open cX8_open 2 (some .int) rm_X8_open 1 1 Z M [.ref (zad Z 0), .int a1] (f_X8_open M a1) := by
  refine g_enter hfl (by decide) (Nat.le_of_ble_eq_true rfl) (fun p e s m args below meth c hC => ?_)
  refine g_eq (F := f_X8_open M a1) rfl ?_
  refine g_lv0 (lv1 := [(0, .ref (zad Z 0)), (1, .int a1)]) rfl ?_
  unfold f_X8_open
  refine g_iload_n hC 1 dX8_open_0 rfl rfl ?_
  refine g_if_lt (tgt := 9) hC dX8_open_1 (by decide) (fun _ => ?_) (fun _ => ?_)
  · exact g_throwS (text := "no such judge") hC 0 (by decide) thr_c0 thr_i0 (by decide) thr_a0 thr_n0 thr_g0 (by decide) (by decide) (Nat.le_of_ble_eq_true rfl) (by decide) (by decide) (by decide) dX8_open_9 dX8_open_12 dX8_open_13 dX8_open_15 dX8_open_18
  · refine g_iload_n hC 1 dX8_open_4 rfl rfl ?_
    refine g_iconst hC (v := 3) dX8_open_5 (by decide) ?_
    refine g_icmp_lt (tgt := 19) hC dX8_open_6 (by decide) (fun _ => ?_) (fun _ => ?_)
    · refine g_aload_n hC 0 dX8_open_19 rfl rfl ?_
      refine gf_X8_19 hC dX8_open_20 ?_
      refine gf_X8_115 hC dX8_open_23 ?_
      refine g_bipush hC (v := 8) dX8_open_26 (by decide) ?_
      refine g_icmp_lt (tgt := 41) hC dX8_open_28 (by decide) (fun _ => ?_) (fun _ => ?_)
      · refine g_aload_n hC 0 dX8_open_41 rfl rfl ?_
        refine gf_X8_19 hC dX8_open_42 ?_
        refine g_iload_n hC 1 dX8_open_45 rfl rfl ?_
        refine g_callVi (n := 1) hC [.int a1] 2 1 (by decide) rfl rfl (fun hne => c_X1_add hC.2.2.2.2.2.2.2.1 Z M a1 hne) lk_X8_120 mw_X1_add.1 mw_X1_add.2.1 mw_X1_add.2.2.1 mw_X1_add.2.2.2 ⟨rfl, by decide, by decide, by decide +kernel⟩ rfl rfl ⟨by decide, by decide⟩ rfl rfl (Nat.le_of_ble_eq_true rfl) (by decide) (by decide) (by decide) dX8_open_46 (fun x2 M1 => ?_)
        exact g_iret hC rfl (by decide) dX8_open_49
      · exact g_throwS (text := "too many cases") hC 2 (by decide) thr_c2 thr_i2 (by decide) thr_a2 thr_n2 thr_g2 (by decide) (by decide) (Nat.le_of_ble_eq_true rfl) (by decide) (by decide) (by decide) dX8_open_31 dX8_open_34 dX8_open_35 dX8_open_37 dX8_open_40
    · exact g_throwS (text := "no such judge") hC 0 (by decide) thr_c0 thr_i0 (by decide) thr_a0 thr_n0 thr_g0 (by decide) (by decide) (Nat.le_of_ble_eq_true rfl) (by decide) (by decide) (by decide) dX8_open_9 dX8_open_12 dX8_open_13 dX8_open_15 dX8_open_18

-- ===== X8_checkCase =====
def f_X8_checkCase (M : gM) (a1 : Int32) : gR := (if a1 < 0 then (rThr 0 M) else (if a1 < (M 2 0) then (rRet 0 M) else (rThr 0 M)))
abbrev rm_X8_checkCase : Room := { frames := 6, cells := 1, slots := 6, locals := 90 }
set_option maxRecDepth 20000 in
set_option maxHeartbeats 4000000 in
theorem c_X8_checkCase {l : Launch} (hfl : l.stackTraces = false) (Z : gZ) (M : gM) (a1 : Int32) : gMet l yX8_checkCase cX8_checkCase 2 none rm_X8_checkCase 0 1 Z M [.ref (zad Z 0), .int a1] (f_X8_checkCase M a1) := by
  refine g_enter hfl (by decide) (Nat.le_of_ble_eq_true rfl) (fun p e s m args below meth c hC => ?_)
  refine g_eq (F := f_X8_checkCase M a1) rfl ?_
  refine g_lv0 (lv1 := [(0, .ref (zad Z 0)), (1, .int a1)]) rfl ?_
  unfold f_X8_checkCase
  refine g_iload_n hC 1 dX8_checkCase_0 rfl rfl ?_
  refine g_if_lt (tgt := 15) hC dX8_checkCase_1 (by decide) (fun _ => ?_) (fun _ => ?_)
  · exact g_throwSW (text := "no such case") hC 0 (by decide) thr_c0 thr_i0 (by decide) thr_a0 thr_n0 thr_g0 (by decide) (by decide) (Nat.le_of_ble_eq_true rfl) (by decide) (by decide) (by decide) dX8_checkCase_15 dX8_checkCase_18 dX8_checkCase_19 dX8_checkCase_22 dX8_checkCase_25
  · refine g_iload_n hC 1 dX8_checkCase_4 rfl rfl ?_
    refine g_aload_n hC 0 dX8_checkCase_5 rfl rfl ?_
    refine gf_X8_19 hC dX8_checkCase_6 ?_
    refine gf_X8_115 hC dX8_checkCase_9 ?_
    refine g_icmp_lt (tgt := 26) hC dX8_checkCase_12 (by decide) (fun _ => ?_) (fun _ => ?_)
    · exact g_vret hC rfl (by decide) dX8_checkCase_26
    · exact g_throwSW (text := "no such case") hC 0 (by decide) thr_c0 thr_i0 (by decide) thr_a0 thr_n0 thr_g0 (by decide) (by decide) (Nat.le_of_ble_eq_true rfl) (by decide) (by decide) (by decide) dX8_checkCase_15 dX8_checkCase_18 dX8_checkCase_19 dX8_checkCase_22 dX8_checkCase_25

-- ===== X8_checkPerson =====
def f_X8_checkPerson (M : gM) (a1 : Int32) : gR := (if a1 < 0 then (rThr 0 M) else (if a1 < 16 then (rRet 0 M) else (rThr 0 M)))
abbrev rm_X8_checkPerson : Room := { frames := 6, cells := 1, slots := 6, locals := 90 }
set_option maxRecDepth 20000 in
set_option maxHeartbeats 4000000 in
theorem c_X8_checkPerson {l : Launch} (hfl : l.stackTraces = false) (Z : gZ) (M : gM) (a1 : Int32) : gMet l yX8_checkPerson cX8_checkPerson 2 none rm_X8_checkPerson 0 1 Z M [.ref (zad Z 0), .int a1] (f_X8_checkPerson M a1) := by
  refine g_enter hfl (by decide) (Nat.le_of_ble_eq_true rfl) (fun p e s m args below meth c hC => ?_)
  refine g_eq (F := f_X8_checkPerson M a1) rfl ?_
  refine g_lv0 (lv1 := [(0, .ref (zad Z 0)), (1, .int a1)]) rfl ?_
  unfold f_X8_checkPerson
  refine g_iload_n hC 1 dX8_checkPerson_0 rfl rfl ?_
  refine g_if_lt (tgt := 10) hC dX8_checkPerson_1 (by decide) (fun _ => ?_) (fun _ => ?_)
  · exact g_throwSW (text := "no such person") hC 0 (by decide) thr_c0 thr_i0 (by decide) thr_a0 thr_n0 thr_g0 (by decide) (by decide) (Nat.le_of_ble_eq_true rfl) (by decide) (by decide) (by decide) dX8_checkPerson_10 dX8_checkPerson_13 dX8_checkPerson_14 dX8_checkPerson_17 dX8_checkPerson_20
  · refine g_iload_n hC 1 dX8_checkPerson_4 rfl rfl ?_
    refine g_bipush hC (v := 16) dX8_checkPerson_5 (by decide) ?_
    refine g_icmp_lt (tgt := 21) hC dX8_checkPerson_7 (by decide) (fun _ => ?_) (fun _ => ?_)
    · exact g_vret hC rfl (by decide) dX8_checkPerson_21
    · exact g_throwSW (text := "no such person") hC 0 (by decide) thr_c0 thr_i0 (by decide) thr_a0 thr_n0 thr_g0 (by decide) (by decide) (Nat.le_of_ble_eq_true rfl) (by decide) (by decide) (by decide) dX8_checkPerson_10 dX8_checkPerson_13 dX8_checkPerson_14 dX8_checkPerson_17 dX8_checkPerson_20

-- ===== X8_checkSide =====
def f_X8_checkSide (M : gM) (a1 : Int32) : gR := (if a1 < 0 then (rThr 0 M) else (if a1 < 2 then (rRet 0 M) else (rThr 0 M)))
abbrev rm_X8_checkSide : Room := { frames := 6, cells := 1, slots := 6, locals := 90 }
set_option maxRecDepth 20000 in
set_option maxHeartbeats 4000000 in
theorem c_X8_checkSide {l : Launch} (hfl : l.stackTraces = false) (Z : gZ) (M : gM) (a1 : Int32) : gMet l yX8_checkSide cX8_checkSide 2 none rm_X8_checkSide 0 1 Z M [.ref (zad Z 0), .int a1] (f_X8_checkSide M a1) := by
  refine g_enter hfl (by decide) (Nat.le_of_ble_eq_true rfl) (fun p e s m args below meth c hC => ?_)
  refine g_eq (F := f_X8_checkSide M a1) rfl ?_
  refine g_lv0 (lv1 := [(0, .ref (zad Z 0)), (1, .int a1)]) rfl ?_
  unfold f_X8_checkSide
  refine g_iload_n hC 1 dX8_checkSide_0 rfl rfl ?_
  refine g_if_lt (tgt := 9) hC dX8_checkSide_1 (by decide) (fun _ => ?_) (fun _ => ?_)
  · exact g_throwSW (text := "no such side") hC 0 (by decide) thr_c0 thr_i0 (by decide) thr_a0 thr_n0 thr_g0 (by decide) (by decide) (Nat.le_of_ble_eq_true rfl) (by decide) (by decide) (by decide) dX8_checkSide_9 dX8_checkSide_12 dX8_checkSide_13 dX8_checkSide_16 dX8_checkSide_19
  · refine g_iload_n hC 1 dX8_checkSide_4 rfl rfl ?_
    refine g_iconst hC (v := 2) dX8_checkSide_5 (by decide) ?_
    refine g_icmp_lt (tgt := 20) hC dX8_checkSide_6 (by decide) (fun _ => ?_) (fun _ => ?_)
    · exact g_vret hC rfl (by decide) dX8_checkSide_20
    · exact g_throwSW (text := "no such side") hC 0 (by decide) thr_c0 thr_i0 (by decide) thr_a0 thr_n0 thr_g0 (by decide) (by decide) (Nat.le_of_ble_eq_true rfl) (by decide) (by decide) (by decide) dX8_checkSide_9 dX8_checkSide_12 dX8_checkSide_13 dX8_checkSide_16 dX8_checkSide_19

-- ===== X8_join =====
def f_X8_join (M : gM) (a1 : Int32) (a2 : Int32) (a3 : Int32) : gR := (rb (f_X8_checkCase M a1) (fun _ M1 => (rb (f_X8_checkPerson M1 a2) (fun _ M3 => (rb (f_X8_checkSide M3 a3) (fun _ M5 => (rb (f_X1_isParty M5 a1 a2) (fun x8 M7 => (if x8 = 0 then (rb (f_X1_addParty M7 a1 a2 a3 (M7 1 0)) (fun _ M9 => (gI a1 8 (rRet (M9 27 a1.toNatClampNeg) M9)))) else (rThr 2 M7))))))))))
abbrev rm_X8_join : Room := { frames := 7, cells := 4, slots := 24, locals := 111 }
set_option maxRecDepth 20000 in
set_option maxHeartbeats 4000000 in
theorem c_X8_join {l : Launch} (hfl : l.stackTraces = false) (Z : gZ) (M : gM) (a1 : Int32) (a2 : Int32) (a3 : Int32) : gMet l yX8_join cX8_join 4 (some .int) rm_X8_join 1 4 Z M [.ref (zad Z 0), .int a1, .int a2, .int a3] (f_X8_join M a1 a2 a3) := by
  refine g_enter hfl (by decide) (Nat.le_of_ble_eq_true rfl) (fun p e s m args below meth c hC => ?_)
  refine g_eq (F := f_X8_join M a1 a2 a3) rfl ?_
  refine g_lv0 (lv1 := [(0, .ref (zad Z 0)), (1, .int a1), (2, .int a2), (3, .int a3)]) rfl ?_
  unfold f_X8_join
  refine g_aload_n hC 0 dX8_join_0 rfl rfl ?_
  refine g_iload_n hC 1 dX8_join_1 rfl rfl ?_
  refine g_callVv (n := 1) hC [.int a1] 0 8 (by decide) rfl rfl (fun hne => c_X8_checkCase hC.2.2.2.2.2.2.2.1 Z M a1 hne) lk_X8_124 mw_X8_checkCase.1 mw_X8_checkCase.2.1 mw_X8_checkCase.2.2.1 mw_X8_checkCase.2.2.2 ⟨rfl, by decide, by decide, by decide +kernel⟩ rfl rfl ⟨by decide, by decide⟩ rfl rfl (Nat.le_of_ble_eq_true rfl) (by decide) (by decide) (by decide) dX8_join_2 (fun M1 => ?_)
  refine g_aload_n hC 0 dX8_join_5 rfl rfl ?_
  refine g_iload_n hC 2 dX8_join_6 rfl rfl ?_
  refine g_callVv (n := 1) hC [.int a2] 0 8 (by decide) rfl rfl (fun hne => c_X8_checkPerson hC.2.2.2.2.2.2.2.1 Z M1 a2 hne) lk_X8_127 mw_X8_checkPerson.1 mw_X8_checkPerson.2.1 mw_X8_checkPerson.2.2.1 mw_X8_checkPerson.2.2.2 ⟨rfl, by decide, by decide, by decide +kernel⟩ rfl rfl ⟨by decide, by decide⟩ rfl rfl (Nat.le_of_ble_eq_true rfl) (by decide) (by decide) (by decide) dX8_join_7 (fun M3 => ?_)
  refine g_aload_n hC 0 dX8_join_10 rfl rfl ?_
  refine g_iload_n hC 3 dX8_join_11 rfl rfl ?_
  refine g_callVv (n := 1) hC [.int a3] 0 8 (by decide) rfl rfl (fun hne => c_X8_checkSide hC.2.2.2.2.2.2.2.1 Z M3 a3 hne) lk_X8_130 mw_X8_checkSide.1 mw_X8_checkSide.2.1 mw_X8_checkSide.2.2.1 mw_X8_checkSide.2.2.2 ⟨rfl, by decide, by decide, by decide +kernel⟩ rfl rfl ⟨by decide, by decide⟩ rfl rfl (Nat.le_of_ble_eq_true rfl) (by decide) (by decide) (by decide) dX8_join_12 (fun M5 => ?_)
  refine g_aload_n hC 0 dX8_join_15 rfl rfl ?_
  refine gf_X8_19 hC dX8_join_16 ?_
  refine g_iload_n hC 1 dX8_join_19 rfl rfl ?_
  refine g_iload_n hC 2 dX8_join_20 rfl rfl ?_
  refine g_callVi (n := 2) hC [.int a1, .int a2] 2 1 (by decide) rfl rfl (fun hne => c_X1_isParty hC.2.2.2.2.2.2.2.1 Z M5 a1 a2 hne) lk_X8_133 mw_X1_isParty.1 mw_X1_isParty.2.1 mw_X1_isParty.2.2.1 mw_X1_isParty.2.2.2 ⟨rfl, by decide, by decide, by decide +kernel⟩ rfl rfl ⟨by decide, by decide⟩ rfl rfl (Nat.le_of_ble_eq_true rfl) (by decide) (by decide) (by decide) dX8_join_21 (fun x8 M7 => ?_)
  refine g_if_eq (tgt := 37) hC dX8_join_24 (by decide) (fun _ => ?_) (fun _ => ?_)
  · refine g_aload_n hC 0 dX8_join_37 rfl rfl ?_
    refine gf_X8_19 hC dX8_join_38 ?_
    refine g_iload_n hC 1 dX8_join_41 rfl rfl ?_
    refine g_iload_n hC 2 dX8_join_42 rfl rfl ?_
    refine g_iload_n hC 3 dX8_join_43 rfl rfl ?_
    refine g_aload_n hC 0 dX8_join_44 rfl rfl ?_
    refine gf_X8_12 hC dX8_join_45 ?_
    refine gf_X8_69 hC dX8_join_48 ?_
    refine g_callVv (n := 4) hC [.int a1, .int a2, .int a3, .int (M7 1 0)] 2 1 (by decide) rfl rfl (fun hne => c_X1_addParty hC.2.2.2.2.2.2.2.1 Z M7 a1 a2 a3 (M7 1 0) hne) lk_X8_139 mw_X1_addParty.1 mw_X1_addParty.2.1 mw_X1_addParty.2.2.1 mw_X1_addParty.2.2.2 ⟨rfl, by decide, by decide, by decide +kernel⟩ rfl rfl ⟨by decide, by decide⟩ rfl rfl (Nat.le_of_ble_eq_true rfl) (by decide) (by decide) (by decide) dX8_join_51 (fun M9 => ?_)
    refine g_aload_n hC 0 dX8_join_54 rfl rfl ?_
    refine gf_X8_19 hC dX8_join_55 ?_
    refine gf_X8_143 hC dX8_join_58 ?_
    refine g_iload_n hC 1 dX8_join_61 rfl rfl ?_
    refine g_iald hC 27 (by decide) rfl dX8_join_62 ?_
    exact g_iret hC rfl (by decide) dX8_join_63
  · exact g_throwS (text := "a party already") hC 2 (by decide) thr_c2 thr_i2 (by decide) thr_a2 thr_n2 thr_g2 (by decide) (by decide) (Nat.le_of_ble_eq_true rfl) (by decide) (by decide) (by decide) dX8_join_27 dX8_join_30 dX8_join_31 dX8_join_33 dX8_join_36

-- ===== X8_lead =====
def f_X8_lead_b54  (M : gM) (a1 : Int32) (a2 : Int32)  : gR := (gI a1 8 (bV (M 26 a1.toNatClampNeg) (fun x1 => (gI a1 8 (bM (gset M 26 a1.toNatClampNeg a2) (fun M2 => (rRet x1 M2)))))))
def f_X8_lead (M : gM) (a1 : Int32) (a2 : Int32) : gR := (rb (f_X8_checkCase M a1) (fun _ M3 => (if a2 = (-1) then (f_X8_lead_b54  M3 a1 a2 ) else (rb (f_X8_checkCase M3 a2) (fun _ M5 => (if a2 = a1 then (rThr 2 M5) else (rb (f_X1_leadsOthers M5 a1) (fun x8 M7 => (if x8 = 0 then (gI a2 8 (if (M7 26 a2.toNatClampNeg) = (-1) then (f_X8_lead_b54  M7 a1 a2 ) else (rThr 2 M7))) else (rThr 2 M7))))))))))
abbrev rm_X8_lead : Room := { frames := 7, cells := 3, slots := 18, locals := 111 }
set_option maxRecDepth 20000 in
set_option maxHeartbeats 4000000 in
theorem g_X8_lead_b54 {p : Program} {l : Launch} {e : Env} {s : State} {m : MethodId} {args : Array Value} {below : List Frame} {meth : Method} {c : Code} {Z : gZ} (hC : gC p l s m args meth c cX8_lead 4 RX8 (some .int) Z)   (M : gM) (a1 : Int32) (a2 : Int32)  : gW p l e rm_X8_lead s m args below meth c 4 Z 1 3 2 M 54 [(0, .ref (zad Z 0)), (1, .int a1), (2, .int a2)] [] (f_X8_lead_b54  M a1 a2 ) := by
  unfold f_X8_lead_b54
  refine g_aload_n hC 0 dX8_lead_54 rfl rfl ?_
  refine gf_X8_19 hC dX8_lead_55 ?_
  refine gf_X8_149 hC dX8_lead_58 ?_
  refine g_iload_n hC 1 dX8_lead_61 rfl rfl ?_
  refine g_iald hC 26 (by decide) rfl dX8_lead_62 ?_
  refine g_bv (fun x1 => ?_)
  refine g_istore_n hC (lv1 := [(3, .int x1), (0, .ref (zad Z 0)), (1, .int a1), (2, .int a2)]) dX8_lead_63 rfl (by decide) rfl ?_
  refine g_aload_n hC 1 dX8_lead_64 rfl rfl ?_
  refine gf_X8_19 hC dX8_lead_65 ?_
  refine gf_X8_149 hC dX8_lead_68 ?_
  refine g_iload_n hC 2 dX8_lead_71 rfl rfl ?_
  refine g_iload_n hC 3 dX8_lead_72 rfl rfl ?_
  refine g_iast hC 26 (by decide) rfl dX8_lead_73 (fun M2 => ?_)
  refine g_iload_n hC 0 dX8_lead_74 rfl rfl ?_
  exact g_iret hC rfl (by decide) dX8_lead_75
set_option maxRecDepth 20000 in
set_option maxHeartbeats 4000000 in
theorem c_X8_lead {l : Launch} (hfl : l.stackTraces = false) (Z : gZ) (M : gM) (a1 : Int32) (a2 : Int32) : gMet l yX8_lead cX8_lead 4 (some .int) rm_X8_lead 1 3 Z M [.ref (zad Z 0), .int a1, .int a2] (f_X8_lead M a1 a2) := by
  refine g_enter hfl (by decide) (Nat.le_of_ble_eq_true rfl) (fun p e s m args below meth c hC => ?_)
  refine g_eq (F := f_X8_lead M a1 a2) rfl ?_
  refine g_lv0 (lv1 := [(0, .ref (zad Z 0)), (1, .int a1), (2, .int a2)]) rfl ?_
  unfold f_X8_lead
  refine g_aload_n hC 0 dX8_lead_0 rfl rfl ?_
  refine g_iload_n hC 1 dX8_lead_1 rfl rfl ?_
  refine g_callVv (n := 1) hC [.int a1] 0 8 (by decide) rfl rfl (fun hne => c_X8_checkCase hC.2.2.2.2.2.2.2.1 Z M a1 hne) lk_X8_124 mw_X8_checkCase.1 mw_X8_checkCase.2.1 mw_X8_checkCase.2.2.1 mw_X8_checkCase.2.2.2 ⟨rfl, by decide, by decide, by decide +kernel⟩ rfl rfl ⟨by decide, by decide⟩ rfl rfl (Nat.le_of_ble_eq_true rfl) (by decide) (by decide) (by decide) dX8_lead_2 (fun M3 => ?_)
  refine g_iload_n hC 2 dX8_lead_5 rfl rfl ?_
  refine g_iconst hC (v := (-1)) dX8_lead_6 (by decide) ?_
  refine g_icmp_eq (tgt := 54) hC dX8_lead_7 (by decide) (fun _ => ?_) (fun _ => ?_)
  · refine g_widen (k1 := 2) (by decide) ?_
    exact g_X8_lead_b54 hC  M3 a1 a2 
  · refine g_aload_n hC 0 dX8_lead_10 rfl rfl ?_
    refine g_iload_n hC 2 dX8_lead_11 rfl rfl ?_
    refine g_callVv (n := 1) hC [.int a2] 0 8 (by decide) rfl rfl (fun hne => c_X8_checkCase hC.2.2.2.2.2.2.2.1 Z M3 a2 hne) lk_X8_124 mw_X8_checkCase.1 mw_X8_checkCase.2.1 mw_X8_checkCase.2.2.1 mw_X8_checkCase.2.2.2 ⟨rfl, by decide, by decide, by decide +kernel⟩ rfl rfl ⟨by decide, by decide⟩ rfl rfl (Nat.le_of_ble_eq_true rfl) (by decide) (by decide) (by decide) dX8_lead_12 (fun M5 => ?_)
    refine g_iload_n hC 2 dX8_lead_15 rfl rfl ?_
    refine g_iload_n hC 1 dX8_lead_16 rfl rfl ?_
    refine g_icmp_eq (tgt := 44) hC dX8_lead_17 (by decide) (fun _ => ?_) (fun _ => ?_)
    · exact g_throwS (text := "it cannot be led by that one") hC 2 (by decide) thr_c2 thr_i2 (by decide) thr_a2 thr_n2 thr_g2 (by decide) (by decide) (Nat.le_of_ble_eq_true rfl) (by decide) (by decide) (by decide) dX8_lead_44 dX8_lead_47 dX8_lead_48 dX8_lead_50 dX8_lead_53
    · refine g_aload_n hC 0 dX8_lead_20 rfl rfl ?_
      refine gf_X8_19 hC dX8_lead_21 ?_
      refine g_iload_n hC 1 dX8_lead_24 rfl rfl ?_
      refine g_callVi (n := 1) hC [.int a1] 2 1 (by decide) rfl rfl (fun hne => c_X1_leadsOthers hC.2.2.2.2.2.2.2.1 Z M5 a1 hne) lk_X8_146 mw_X1_leadsOthers.1 mw_X1_leadsOthers.2.1 mw_X1_leadsOthers.2.2.1 mw_X1_leadsOthers.2.2.2 ⟨rfl, by decide, by decide, by decide +kernel⟩ rfl rfl ⟨by decide, by decide⟩ rfl rfl (Nat.le_of_ble_eq_true rfl) (by decide) (by decide) (by decide) dX8_lead_25 (fun x8 M7 => ?_)
      refine g_if_ne (tgt := 44) hC dX8_lead_28 (by decide) (fun _ => ?_) (fun _ => ?_)
      · refine g_aload_n hC 0 dX8_lead_31 rfl rfl ?_
        refine gf_X8_19 hC dX8_lead_32 ?_
        refine gf_X8_149 hC dX8_lead_35 ?_
        refine g_iload_n hC 2 dX8_lead_38 rfl rfl ?_
        refine g_iald hC 26 (by decide) rfl dX8_lead_39 ?_
        refine g_iconst hC (v := (-1)) dX8_lead_40 (by decide) ?_
        refine g_icmp_eq (tgt := 54) hC dX8_lead_41 (by decide) (fun _ => ?_) (fun _ => ?_)
        · exact g_X8_lead_b54 hC  M7 a1 a2
        · exact g_throwS (text := "it cannot be led by that one") hC 2 (by decide) thr_c2 thr_i2 (by decide) thr_a2 thr_n2 thr_g2 (by decide) (by decide) (Nat.le_of_ble_eq_true rfl) (by decide) (by decide) (by decide) dX8_lead_44 dX8_lead_47 dX8_lead_48 dX8_lead_50 dX8_lead_53
      · exact g_throwS (text := "it cannot be led by that one") hC 2 (by decide) thr_c2 thr_i2 (by decide) thr_a2 thr_n2 thr_g2 (by decide) (by decide) (Nat.le_of_ble_eq_true rfl) (by decide) (by decide) (by decide) dX8_lead_44 dX8_lead_47 dX8_lead_48 dX8_lead_50 dX8_lead_53

-- ===== X8_checkAmount =====
def f_X8_checkAmount (M : gM) (a1 : Int32) (a2 : Int32) : gR := (if a1 < 1 then (rThr 1 M) else (if a1 ≤ a2 then (rRet 0 M) else (rThr 1 M)))
abbrev rm_X8_checkAmount : Room := { frames := 6, cells := 1, slots := 6, locals := 90 }
set_option maxRecDepth 20000 in
set_option maxHeartbeats 4000000 in
theorem c_X8_checkAmount {l : Launch} (hfl : l.stackTraces = false) (Z : gZ) (M : gM) (a1 : Int32) (a2 : Int32) : gMet l yX8_checkAmount cX8_checkAmount 3 none rm_X8_checkAmount 0 1 Z M [.ref (zad Z 0), .int a1, .int a2] (f_X8_checkAmount M a1 a2) := by
  refine g_enter hfl (by decide) (Nat.le_of_ble_eq_true rfl) (fun p e s m args below meth c hC => ?_)
  refine g_eq (F := f_X8_checkAmount M a1 a2) rfl ?_
  refine g_lv0 (lv1 := [(0, .ref (zad Z 0)), (1, .int a1), (2, .int a2)]) rfl ?_
  unfold f_X8_checkAmount
  refine g_iload_n hC 1 dX8_checkAmount_0 rfl rfl ?_
  refine g_iconst hC (v := 1) dX8_checkAmount_1 (by decide) ?_
  refine g_icmp_lt (tgt := 10) hC dX8_checkAmount_2 (by decide) (fun _ => ?_) (fun _ => ?_)
  · exact g_throwS (text := "amount out of range") hC 1 (by decide) thr_c1 thr_i1 (by decide) thr_a1 thr_n1 thr_g1 (by decide) (by decide) (Nat.le_of_ble_eq_true rfl) (by decide) (by decide) (by decide) dX8_checkAmount_10 dX8_checkAmount_13 dX8_checkAmount_14 dX8_checkAmount_16 dX8_checkAmount_19
  · refine g_iload_n hC 1 dX8_checkAmount_5 rfl rfl ?_
    refine g_iload_n hC 2 dX8_checkAmount_6 rfl rfl ?_
    refine g_icmp_le (tgt := 20) hC dX8_checkAmount_7 (by decide) (fun _ => ?_) (fun _ => ?_)
    · exact g_vret hC rfl (by decide) dX8_checkAmount_20
    · exact g_throwS (text := "amount out of range") hC 1 (by decide) thr_c1 thr_i1 (by decide) thr_a1 thr_n1 thr_g1 (by decide) (by decide) (Nat.le_of_ble_eq_true rfl) (by decide) (by decide) (by decide) dX8_checkAmount_10 dX8_checkAmount_13 dX8_checkAmount_14 dX8_checkAmount_16 dX8_checkAmount_19

-- ===== X8_claim =====
def f_X8_claim (M : gM) (a1 : Int32) (a2 : Int32) (a3 : Int32) (a4 : Int32) : gR := (rb (f_X8_checkCase M a1) (fun _ M1 => (rb (f_X8_checkPerson M1 a2) (fun _ M3 => (rb (f_X8_checkPerson M3 a3) (fun _ M5 => (rb (f_X8_checkAmount M5 a4 99999) (fun _ M7 => (rb (f_X1_areOpposed M7 a1 a2 a3) (fun x10 M9 => (if x10 = 0 then (rThr 2 M9) else (if (M9 3 0) < 24 then (rb (f_X2_add M9 a1 a2 a3 a4) (fun x12 M11 => (rRet x12 M11))) else (rThr 2 M9)))))))))))))
abbrev rm_X8_claim : Room := { frames := 7, cells := 5, slots := 30, locals := 112 }
set_option maxRecDepth 20000 in
set_option maxHeartbeats 4000000 in
theorem c_X8_claim {l : Launch} (hfl : l.stackTraces = false) (Z : gZ) (M : gM) (a1 : Int32) (a2 : Int32) (a3 : Int32) (a4 : Int32) : gMet l yX8_claim cX8_claim 5 (some .int) rm_X8_claim 1 5 Z M [.ref (zad Z 0), .int a1, .int a2, .int a3, .int a4] (f_X8_claim M a1 a2 a3 a4) := by
  refine g_enter hfl (by decide) (Nat.le_of_ble_eq_true rfl) (fun p e s m args below meth c hC => ?_)
  refine g_eq (F := f_X8_claim M a1 a2 a3 a4) rfl ?_
  refine g_lv0 (lv1 := [(0, .ref (zad Z 0)), (1, .int a1), (2, .int a2), (3, .int a3), (4, .int a4)]) rfl ?_
  unfold f_X8_claim
  refine g_aload_n hC 0 dX8_claim_0 rfl rfl ?_
  refine g_iload_n hC 1 dX8_claim_1 rfl rfl ?_
  refine g_callVv (n := 1) hC [.int a1] 0 8 (by decide) rfl rfl (fun hne => c_X8_checkCase hC.2.2.2.2.2.2.2.1 Z M a1 hne) lk_X8_124 mw_X8_checkCase.1 mw_X8_checkCase.2.1 mw_X8_checkCase.2.2.1 mw_X8_checkCase.2.2.2 ⟨rfl, by decide, by decide, by decide +kernel⟩ rfl rfl ⟨by decide, by decide⟩ rfl rfl (Nat.le_of_ble_eq_true rfl) (by decide) (by decide) (by decide) dX8_claim_2 (fun M1 => ?_)
  refine g_aload_n hC 0 dX8_claim_5 rfl rfl ?_
  refine g_iload_n hC 2 dX8_claim_6 rfl rfl ?_
  refine g_callVv (n := 1) hC [.int a2] 0 8 (by decide) rfl rfl (fun hne => c_X8_checkPerson hC.2.2.2.2.2.2.2.1 Z M1 a2 hne) lk_X8_127 mw_X8_checkPerson.1 mw_X8_checkPerson.2.1 mw_X8_checkPerson.2.2.1 mw_X8_checkPerson.2.2.2 ⟨rfl, by decide, by decide, by decide +kernel⟩ rfl rfl ⟨by decide, by decide⟩ rfl rfl (Nat.le_of_ble_eq_true rfl) (by decide) (by decide) (by decide) dX8_claim_7 (fun M3 => ?_)
  refine g_aload_n hC 0 dX8_claim_10 rfl rfl ?_
  refine g_iload_n hC 3 dX8_claim_11 rfl rfl ?_
  refine g_callVv (n := 1) hC [.int a3] 0 8 (by decide) rfl rfl (fun hne => c_X8_checkPerson hC.2.2.2.2.2.2.2.1 Z M3 a3 hne) lk_X8_127 mw_X8_checkPerson.1 mw_X8_checkPerson.2.1 mw_X8_checkPerson.2.2.1 mw_X8_checkPerson.2.2.2 ⟨rfl, by decide, by decide, by decide +kernel⟩ rfl rfl ⟨by decide, by decide⟩ rfl rfl (Nat.le_of_ble_eq_true rfl) (by decide) (by decide) (by decide) dX8_claim_12 (fun M5 => ?_)
  refine g_aload_n hC 0 dX8_claim_15 rfl rfl ?_
  refine g_iload hC 4 dX8_claim_16 rfl ?_
  refine g_ldc hC (v := 99999) (gIn (by decide +kernel) (by decide +kernel)) dX8_claim_18 ?_
  refine g_callVv (n := 2) hC [.int a4, .int 99999] 0 8 (by decide) rfl rfl (fun hne => c_X8_checkAmount hC.2.2.2.2.2.2.2.1 Z M5 a4 99999 hne) lk_X8_155 mw_X8_checkAmount.1 mw_X8_checkAmount.2.1 mw_X8_checkAmount.2.2.1 mw_X8_checkAmount.2.2.2 ⟨rfl, by decide, by decide, by decide +kernel⟩ rfl rfl ⟨by decide, by decide⟩ rfl rfl (Nat.le_of_ble_eq_true rfl) (by decide) (by decide) (by decide) dX8_claim_20 (fun M7 => ?_)
  refine g_aload_n hC 0 dX8_claim_23 rfl rfl ?_
  refine gf_X8_19 hC dX8_claim_24 ?_
  refine g_iload_n hC 1 dX8_claim_27 rfl rfl ?_
  refine g_iload_n hC 2 dX8_claim_28 rfl rfl ?_
  refine g_iload_n hC 3 dX8_claim_29 rfl rfl ?_
  refine g_callVi (n := 3) hC [.int a1, .int a2, .int a3] 2 1 (by decide) rfl rfl (fun hne => c_X1_areOpposed hC.2.2.2.2.2.2.2.1 Z M7 a1 a2 a3 hne) lk_X8_159 mw_X1_areOpposed.1 mw_X1_areOpposed.2.1 mw_X1_areOpposed.2.2.1 mw_X1_areOpposed.2.2.2 ⟨rfl, by decide, by decide, by decide +kernel⟩ rfl rfl ⟨by decide, by decide⟩ rfl rfl (Nat.le_of_ble_eq_true rfl) (by decide) (by decide) (by decide) dX8_claim_30 (fun x10 M9 => ?_)
  refine g_if_eq (tgt := 48) hC dX8_claim_33 (by decide) (fun _ => ?_) (fun _ => ?_)
  · exact g_throwS (text := "no such claim can be made") hC 2 (by decide) thr_c2 thr_i2 (by decide) thr_a2 thr_n2 thr_g2 (by decide) (by decide) (Nat.le_of_ble_eq_true rfl) (by decide) (by decide) (by decide) dX8_claim_48 dX8_claim_51 dX8_claim_52 dX8_claim_54 dX8_claim_57
  · refine g_aload_n hC 0 dX8_claim_36 rfl rfl ?_
    refine gf_X8_26 hC dX8_claim_37 ?_
    refine gf_X8_163 hC dX8_claim_40 ?_
    refine g_bipush hC (v := 24) dX8_claim_43 (by decide) ?_
    refine g_icmp_lt (tgt := 58) hC dX8_claim_45 (by decide) (fun _ => ?_) (fun _ => ?_)
    · refine g_aload_n hC 0 dX8_claim_58 rfl rfl ?_
      refine gf_X8_26 hC dX8_claim_59 ?_
      refine g_iload_n hC 1 dX8_claim_62 rfl rfl ?_
      refine g_iload_n hC 2 dX8_claim_63 rfl rfl ?_
      refine g_iload_n hC 3 dX8_claim_64 rfl rfl ?_
      refine g_iload hC 4 dX8_claim_65 rfl ?_
      refine g_callVi (n := 4) hC [.int a1, .int a2, .int a3, .int a4] 3 2 (by decide) rfl rfl (fun hne => c_X2_add hC.2.2.2.2.2.2.2.1 Z M9 a1 a2 a3 a4 hne) lk_X8_166 mw_X2_add.1 mw_X2_add.2.1 mw_X2_add.2.2.1 mw_X2_add.2.2.2 ⟨rfl, by decide, by decide, by decide +kernel⟩ rfl rfl ⟨by decide, by decide⟩ rfl rfl (Nat.le_of_ble_eq_true rfl) (by decide) (by decide) (by decide) dX8_claim_67 (fun x12 M11 => ?_)
      exact g_iret hC rfl (by decide) dX8_claim_70
    · exact g_throwS (text := "no such claim can be made") hC 2 (by decide) thr_c2 thr_i2 (by decide) thr_a2 thr_n2 thr_g2 (by decide) (by decide) (Nat.le_of_ble_eq_true rfl) (by decide) (by decide) (by decide) dX8_claim_48 dX8_claim_51 dX8_claim_52 dX8_claim_54 dX8_claim_57

-- ===== X8_checkClaim =====
def f_X8_checkClaim (M : gM) (a1 : Int32) : gR := (if a1 < 0 then (rThr 0 M) else (if a1 < (M 3 0) then (rRet 0 M) else (rThr 0 M)))
abbrev rm_X8_checkClaim : Room := { frames := 6, cells := 1, slots := 6, locals := 90 }
set_option maxRecDepth 20000 in
set_option maxHeartbeats 4000000 in
theorem c_X8_checkClaim {l : Launch} (hfl : l.stackTraces = false) (Z : gZ) (M : gM) (a1 : Int32) : gMet l yX8_checkClaim cX8_checkClaim 2 none rm_X8_checkClaim 0 1 Z M [.ref (zad Z 0), .int a1] (f_X8_checkClaim M a1) := by
  refine g_enter hfl (by decide) (Nat.le_of_ble_eq_true rfl) (fun p e s m args below meth c hC => ?_)
  refine g_eq (F := f_X8_checkClaim M a1) rfl ?_
  refine g_lv0 (lv1 := [(0, .ref (zad Z 0)), (1, .int a1)]) rfl ?_
  unfold f_X8_checkClaim
  refine g_iload_n hC 1 dX8_checkClaim_0 rfl rfl ?_
  refine g_if_lt (tgt := 15) hC dX8_checkClaim_1 (by decide) (fun _ => ?_) (fun _ => ?_)
  · exact g_throwSW (text := "no such claim") hC 0 (by decide) thr_c0 thr_i0 (by decide) thr_a0 thr_n0 thr_g0 (by decide) (by decide) (Nat.le_of_ble_eq_true rfl) (by decide) (by decide) (by decide) dX8_checkClaim_15 dX8_checkClaim_18 dX8_checkClaim_19 dX8_checkClaim_22 dX8_checkClaim_25
  · refine g_iload_n hC 1 dX8_checkClaim_4 rfl rfl ?_
    refine g_aload_n hC 0 dX8_checkClaim_5 rfl rfl ?_
    refine gf_X8_26 hC dX8_checkClaim_6 ?_
    refine gf_X8_163 hC dX8_checkClaim_9 ?_
    refine g_icmp_lt (tgt := 26) hC dX8_checkClaim_12 (by decide) (fun _ => ?_) (fun _ => ?_)
    · exact g_vret hC rfl (by decide) dX8_checkClaim_26
    · exact g_throwSW (text := "no such claim") hC 0 (by decide) thr_c0 thr_i0 (by decide) thr_a0 thr_n0 thr_g0 (by decide) (by decide) (Nat.le_of_ble_eq_true rfl) (by decide) (by decide) (by decide) dX8_checkClaim_15 dX8_checkClaim_18 dX8_checkClaim_19 dX8_checkClaim_22 dX8_checkClaim_25

-- ===== X8_sever =====
def f_X8_sever (M : gM) (a1 : Int32) : gR := (rb (f_X8_checkClaim M a1) (fun _ M1 => (rb (f_X2_isEnded M1 a1) (fun x4 M3 => (if x4 = 0 then (if (M3 2 0) < 8 then (gI a1 24 (bV (M3 47 a1.toNatClampNeg) (fun x5 => (gI a1 24 (bV (M3 48 a1.toNatClampNeg) (fun x6 => (gI a1 24 (bV (M3 49 a1.toNatClampNeg) (fun x7 => (gI x5 8 (rb (f_X1_add M3 (M3 25 x5.toNatClampNeg)) (fun x9 M8 => (gI x5 8 (gI x6 16 (rb (f_X1_addParty M8 x9 x6 (M8 29 (x5.toNatClampNeg * 16 + x6.toNatClampNeg)) (M8 1 0)) (fun _ M11 => (gI x5 8 (gI x7 16 (rb (f_X1_addParty M11 x9 x7 (M11 29 (x5.toNatClampNeg * 16 + x7.toNatClampNeg)) (M11 1 0)) (fun _ M14 => (gI a1 24 (bM (gset M14 47 a1.toNatClampNeg x9) (fun M16 => (rRet x9 M16)))))))))))))))))))))))) else (rThr 2 M3)) else (rThr 2 M3))))))
abbrev rm_X8_sever : Room := { frames := 7, cells := 2, slots := 12, locals := 111 }
set_option maxRecDepth 20000 in
set_option maxHeartbeats 4000000 in
theorem c_X8_sever {l : Launch} (hfl : l.stackTraces = false) (Z : gZ) (M : gM) (a1 : Int32) : gMet l yX8_sever cX8_sever 6 (some .int) rm_X8_sever 1 2 Z M [.ref (zad Z 0), .int a1] (f_X8_sever M a1) := by
  refine g_enter hfl (by decide) (Nat.le_of_ble_eq_true rfl) (fun p e s m args below meth c hC => ?_)
  refine g_eq (F := f_X8_sever M a1) rfl ?_
  refine g_lv0 (lv1 := [(0, .ref (zad Z 0)), (1, .int a1)]) rfl ?_
  unfold f_X8_sever
  refine g_aload_n hC 0 dX8_sever_0 rfl rfl ?_
  refine g_iload_n hC 1 dX8_sever_1 rfl rfl ?_
  refine g_callVv (n := 1) hC [.int a1] 0 8 (by decide) rfl rfl (fun hne => c_X8_checkClaim hC.2.2.2.2.2.2.2.1 Z M a1 hne) lk_X8_169 mw_X8_checkClaim.1 mw_X8_checkClaim.2.1 mw_X8_checkClaim.2.2.1 mw_X8_checkClaim.2.2.2 ⟨rfl, by decide, by decide, by decide +kernel⟩ rfl rfl ⟨by decide, by decide⟩ rfl rfl (Nat.le_of_ble_eq_true rfl) (by decide) (by decide) (by decide) dX8_sever_2 (fun M1 => ?_)
  refine g_aload_n hC 0 dX8_sever_5 rfl rfl ?_
  refine gf_X8_26 hC dX8_sever_6 ?_
  refine g_iload_n hC 1 dX8_sever_9 rfl rfl ?_
  refine g_callVi (n := 1) hC [.int a1] 3 2 (by decide) rfl rfl (fun hne => c_X2_isEnded hC.2.2.2.2.2.2.2.1 Z M1 a1 hne) lk_X8_172 mw_X2_isEnded.1 mw_X2_isEnded.2.1 mw_X2_isEnded.2.2.1 mw_X2_isEnded.2.2.2 ⟨rfl, by decide, by decide, by decide +kernel⟩ rfl rfl ⟨by decide, by decide⟩ rfl rfl (Nat.le_of_ble_eq_true rfl) (by decide) (by decide) (by decide) dX8_sever_10 (fun x4 M3 => ?_)
  refine g_if_ne (tgt := 28) hC dX8_sever_13 (by decide) (fun _ => ?_) (fun _ => ?_)
  · refine g_aload_n hC 0 dX8_sever_16 rfl rfl ?_
    refine gf_X8_19 hC dX8_sever_17 ?_
    refine gf_X8_115 hC dX8_sever_20 ?_
    refine g_bipush hC (v := 8) dX8_sever_23 (by decide) ?_
    refine g_icmp_lt (tgt := 38) hC dX8_sever_25 (by decide) (fun _ => ?_) (fun _ => ?_)
    · refine g_aload_n hC 0 dX8_sever_38 rfl rfl ?_
      refine gf_X8_26 hC dX8_sever_39 ?_
      refine gf_X8_177 hC dX8_sever_42 ?_
      refine g_iload_n hC 1 dX8_sever_45 rfl rfl ?_
      refine g_iald hC 47 (by decide) rfl dX8_sever_46 ?_
      refine g_bv (fun x5 => ?_)
      refine g_istore_n hC (lv1 := [(2, .int x5), (0, .ref (zad Z 0)), (1, .int a1)]) dX8_sever_47 rfl (by decide) rfl ?_
      refine g_aload_n hC 1 dX8_sever_48 rfl rfl ?_
      refine gf_X8_26 hC dX8_sever_49 ?_
      refine gf_X8_180 hC dX8_sever_52 ?_
      refine g_iload_n hC 2 dX8_sever_55 rfl rfl ?_
      refine g_iald hC 48 (by decide) rfl dX8_sever_56 ?_
      refine g_bv (fun x6 => ?_)
      refine g_istore_n hC (lv1 := [(3, .int x6), (2, .int x5), (0, .ref (zad Z 0)), (1, .int a1)]) dX8_sever_57 rfl (by decide) rfl ?_
      refine g_aload_n hC 2 dX8_sever_58 rfl rfl ?_
      refine gf_X8_26 hC dX8_sever_59 ?_
      refine gf_X8_183 hC dX8_sever_62 ?_
      refine g_iload_n hC 3 dX8_sever_65 rfl rfl ?_
      refine g_iald hC 49 (by decide) rfl dX8_sever_66 ?_
      refine g_bv (fun x7 => ?_)
      refine g_istore hC (lv1 := [(4, .int x7), (3, .int x6), (2, .int x5), (0, .ref (zad Z 0)), (1, .int a1)]) dX8_sever_67 (by decide) rfl ?_
      refine g_aload_n hC 3 dX8_sever_69 rfl rfl ?_
      refine gf_X8_19 hC dX8_sever_70 ?_
      refine g_aload_n hC 3 dX8_sever_73 rfl rfl ?_
      refine gf_X8_19 hC dX8_sever_74 ?_
      refine gf_X8_186 hC dX8_sever_77 ?_
      refine g_iload_n hC 2 dX8_sever_80 rfl rfl ?_
      refine g_iald hC 25 (by decide) rfl dX8_sever_81 ?_
      refine g_callVi (n := 1) hC [.int (M3 25 x5.toNatClampNeg)] 2 1 (by decide) rfl rfl (fun hne => c_X1_add hC.2.2.2.2.2.2.2.1 Z M3 (M3 25 x5.toNatClampNeg) hne) lk_X8_120 mw_X1_add.1 mw_X1_add.2.1 mw_X1_add.2.2.1 mw_X1_add.2.2.2 ⟨rfl, by decide, by decide, by decide +kernel⟩ rfl rfl ⟨by decide, by decide⟩ rfl rfl (Nat.le_of_ble_eq_true rfl) (by decide) (by decide) (by decide) dX8_sever_82 (fun x9 M8 => ?_)
      refine g_istore hC (lv1 := [(5, .int x9), (4, .int x7), (3, .int x6), (2, .int x5), (0, .ref (zad Z 0)), (1, .int a1)]) dX8_sever_85 (by decide) rfl ?_
      refine g_aload_n hC 4 dX8_sever_87 rfl rfl ?_
      refine gf_X8_19 hC dX8_sever_88 ?_
      refine g_iload hC 0 dX8_sever_91 rfl ?_
      refine g_iload_n hC 2 dX8_sever_93 rfl rfl ?_
      refine g_aload_n hC 4 dX8_sever_94 rfl rfl ?_
      refine gf_X8_19 hC dX8_sever_95 ?_
      refine gf_X8_189 hC dX8_sever_98 ?_
      refine g_iload_n hC 3 dX8_sever_101 rfl rfl ?_
      refine g_aald hC 29 (by decide) rfl dX8_sever_102 (fun hr10 => ?_)
      refine g_iload_n hC 2 dX8_sever_103 rfl rfl ?_
      refine g_raldv hC 30 29 8 16 grid_29 hr10 dX8_sever_104 ?_
      refine g_aload_n hC 4 dX8_sever_105 rfl rfl ?_
      refine gf_X8_12 hC dX8_sever_106 ?_
      refine gf_X8_69 hC dX8_sever_109 ?_
      refine g_callVv (n := 4) hC [.int x9, .int x6, .int (M8 29 (x5.toNatClampNeg * 16 + x6.toNatClampNeg)), .int (M8 1 0)] 2 1 (by decide) rfl rfl (fun hne => c_X1_addParty hC.2.2.2.2.2.2.2.1 Z M8 x9 x6 (M8 29 (x5.toNatClampNeg * 16 + x6.toNatClampNeg)) (M8 1 0) hne) lk_X8_139 mw_X1_addParty.1 mw_X1_addParty.2.1 mw_X1_addParty.2.2.1 mw_X1_addParty.2.2.2 ⟨rfl, by decide, by decide, by decide +kernel⟩ rfl rfl ⟨by decide, by decide⟩ rfl rfl (Nat.le_of_ble_eq_true rfl) (by decide) (by decide) (by decide) dX8_sever_112 (fun M11 => ?_)
      refine g_aload_n hC 4 dX8_sever_115 rfl rfl ?_
      refine gf_X8_19 hC dX8_sever_116 ?_
      refine g_iload hC 0 dX8_sever_119 rfl ?_
      refine g_iload hC 1 dX8_sever_121 rfl ?_
      refine g_aload_n hC 4 dX8_sever_123 rfl rfl ?_
      refine gf_X8_19 hC dX8_sever_124 ?_
      refine gf_X8_189 hC dX8_sever_127 ?_
      refine g_iload_n hC 3 dX8_sever_130 rfl rfl ?_
      refine g_aald hC 29 (by decide) rfl dX8_sever_131 (fun hr13 => ?_)
      refine g_iload hC 1 dX8_sever_132 rfl ?_
      refine g_raldv hC 30 29 8 16 grid_29 hr13 dX8_sever_134 ?_
      refine g_aload_n hC 4 dX8_sever_135 rfl rfl ?_
      refine gf_X8_12 hC dX8_sever_136 ?_
      refine gf_X8_69 hC dX8_sever_139 ?_
      refine g_callVv (n := 4) hC [.int x9, .int x7, .int (M11 29 (x5.toNatClampNeg * 16 + x7.toNatClampNeg)), .int (M11 1 0)] 2 1 (by decide) rfl rfl (fun hne => c_X1_addParty hC.2.2.2.2.2.2.2.1 Z M11 x9 x7 (M11 29 (x5.toNatClampNeg * 16 + x7.toNatClampNeg)) (M11 1 0) hne) lk_X8_139 mw_X1_addParty.1 mw_X1_addParty.2.1 mw_X1_addParty.2.2.1 mw_X1_addParty.2.2.2 ⟨rfl, by decide, by decide, by decide +kernel⟩ rfl rfl ⟨by decide, by decide⟩ rfl rfl (Nat.le_of_ble_eq_true rfl) (by decide) (by decide) (by decide) dX8_sever_142 (fun M14 => ?_)
      refine g_aload_n hC 4 dX8_sever_145 rfl rfl ?_
      refine gf_X8_26 hC dX8_sever_146 ?_
      refine gf_X8_177 hC dX8_sever_149 ?_
      refine g_iload_n hC 5 dX8_sever_152 rfl rfl ?_
      refine g_iload hC 0 dX8_sever_153 rfl ?_
      refine g_iast hC 47 (by decide) rfl dX8_sever_155 (fun M16 => ?_)
      refine g_iload hC 0 dX8_sever_156 rfl ?_
      exact g_iret hC rfl (by decide) dX8_sever_158
    · exact g_throwS (text := "it cannot be severed") hC 2 (by decide) thr_c2 thr_i2 (by decide) thr_a2 thr_n2 thr_g2 (by decide) (by decide) (Nat.le_of_ble_eq_true rfl) (by decide) (by decide) (by decide) dX8_sever_28 dX8_sever_31 dX8_sever_32 dX8_sever_34 dX8_sever_37
  · exact g_throwS (text := "it cannot be severed") hC 2 (by decide) thr_c2 thr_i2 (by decide) thr_a2 thr_n2 thr_g2 (by decide) (by decide) (Nat.le_of_ble_eq_true rfl) (by decide) (by decide) (by decide) dX8_sever_28 dX8_sever_31 dX8_sever_32 dX8_sever_34 dX8_sever_37

-- ===== X8_isServed =====
def f_X8_isServed (M : gM) (a1 : Int32) : gR := (rb (f_X3_latest M 0 a1) (fun x2 M1 => (if x2 = (-1) then (rRet 0 M1) else (rRet 1 M1))))
abbrev rm_X8_isServed : Room := { frames := 1, cells := 0, slots := 0, locals := 23 }
set_option maxRecDepth 20000 in
set_option maxHeartbeats 4000000 in
theorem c_X8_isServed {l : Launch} (hfl : l.stackTraces = false) (Z : gZ) (M : gM) (a1 : Int32) : gMet l yX8_isServed cX8_isServed 2 (some .boolean) rm_X8_isServed 1 0 Z M [.ref (zad Z 0), .int a1] (f_X8_isServed M a1) := by
  refine g_enter hfl (by decide) (Nat.le_of_ble_eq_true rfl) (fun p e s m args below meth c hC => ?_)
  refine g_eq (F := f_X8_isServed M a1) rfl ?_
  refine g_lv0 (lv1 := [(0, .ref (zad Z 0)), (1, .int a1)]) rfl ?_
  unfold f_X8_isServed
  refine g_aload_n hC 0 dX8_isServed_0 rfl rfl ?_
  refine gf_X8_33 hC dX8_isServed_1 ?_
  refine g_iconst hC (v := 0) dX8_isServed_4 (by decide) ?_
  refine g_iload_n hC 1 dX8_isServed_5 rfl rfl ?_
  refine g_callVi (n := 2) hC [.int 0, .int a1] 4 3 (by decide) rfl rfl (fun hne => c_X3_latest hC.2.2.2.2.2.2.2.1 Z M 0 a1 hne) lk_X8_280 mw_X3_latest.1 mw_X3_latest.2.1 mw_X3_latest.2.2.1 mw_X3_latest.2.2.2 ⟨rfl, by decide, by decide, by decide +kernel⟩ rfl rfl ⟨by decide, by decide⟩ rfl rfl (Nat.le_of_ble_eq_true rfl) (by decide) (by decide) (by decide) dX8_isServed_6 (fun x2 M1 => ?_)
  refine g_iconst hC (v := (-1)) dX8_isServed_9 (by decide) ?_
  refine g_icmp_eq (tgt := 17) hC dX8_isServed_10 (by decide) (fun _ => ?_) (fun _ => ?_)
  · refine g_iconst hC (v := 0) dX8_isServed_17 (by decide) ?_
    exact g_zret0 hC rfl (by decide) dX8_isServed_18
  · refine g_iconst hC (v := 1) dX8_isServed_13 (by decide) ?_
    refine g_goto (tgt := 18) hC dX8_isServed_14 (by decide) ?_
    exact g_zret1 hC rfl (by decide) dX8_isServed_18

-- ===== X8_allow =====
def f_X8_allow (M : gM) (a1 : Int32) : gR := (if a1 = 0 then (rThr 2 M) else (if (M 4 0) < 160 then (rRet 0 M) else (rThr 2 M)))
abbrev rm_X8_allow : Room := { frames := 6, cells := 1, slots := 6, locals := 90 }
set_option maxRecDepth 20000 in
set_option maxHeartbeats 4000000 in
theorem c_X8_allow {l : Launch} (hfl : l.stackTraces = false) (Z : gZ) (M : gM) (a1 : Int32) : gMet l yX8_allow cX8_allow 2 none rm_X8_allow 0 1 Z M [.ref (zad Z 0), .int a1] (f_X8_allow M a1) := by
  refine g_enter hfl (by decide) (Nat.le_of_ble_eq_true rfl) (fun p e s m args below meth c hC => ?_)
  refine g_eq (F := f_X8_allow M a1) rfl ?_
  refine g_lv0 (lv1 := [(0, .ref (zad Z 0)), (1, .int a1)]) rfl ?_
  unfold f_X8_allow
  refine g_iload_n hC 1 dX8_allow_0 rfl rfl ?_
  refine g_if_eq (tgt := 17) hC dX8_allow_1 (by decide) (fun _ => ?_) (fun _ => ?_)
  · exact g_throwSW (text := "no such entry can be made") hC 2 (by decide) thr_c2 thr_i2 (by decide) thr_a2 thr_n2 thr_g2 (by decide) (by decide) (Nat.le_of_ble_eq_true rfl) (by decide) (by decide) (by decide) dX8_allow_17 dX8_allow_20 dX8_allow_21 dX8_allow_24 dX8_allow_27
  · refine g_aload_n hC 0 dX8_allow_4 rfl rfl ?_
    refine gf_X8_33 hC dX8_allow_5 ?_
    refine gf_X8_457 hC dX8_allow_8 ?_
    refine g_sipush hC (v := 160) dX8_allow_11 (by decide) ?_
    refine g_icmp_lt (tgt := 28) hC dX8_allow_14 (by decide) (fun _ => ?_) (fun _ => ?_)
    · exact g_vret hC rfl (by decide) dX8_allow_28
    · exact g_throwSW (text := "no such entry can be made") hC 2 (by decide) thr_c2 thr_i2 (by decide) thr_a2 thr_n2 thr_g2 (by decide) (by decide) (Nat.le_of_ble_eq_true rfl) (by decide) (by decide) (by decide) dX8_allow_17 dX8_allow_20 dX8_allow_21 dX8_allow_24 dX8_allow_27

-- ===== X8_ruleOf =====
def f_X8_ruleOf (M : gM) (a0 : Int32) : gR := (if a0 = 0 then (rRet 0 M) else (if a0 = 1 then (rRet (-1) M) else (if a0 = 2 then (rRet 1 M) else (if a0 = 3 then (rRet (-1) M) else (if a0 = 4 then (rRet 3 M) else (if a0 = 5 then (rRet 2 M) else (if a0 = 6 then (rRet 3 M) else (if a0 = 7 then (rRet (-1) M) else (if a0 = 8 then (rRet 2 M) else (rRet (-1) M))))))))))
abbrev rm_X8_ruleOf : Room := { frames := 0, cells := 0, slots := 0, locals := 0 }
set_option maxRecDepth 20000 in
set_option maxHeartbeats 4000000 in
theorem c_X8_ruleOf {l : Launch} (hfl : l.stackTraces = false) (Z : gZ) (M : gM) (a0 : Int32) : gMet l yX8_ruleOf cX8_ruleOf 1 (some .int) rm_X8_ruleOf 1 0 Z M [.int a0] (f_X8_ruleOf M a0) := by
  refine g_enter hfl (by decide) (Nat.le_of_ble_eq_true rfl) (fun p e s m args below meth c hC => ?_)
  refine g_eq (F := f_X8_ruleOf M a0) rfl ?_
  refine g_lv0 (lv1 := [(0, .int a0)]) rfl ?_
  unfold f_X8_ruleOf
  refine g_iload_n hC 0 dX8_ruleOf_0 rfl rfl ?_
  refine g_if (fun hx0 => ?_) (fun hx0 => ?_)
  · refine g_swIn (tgt := 52) hC 0 hx0 dX8_ruleOf_1 (by decide) (by decide) rfl (by decide) ?_
    refine g_iconst hC (v := 0) dX8_ruleOf_52 (by decide) ?_
    exact g_iret hC rfl (by decide) dX8_ruleOf_53
  · skip
    refine g_if (fun hx1 => ?_) (fun hx1 => ?_)
    · refine g_swIn (tgt := 60) hC 1 hx1 dX8_ruleOf_1 (by decide) (by decide) rfl (by decide) ?_
      refine g_iconst hC (v := (-1)) dX8_ruleOf_60 (by decide) ?_
      exact g_iret hC rfl (by decide) dX8_ruleOf_61
    · skip
      refine g_if (fun hx2 => ?_) (fun hx2 => ?_)
      · refine g_swIn (tgt := 54) hC 2 hx2 dX8_ruleOf_1 (by decide) (by decide) rfl (by decide) ?_
        refine g_iconst hC (v := 1) dX8_ruleOf_54 (by decide) ?_
        exact g_iret hC rfl (by decide) dX8_ruleOf_55
      · skip
        refine g_if (fun hx3 => ?_) (fun hx3 => ?_)
        · refine g_swIn (tgt := 60) hC 3 hx3 dX8_ruleOf_1 (by decide) (by decide) rfl (by decide) ?_
          refine g_iconst hC (v := (-1)) dX8_ruleOf_60 (by decide) ?_
          exact g_iret hC rfl (by decide) dX8_ruleOf_61
        · skip
          refine g_if (fun hx4 => ?_) (fun hx4 => ?_)
          · refine g_swIn (tgt := 58) hC 4 hx4 dX8_ruleOf_1 (by decide) (by decide) rfl (by decide) ?_
            refine g_iconst hC (v := 3) dX8_ruleOf_58 (by decide) ?_
            exact g_iret hC rfl (by decide) dX8_ruleOf_59
          · skip
            refine g_if (fun hx5 => ?_) (fun hx5 => ?_)
            · refine g_swIn (tgt := 56) hC 5 hx5 dX8_ruleOf_1 (by decide) (by decide) rfl (by decide) ?_
              refine g_iconst hC (v := 2) dX8_ruleOf_56 (by decide) ?_
              exact g_iret hC rfl (by decide) dX8_ruleOf_57
            · skip
              refine g_if (fun hx6 => ?_) (fun hx6 => ?_)
              · refine g_swIn (tgt := 58) hC 6 hx6 dX8_ruleOf_1 (by decide) (by decide) rfl (by decide) ?_
                refine g_iconst hC (v := 3) dX8_ruleOf_58 (by decide) ?_
                exact g_iret hC rfl (by decide) dX8_ruleOf_59
              · skip
                refine g_if (fun hx7 => ?_) (fun hx7 => ?_)
                · refine g_swIn (tgt := 60) hC 7 hx7 dX8_ruleOf_1 (by decide) (by decide) rfl (by decide) ?_
                  refine g_iconst hC (v := (-1)) dX8_ruleOf_60 (by decide) ?_
                  exact g_iret hC rfl (by decide) dX8_ruleOf_61
                · skip
                  refine g_if (fun hx8 => ?_) (fun hx8 => ?_)
                  · refine g_swIn (tgt := 56) hC 8 hx8 dX8_ruleOf_1 (by decide) (by decide) rfl (by decide) ?_
                    refine g_iconst hC (v := 2) dX8_ruleOf_56 (by decide) ?_
                    exact g_iret hC rfl (by decide) dX8_ruleOf_57
                  · skip
                    refine g_swOut (tgt := 60) hC (gSwOut a0 0 9 (by decide) (by decide) (fun j hj => by
                      match j, hj with
                      | 0, _ => exact hx0
                      | 1, _ => exact hx1
                      | 2, _ => exact hx2
                      | 3, _ => exact hx3
                      | 4, _ => exact hx4
                      | 5, _ => exact hx5
                      | 6, _ => exact hx6
                      | 7, _ => exact hx7
                      | 8, _ => exact hx8
                      | n + 9, h => exact absurd h (by omega))) dX8_ruleOf_1 (by decide) ?_
                    refine g_iconst hC (v := (-1)) dX8_ruleOf_60 (by decide) ?_
                    exact g_iret hC rfl (by decide) dX8_ruleOf_61

-- ===== X8_enter =====
def f_X8_enter_b70  (M : gM) (a1 : Int32) (a5 : Int32)  : gR := (rb (f_X8_ruleOf M a1) (fun x2 M1 => (if x2 = (-1) then (rRet a5 M1) else (gI x2 5 (gI a5 160 (bM (gset M1 63 a5.toNatClampNeg (M1 13 x2.toNatClampNeg)) (fun M3 => (gI x2 5 (gZ01 (M3 14 x2.toNatClampNeg) (gI a5 160 (bM (gset M3 64 a5.toNatClampNeg (M3 14 x2.toNatClampNeg)) (fun M4 => (rRet a5 M4)))))))))))))
def f_X8_enter_b51  (M : gM) (a1 : Int32) (a2 : Int32) (a5 : Int32)  : gR := (gI a2 24 (gI a5 160 (bM (gset M 60 a5.toNatClampNeg (M 50 a2.toNatClampNeg)) (fun M5 => (f_X8_enter_b70  M5 a1 a5 )))))
def f_X8_enter (M : gM) (a1 : Int32) (a2 : Int32) (a3 : Int32) (a4 : Int32) : gR := (rb (f_X3_add M a1 (M 1 0) a2) (fun x7 M6 => (gI x7 160 (bM (gset M6 58 x7.toNatClampNeg a3) (fun M8 => (gI x7 160 (bM (gset M8 59 x7.toNatClampNeg a4) (fun M9 => (if a1 = 4 then (f_X8_enter_b51  M9 a1 a2 x7 ) else (if a1 = 5 then (f_X8_enter_b51  M9 a1 a2 x7 ) else (f_X8_enter_b70  M9 a1 x7 )))))))))))
abbrev rm_X8_enter : Room := { frames := 1, cells := 0, slots := 0, locals := 24 }
set_option maxRecDepth 20000 in
set_option maxHeartbeats 4000000 in
theorem g_X8_enter_b70 {p : Program} {l : Launch} {e : Env} {s : State} {m : MethodId} {args : Array Value} {below : List Frame} {meth : Method} {c : Code} {Z : gZ} (hC : gC p l s m args meth c cX8_enter 7 RX8 (some .int) Z)   (M : gM) (a1 : Int32) (a5 : Int32)  : gW p l e rm_X8_enter s m args below meth c 7 Z 1 0 0 M 70 [(0, .ref (zad Z 0)), (1, .int a1), (5, .int a5)] [] (f_X8_enter_b70  M a1 a5 ) := by
  unfold f_X8_enter_b70
  refine g_iload_n hC 1 dX8_enter_70 rfl rfl ?_
  refine g_callSi (n := 1) hC [.int a1] (fun hne => c_X8_ruleOf hC.2.2.2.2.2.2.2.1 Z M a1 hne) lk_X8_507 mw_X8_ruleOf.1 mw_X8_ruleOf.2.1 mw_X8_ruleOf.2.2 ⟨by decide, by decide, by decide +kernel⟩ rfl rfl ⟨by decide, by decide⟩ rfl rfl (Nat.le_of_ble_eq_true rfl) (by decide) (by decide) (by decide) dX8_enter_71 (fun x2 M1 => ?_)
  refine g_istore hC (lv1 := [(6, .int x2), (0, .ref (zad Z 0)), (1, .int a1), (5, .int a5)]) dX8_enter_74 (by decide) rfl ?_
  refine g_iload hC 0 dX8_enter_76 rfl ?_
  refine g_iconst hC (v := (-1)) dX8_enter_78 (by decide) ?_
  refine g_icmp_eq (tgt := 122) hC dX8_enter_79 (by decide) (fun _ => ?_) (fun _ => ?_)
  · refine g_iload hC 3 dX8_enter_122 rfl ?_
    exact g_iret hC rfl (by decide) dX8_enter_124
  · refine g_aload_n hC 1 dX8_enter_82 rfl rfl ?_
    refine gf_X8_33 hC dX8_enter_83 ?_
    refine gf_X8_208 hC dX8_enter_86 ?_
    refine g_iload hC 3 dX8_enter_89 rfl ?_
    refine g_aload_n hC 1 dX8_enter_91 rfl rfl ?_
    refine gf_X8_12 hC dX8_enter_92 ?_
    refine gf_X8_105 hC dX8_enter_95 ?_
    refine g_iload hC 0 dX8_enter_98 rfl ?_
    refine g_iald hC 13 (by decide) rfl dX8_enter_100 ?_
    refine g_iast hC 63 (by decide) rfl dX8_enter_101 (fun M3 => ?_)
    refine g_aload_n hC 1 dX8_enter_102 rfl rfl ?_
    refine gf_X8_33 hC dX8_enter_103 ?_
    refine gf_X8_479 hC dX8_enter_106 ?_
    refine g_iload hC 3 dX8_enter_109 rfl ?_
    refine g_aload_n hC 1 dX8_enter_111 rfl rfl ?_
    refine gf_X8_12 hC dX8_enter_112 ?_
    refine gf_X8_109 hC dX8_enter_115 ?_
    refine g_iload hC 0 dX8_enter_118 rfl ?_
    refine g_zald hC 14 (by decide) rfl dX8_enter_120 ?_
    refine g_zast hC 64 (by decide) rfl dX8_enter_121 (fun M4 => ?_)
    refine g_iload hC 3 dX8_enter_122 rfl ?_
    exact g_iret hC rfl (by decide) dX8_enter_124
set_option maxRecDepth 20000 in
set_option maxHeartbeats 4000000 in
theorem g_X8_enter_b51 {p : Program} {l : Launch} {e : Env} {s : State} {m : MethodId} {args : Array Value} {below : List Frame} {meth : Method} {c : Code} {Z : gZ} (hC : gC p l s m args meth c cX8_enter 7 RX8 (some .int) Z)   (M : gM) (a1 : Int32) (a2 : Int32) (a5 : Int32)  : gW p l e rm_X8_enter s m args below meth c 7 Z 1 0 0 M 51 [(0, .ref (zad Z 0)), (1, .int a1), (2, .int a2), (5, .int a5)] [] (f_X8_enter_b51  M a1 a2 a5 ) := by
  unfold f_X8_enter_b51
  refine g_aload_n hC 0 dX8_enter_51 rfl rfl ?_
  refine gf_X8_33 hC dX8_enter_52 ?_
  refine gf_X8_264 hC dX8_enter_55 ?_
  refine g_iload hC 3 dX8_enter_58 rfl ?_
  refine g_aload_n hC 0 dX8_enter_60 rfl rfl ?_
  refine gf_X8_26 hC dX8_enter_61 ?_
  refine gf_X8_235 hC dX8_enter_64 ?_
  refine g_iload_n hC 2 dX8_enter_67 rfl rfl ?_
  refine g_iald hC 50 (by decide) rfl dX8_enter_68 ?_
  refine g_iast hC 60 (by decide) rfl dX8_enter_69 (fun M5 => ?_)
  refine g_sub (lv1 := [(0, .ref (zad Z 0)), (1, .int a1), (5, .int a5)]) [0, 1, 3] rfl ?_
  exact g_X8_enter_b70 hC  M5 a1 a5 
set_option maxRecDepth 20000 in
set_option maxHeartbeats 4000000 in
theorem c_X8_enter {l : Launch} (hfl : l.stackTraces = false) (Z : gZ) (M : gM) (a1 : Int32) (a2 : Int32) (a3 : Int32) (a4 : Int32) : gMet l yX8_enter cX8_enter 7 (some .int) rm_X8_enter 1 0 Z M [.ref (zad Z 0), .int a1, .int a2, .int a3, .int a4] (f_X8_enter M a1 a2 a3 a4) := by
  refine g_enter hfl (by decide) (Nat.le_of_ble_eq_true rfl) (fun p e s m args below meth c hC => ?_)
  refine g_eq (F := f_X8_enter M a1 a2 a3 a4) rfl ?_
  refine g_lv0 (lv1 := [(0, .ref (zad Z 0)), (1, .int a1), (2, .int a2), (3, .int a3), (4, .int a4)]) rfl ?_
  unfold f_X8_enter
  refine g_aload_n hC 0 dX8_enter_0 rfl rfl ?_
  refine gf_X8_33 hC dX8_enter_1 ?_
  refine g_iload_n hC 1 dX8_enter_4 rfl rfl ?_
  refine g_aload_n hC 0 dX8_enter_5 rfl rfl ?_
  refine gf_X8_12 hC dX8_enter_6 ?_
  refine gf_X8_69 hC dX8_enter_9 ?_
  refine g_iload_n hC 2 dX8_enter_12 rfl rfl ?_
  refine g_callVi (n := 3) hC [.int a1, .int (M 1 0), .int a2] 4 3 (by decide) rfl rfl (fun hne => c_X3_add hC.2.2.2.2.2.2.2.1 Z M a1 (M 1 0) a2 hne) lk_X8_506 mw_X3_add.1 mw_X3_add.2.1 mw_X3_add.2.2.1 mw_X3_add.2.2.2 ⟨rfl, by decide, by decide, by decide +kernel⟩ rfl rfl ⟨by decide, by decide⟩ rfl rfl (Nat.le_of_ble_eq_true rfl) (by decide) (by decide) (by decide) dX8_enter_13 (fun x7 M6 => ?_)
  refine g_istore hC (lv1 := [(5, .int x7), (0, .ref (zad Z 0)), (1, .int a1), (2, .int a2), (3, .int a3), (4, .int a4)]) dX8_enter_16 (by decide) rfl ?_
  refine g_aload_n hC 1 dX8_enter_18 rfl rfl ?_
  refine gf_X8_33 hC dX8_enter_19 ?_
  refine gf_X8_458 hC dX8_enter_22 ?_
  refine g_iload hC 0 dX8_enter_25 rfl ?_
  refine g_iload_n hC 4 dX8_enter_27 rfl rfl ?_
  refine g_iast hC 58 (by decide) rfl dX8_enter_28 (fun M8 => ?_)
  refine g_aload_n hC 1 dX8_enter_29 rfl rfl ?_
  refine gf_X8_33 hC dX8_enter_30 ?_
  refine gf_X8_461 hC dX8_enter_33 ?_
  refine g_iload hC 0 dX8_enter_36 rfl ?_
  refine g_iload hC 5 dX8_enter_38 rfl ?_
  refine g_iast hC 59 (by decide) rfl dX8_enter_40 (fun M9 => ?_)
  refine g_iload_n hC 2 dX8_enter_41 rfl rfl ?_
  refine g_iconst hC (v := 4) dX8_enter_42 (by decide) ?_
  refine g_icmp_eq (tgt := 51) hC dX8_enter_43 (by decide) (fun _ => ?_) (fun _ => ?_)
  · refine g_sub (lv1 := [(0, .ref (zad Z 0)), (1, .int a1), (2, .int a2), (5, .int x7)]) [1, 2, 3, 0] rfl ?_
    exact g_X8_enter_b51 hC  M9 a1 a2 x7 
  · refine g_iload_n hC 2 dX8_enter_46 rfl rfl ?_
    refine g_iconst hC (v := 5) dX8_enter_47 (by decide) ?_
    refine g_icmp_ne (tgt := 70) hC dX8_enter_48 (by decide) (fun _ => ?_) (fun _ => ?_)
    · refine g_sub (lv1 := [(0, .ref (zad Z 0)), (1, .int a1), (2, .int a2), (5, .int x7)]) [1, 2, 3, 0] rfl ?_
      exact g_X8_enter_b51 hC  M9 a1 a2 x7 
    · refine g_sub (lv1 := [(0, .ref (zad Z 0)), (1, .int a1), (5, .int x7)]) [1, 2, 0] rfl ?_
      exact g_X8_enter_b70 hC  M9 a1 x7 

-- ===== X8_serve =====
def f_X8_serve_b50  (M : gM) (a1 : Int32) (a2 : Int32) (t1 : Int32) : gR := (rb (f_X8_allow M t1) (fun _ M1 => (rb (f_X8_enter M1 0 a1 a2 0) (fun x4 M3 => (gI x4 160 (gI a2 3 (gI x4 160 (bM (gset M3 63 x4.toNatClampNeg ((M3 63 x4.toNatClampNeg) + (gWays a2.toNatClampNeg))) (fun M7 => (rRet x4 M7))))))))))
def f_X8_serve_b49  (M : gM) (a1 : Int32) (a2 : Int32)  : gR := (f_X8_serve_b50  M a1 a2 0)
def f_X8_serve (M : gM) (a1 : Int32) (a2 : Int32) : gR := (rb (f_X8_checkClaim M a1) (fun _ M8 => (if a2 < 0 then (rThr 0 M8) else (if a2 < 3 then (gI a1 24 (if (M8 51 a1.toNatClampNeg) = 0 then (rb (f_X8_isServed M8 a1) (fun x11 M10 => (if x11 = 0 then (f_X8_serve_b50  M10 a1 a2 1) else (f_X8_serve_b49  M10 a1 a2 )))) else (f_X8_serve_b49  M8 a1 a2 ))) else (rThr 0 M8)))))
abbrev rm_X8_serve : Room := { frames := 7, cells := 2, slots := 12, locals := 111 }
set_option maxRecDepth 20000 in
set_option maxHeartbeats 4000000 in
theorem g_X8_serve_b50 {p : Program} {l : Launch} {e : Env} {s : State} {m : MethodId} {args : Array Value} {below : List Frame} {meth : Method} {c : Code} {Z : gZ} (hC : gC p l s m args meth c cX8_serve 4 RX8 (some .int) Z)   (M : gM) (a1 : Int32) (a2 : Int32) (t1 : Int32) : gW p l e rm_X8_serve s m args below meth c 4 Z 1 2 1 M 50 [(0, .ref (zad Z 0)), (1, .int a1), (2, .int a2)] [.int t1, .ref (zad Z 0)] (f_X8_serve_b50  M a1 a2 t1) := by
  unfold f_X8_serve_b50
  refine g_callVv (n := 1) hC [.int t1] 0 8 (by decide) rfl rfl (fun hne => c_X8_allow hC.2.2.2.2.2.2.2.1 Z M t1 hne) lk_X8_201 mw_X8_allow.1 mw_X8_allow.2.1 mw_X8_allow.2.2.1 mw_X8_allow.2.2.2 ⟨rfl, by decide, by decide, by decide +kernel⟩ rfl rfl ⟨by decide, by decide⟩ rfl rfl (Nat.le_of_ble_eq_true rfl) (by decide) (by decide) (by decide) dX8_serve_50 (fun M1 => ?_)
  refine g_aload_n hC 0 dX8_serve_53 rfl rfl ?_
  refine g_iconst hC (v := 0) dX8_serve_54 (by decide) ?_
  refine g_iload_n hC 1 dX8_serve_55 rfl rfl ?_
  refine g_iload_n hC 2 dX8_serve_56 rfl rfl ?_
  refine g_iconst hC (v := 0) dX8_serve_57 (by decide) ?_
  refine g_callVi (n := 4) hC [.int 0, .int a1, .int a2, .int 0] 0 8 (by decide) rfl rfl (fun hne => c_X8_enter hC.2.2.2.2.2.2.2.1 Z M1 0 a1 a2 0 hne) lk_X8_205 mw_X8_enter.1 mw_X8_enter.2.1 mw_X8_enter.2.2.1 mw_X8_enter.2.2.2 ⟨rfl, by decide, by decide, by decide +kernel⟩ rfl rfl ⟨by decide, by decide⟩ rfl rfl (Nat.le_of_ble_eq_true rfl) (by decide) (by decide) (by decide) dX8_serve_58 (fun x4 M3 => ?_)
  refine g_istore_n hC (lv1 := [(3, .int x4), (0, .ref (zad Z 0)), (1, .int a1), (2, .int a2)]) dX8_serve_61 rfl (by decide) rfl ?_
  refine g_aload_n hC 1 dX8_serve_62 rfl rfl ?_
  refine gf_X8_33 hC dX8_serve_63 ?_
  refine gf_X8_208 hC dX8_serve_66 ?_
  refine g_iload_n hC 0 dX8_serve_69 rfl rfl ?_
  refine g_dup2 hC dX8_serve_70 rfl rfl ?_
  refine g_iald hC 63 (by decide) rfl dX8_serve_71 ?_
  refine g_ways hC (gIn (by decide +kernel) (by decide +kernel)) dX8_serve_72 (fun t5 hT6 => ?_)
  refine g_iload_n hC 3 dX8_serve_75 rfl rfl ?_
  refine g_tald hC (f := gWays) hT6 dX8_serve_76 ?_
  refine g_iadd hC dX8_serve_77 ?_
  refine g_iast hC 63 (by decide) rfl dX8_serve_78 (fun M7 => ?_)
  refine g_iload_n hC 0 dX8_serve_79 rfl rfl ?_
  exact g_iret hC rfl (by decide) dX8_serve_80
set_option maxRecDepth 20000 in
set_option maxHeartbeats 4000000 in
theorem g_X8_serve_b49 {p : Program} {l : Launch} {e : Env} {s : State} {m : MethodId} {args : Array Value} {below : List Frame} {meth : Method} {c : Code} {Z : gZ} (hC : gC p l s m args meth c cX8_serve 4 RX8 (some .int) Z)   (M : gM) (a1 : Int32) (a2 : Int32)  : gW p l e rm_X8_serve s m args below meth c 4 Z 1 2 1 M 49 [(0, .ref (zad Z 0)), (1, .int a1), (2, .int a2)] [.ref (zad Z 0)] (f_X8_serve_b49  M a1 a2 ) := by
  unfold f_X8_serve_b49
  refine g_iconst hC (v := 0) dX8_serve_49 (by decide) ?_
  exact g_X8_serve_b50 hC  M a1 a2 0
set_option maxRecDepth 20000 in
set_option maxHeartbeats 4000000 in
theorem c_X8_serve {l : Launch} (hfl : l.stackTraces = false) (Z : gZ) (M : gM) (a1 : Int32) (a2 : Int32) : gMet l yX8_serve cX8_serve 4 (some .int) rm_X8_serve 1 2 Z M [.ref (zad Z 0), .int a1, .int a2] (f_X8_serve M a1 a2) := by
  refine g_enter hfl (by decide) (Nat.le_of_ble_eq_true rfl) (fun p e s m args below meth c hC => ?_)
  refine g_eq (F := f_X8_serve M a1 a2) rfl ?_
  refine g_lv0 (lv1 := [(0, .ref (zad Z 0)), (1, .int a1), (2, .int a2)]) rfl ?_
  unfold f_X8_serve
  refine g_aload_n hC 0 dX8_serve_0 rfl rfl ?_
  refine g_iload_n hC 1 dX8_serve_1 rfl rfl ?_
  refine g_callVv (n := 1) hC [.int a1] 0 8 (by decide) rfl rfl (fun hne => c_X8_checkClaim hC.2.2.2.2.2.2.2.1 Z M a1 hne) lk_X8_169 mw_X8_checkClaim.1 mw_X8_checkClaim.2.1 mw_X8_checkClaim.2.2.1 mw_X8_checkClaim.2.2.2 ⟨rfl, by decide, by decide, by decide +kernel⟩ rfl rfl ⟨by decide, by decide⟩ rfl rfl (Nat.le_of_ble_eq_true rfl) (by decide) (by decide) (by decide) dX8_serve_2 (fun M8 => ?_)
  refine g_iload_n hC 2 dX8_serve_5 rfl rfl ?_
  refine g_if_lt (tgt := 14) hC dX8_serve_6 (by decide) (fun _ => ?_) (fun _ => ?_)
  · exact g_throwS (text := "no such way") hC 0 (by decide) thr_c0 thr_i0 (by decide) thr_a0 thr_n0 thr_g0 (by decide) (by decide) (Nat.le_of_ble_eq_true rfl) (by decide) (by decide) (by decide) dX8_serve_14 dX8_serve_17 dX8_serve_18 dX8_serve_20 dX8_serve_23
  · refine g_iload_n hC 2 dX8_serve_9 rfl rfl ?_
    refine g_iconst hC (v := 3) dX8_serve_10 (by decide) ?_
    refine g_icmp_lt (tgt := 24) hC dX8_serve_11 (by decide) (fun _ => ?_) (fun _ => ?_)
    · refine g_aload_n hC 0 dX8_serve_24 rfl rfl ?_
      refine g_aload_n hC 0 dX8_serve_25 rfl rfl ?_
      refine gf_X8_26 hC dX8_serve_26 ?_
      refine gf_X8_195 hC dX8_serve_29 ?_
      refine g_iload_n hC 1 dX8_serve_32 rfl rfl ?_
      refine g_iald hC 51 (by decide) rfl dX8_serve_33 ?_
      refine g_if_ne (tgt := 49) hC dX8_serve_34 (by decide) (fun _ => ?_) (fun _ => ?_)
      · refine g_aload_n hC 0 dX8_serve_37 rfl rfl ?_
        refine g_iload_n hC 1 dX8_serve_38 rfl rfl ?_
        refine g_callVi (n := 1) hC [.int a1] 0 8 (by decide) rfl rfl (fun hne => c_X8_isServed hC.2.2.2.2.2.2.2.1 Z M8 a1 hne) lk_X8_198 mw_X8_isServed.1 mw_X8_isServed.2.1 mw_X8_isServed.2.2.1 mw_X8_isServed.2.2.2 ⟨rfl, by decide, by decide, by decide +kernel⟩ rfl rfl ⟨by decide, by decide⟩ rfl rfl (Nat.le_of_ble_eq_true rfl) (by decide) (by decide) (by decide) dX8_serve_39 (fun x11 M10 => ?_)
        refine g_if_ne (tgt := 49) hC dX8_serve_42 (by decide) (fun _ => ?_) (fun _ => ?_)
        · refine g_iconst hC (v := 1) dX8_serve_45 (by decide) ?_
          refine g_goto (tgt := 50) hC dX8_serve_46 (by decide) ?_
          exact g_X8_serve_b50 hC  M10 a1 a2 1
        · exact g_X8_serve_b49 hC  M10 a1 a2
      · exact g_X8_serve_b49 hC  M8 a1 a2
    · exact g_throwS (text := "no such way") hC 0 (by decide) thr_c0 thr_i0 (by decide) thr_a0 thr_n0 thr_g0 (by decide) (by decide) (Nat.le_of_ble_eq_true rfl) (by decide) (by decide) (by decide) dX8_serve_14 dX8_serve_17 dX8_serve_18 dX8_serve_20 dX8_serve_23

-- ===== X8_cureDue =====
def f_X8_cureDue (M : gM) (a1 : Int32) : gR := (gI a1 160 (gI (M 57 a1.toNatClampNeg) 24 (rb (f_X1_stayMarks M (M 47 (M 57 a1.toNatClampNeg).toNatClampNeg)) (fun x2 M1 => (gI a1 160 (gI a1 160 (gI a1 160 (rb (f_X0_end M1 (M1 65 a1.toNatClampNeg) (M1 66 a1.toNatClampNeg) (M1 67 a1.toNatClampNeg) x2) (fun x4 M3 => (rRet x4 M3))))))))))
abbrev rm_X8_cureDue : Room := { frames := 1, cells := 0, slots := 0, locals := 27 }
set_option maxRecDepth 20000 in
set_option maxHeartbeats 4000000 in
theorem c_X8_cureDue {l : Launch} (hfl : l.stackTraces = false) (Z : gZ) (M : gM) (a1 : Int32) : gMet l yX8_cureDue cX8_cureDue 3 (some .int) rm_X8_cureDue 1 0 Z M [.ref (zad Z 0), .int a1] (f_X8_cureDue M a1) := by
  refine g_enter hfl (by decide) (Nat.le_of_ble_eq_true rfl) (fun p e s m args below meth c hC => ?_)
  refine g_eq (F := f_X8_cureDue M a1) rfl ?_
  refine g_lv0 (lv1 := [(0, .ref (zad Z 0)), (1, .int a1)]) rfl ?_
  unfold f_X8_cureDue
  refine g_aload_n hC 0 dX8_cureDue_0 rfl rfl ?_
  refine gf_X8_19 hC dX8_cureDue_1 ?_
  refine g_aload_n hC 0 dX8_cureDue_4 rfl rfl ?_
  refine gf_X8_26 hC dX8_cureDue_5 ?_
  refine gf_X8_177 hC dX8_cureDue_8 ?_
  refine g_aload_n hC 0 dX8_cureDue_11 rfl rfl ?_
  refine gf_X8_33 hC dX8_cureDue_12 ?_
  refine gf_X8_232 hC dX8_cureDue_15 ?_
  refine g_iload_n hC 1 dX8_cureDue_18 rfl rfl ?_
  refine g_iald hC 57 (by decide) rfl dX8_cureDue_19 ?_
  refine g_iald hC 47 (by decide) rfl dX8_cureDue_20 ?_
  refine g_callVi (n := 1) hC [.int (M 47 (M 57 a1.toNatClampNeg).toNatClampNeg)] 2 1 (by decide) rfl rfl (fun hne => c_X1_stayMarks hC.2.2.2.2.2.2.2.1 Z M (M 47 (M 57 a1.toNatClampNeg).toNatClampNeg) hne) lk_X8_516 mw_X1_stayMarks.1 mw_X1_stayMarks.2.1 mw_X1_stayMarks.2.2.1 mw_X1_stayMarks.2.2.2 ⟨rfl, by decide, by decide, by decide +kernel⟩ rfl rfl ⟨by decide, by decide⟩ rfl rfl (Nat.le_of_ble_eq_true rfl) (by decide) (by decide) (by decide) dX8_cureDue_21 (fun x2 M1 => ?_)
  refine g_istore_n hC (lv1 := [(2, .int x2), (0, .ref (zad Z 0)), (1, .int a1)]) dX8_cureDue_24 rfl (by decide) rfl ?_
  refine g_aload_n hC 1 dX8_cureDue_25 rfl rfl ?_
  refine gf_X8_12 hC dX8_cureDue_26 ?_
  refine g_aload_n hC 1 dX8_cureDue_29 rfl rfl ?_
  refine gf_X8_33 hC dX8_cureDue_30 ?_
  refine gf_X8_309 hC dX8_cureDue_33 ?_
  refine g_iload_n hC 2 dX8_cureDue_36 rfl rfl ?_
  refine g_iald hC 65 (by decide) rfl dX8_cureDue_37 ?_
  refine g_aload_n hC 1 dX8_cureDue_38 rfl rfl ?_
  refine gf_X8_33 hC dX8_cureDue_39 ?_
  refine gf_X8_312 hC dX8_cureDue_42 ?_
  refine g_iload_n hC 2 dX8_cureDue_45 rfl rfl ?_
  refine g_iald hC 66 (by decide) rfl dX8_cureDue_46 ?_
  refine g_aload_n hC 1 dX8_cureDue_47 rfl rfl ?_
  refine gf_X8_33 hC dX8_cureDue_48 ?_
  refine gf_X8_315 hC dX8_cureDue_51 ?_
  refine g_iload_n hC 2 dX8_cureDue_54 rfl rfl ?_
  refine g_zald hC 67 (by decide) rfl dX8_cureDue_55 ?_
  refine g_iload_n hC 0 dX8_cureDue_56 rfl rfl ?_
  refine g_callVi (n := 4) hC [.int (M1 65 a1.toNatClampNeg), .int (M1 66 a1.toNatClampNeg), .int (M1 67 a1.toNatClampNeg), .int x2] 1 0 (by decide) rfl rfl (fun hne => c_X0_end hC.2.2.2.2.2.2.2.1 Z M1 (M1 65 a1.toNatClampNeg) (M1 66 a1.toNatClampNeg) (M1 67 a1.toNatClampNeg) x2 hne) lk_X8_519 mw_X0_end.1 mw_X0_end.2.1 mw_X0_end.2.2.1 mw_X0_end.2.2.2 ⟨rfl, by decide, by decide, by decide +kernel⟩ rfl rfl ⟨by decide, by decide⟩ rfl rfl (Nat.le_of_ble_eq_true rfl) (by decide) (by decide) (by decide) dX8_cureDue_57 (fun x4 M3 => ?_)
  exact g_iret hC rfl (by decide) dX8_cureDue_60

-- ===== X8_isCounting =====
def f_X8_isCounting (M : gM) (a1 : Int32) : gR := (rb (f_X3_hasDefect M a1) (fun x2 M1 => (if x2 = 0 then (rRet 1 M1) else (gI a1 160 (if (M1 68 a1.toNatClampNeg) = 0 then (rb (f_X8_cureDue M1 a1) (fun x4 M3 => (rb (f_X0_isPast M3 x4) (fun x6 M5 => (if x6 = 0 then (rRet 1 M5) else (rRet 0 M5)))))) else (rRet 1 M1))))))
abbrev rm_X8_isCounting : Room := { frames := 2, cells := 0, slots := 0, locals := 49 }
set_option maxRecDepth 20000 in
set_option maxHeartbeats 4000000 in
theorem c_X8_isCounting {l : Launch} (hfl : l.stackTraces = false) (Z : gZ) (M : gM) (a1 : Int32) : gMet l yX8_isCounting cX8_isCounting 2 (some .boolean) rm_X8_isCounting 1 0 Z M [.ref (zad Z 0), .int a1] (f_X8_isCounting M a1) := by
  refine g_enter hfl (by decide) (Nat.le_of_ble_eq_true rfl) (fun p e s m args below meth c hC => ?_)
  refine g_eq (F := f_X8_isCounting M a1) rfl ?_
  refine g_lv0 (lv1 := [(0, .ref (zad Z 0)), (1, .int a1)]) rfl ?_
  unfold f_X8_isCounting
  refine g_aload_n hC 0 dX8_isCounting_0 rfl rfl ?_
  refine gf_X8_33 hC dX8_isCounting_1 ?_
  refine g_iload_n hC 1 dX8_isCounting_4 rfl rfl ?_
  refine g_callVi (n := 1) hC [.int a1] 4 3 (by decide) rfl rfl (fun hne => c_X3_hasDefect hC.2.2.2.2.2.2.2.1 Z M a1 hne) lk_X8_304 mw_X3_hasDefect.1 mw_X3_hasDefect.2.1 mw_X3_hasDefect.2.2.1 mw_X3_hasDefect.2.2.2 ⟨rfl, by decide, by decide, by decide +kernel⟩ rfl rfl ⟨by decide, by decide⟩ rfl rfl (Nat.le_of_ble_eq_true rfl) (by decide) (by decide) (by decide) dX8_isCounting_5 (fun x2 M1 => ?_)
  refine g_if_eq (tgt := 38) hC dX8_isCounting_8 (by decide) (fun _ => ?_) (fun _ => ?_)
  · refine g_iconst hC (v := 1) dX8_isCounting_38 (by decide) ?_
    refine g_goto (tgt := 43) hC dX8_isCounting_39 (by decide) ?_
    exact g_zret1 hC rfl (by decide) dX8_isCounting_43
  · refine g_aload_n hC 0 dX8_isCounting_11 rfl rfl ?_
    refine gf_X8_33 hC dX8_isCounting_12 ?_
    refine gf_X8_321 hC dX8_isCounting_15 ?_
    refine g_iload_n hC 1 dX8_isCounting_18 rfl rfl ?_
    refine g_zald hC 68 (by decide) rfl dX8_isCounting_19 ?_
    refine g_if_ne (tgt := 38) hC dX8_isCounting_20 (by decide) (fun _ => ?_) (fun _ => ?_)
    · refine g_aload_n hC 0 dX8_isCounting_23 rfl rfl ?_
      refine gf_X8_12 hC dX8_isCounting_24 ?_
      refine g_aload_n hC 0 dX8_isCounting_27 rfl rfl ?_
      refine g_iload_n hC 1 dX8_isCounting_28 rfl rfl ?_
      refine g_callVi (n := 1) hC [.int a1] 0 8 (by decide) rfl rfl (fun hne => c_X8_cureDue hC.2.2.2.2.2.2.2.1 Z M1 a1 hne) lk_X8_318 mw_X8_cureDue.1 mw_X8_cureDue.2.1 mw_X8_cureDue.2.2.1 mw_X8_cureDue.2.2.2 ⟨rfl, by decide, by decide, by decide +kernel⟩ rfl rfl ⟨by decide, by decide⟩ rfl rfl (Nat.le_of_ble_eq_true rfl) (by decide) (by decide) (by decide) dX8_isCounting_29 (fun x4 M3 => ?_)
      refine g_callVi (n := 1) hC [.int x4] 1 0 (by decide) rfl rfl (fun hne => c_X0_isPast hC.2.2.2.2.2.2.2.1 Z M3 x4 hne) lk_X8_324 mw_X0_isPast.1 mw_X0_isPast.2.1 mw_X0_isPast.2.2.1 mw_X0_isPast.2.2.2 ⟨rfl, by decide, by decide, by decide +kernel⟩ rfl rfl ⟨by decide, by decide⟩ rfl rfl (Nat.le_of_ble_eq_true rfl) (by decide) (by decide) (by decide) dX8_isCounting_32 (fun x6 M5 => ?_)
      refine g_if_ne (tgt := 42) hC dX8_isCounting_35 (by decide) (fun _ => ?_) (fun _ => ?_)
      · refine g_iconst hC (v := 1) dX8_isCounting_38 (by decide) ?_
        refine g_goto (tgt := 43) hC dX8_isCounting_39 (by decide) ?_
        exact g_zret1 hC rfl (by decide) dX8_isCounting_43
      · refine g_iconst hC (v := 0) dX8_isCounting_42 (by decide) ?_
        exact g_zret0 hC rfl (by decide) dX8_isCounting_43
    · refine g_iconst hC (v := 1) dX8_isCounting_38 (by decide) ?_
      refine g_goto (tgt := 43) hC dX8_isCounting_39 (by decide) ?_
      exact g_zret1 hC rfl (by decide) dX8_isCounting_43

-- ===== X8_hasAnswer =====
def f_X8_hasAnswer_lb2  (self2 : gM → Int32 → Int32 → gR) (M : gM) (a1 : Int32) (a2 : Int32) : gR := (if (M 4 0) ≤ a2 then (rRet 0 M) else (gI a2 160 (if (M 55 a2.toNatClampNeg) = 1 then (gI a2 160 (if (M 57 a2.toNatClampNeg) = a1 then (rb (f_X8_isCounting M a2) (fun x2 M1 => (if x2 = 0 then (bV (a2 + 1) (fun x3 => (self2 M1 a1 x3))) else (rRet 1 M1)))) else (bV (a2 + 1) (fun x4 => (self2 M a1 x4))))) else (bV (a2 + 1) (fun x5 => (self2 M a1 x5))))))
def f_X8_hasAnswer_l2  : Nat → gM → Int32 → Int32 → gR
  | 0, _, _, _ => rStuck
  | n + 1, M, a1, a2 => f_X8_hasAnswer_lb2  (f_X8_hasAnswer_l2  n) M a1 a2
def f_X8_hasAnswer (M : gM) (a1 : Int32) : gR := (f_X8_hasAnswer_l2  5000 M a1 0)
abbrev rm_X8_hasAnswer : Room := { frames := 3, cells := 0, slots := 0, locals := 70 }
set_option maxRecDepth 20000 in
set_option maxHeartbeats 4000000 in
theorem g_X8_hasAnswer_lb2 {p : Program} {l : Launch} {e : Env} {s : State} {m : MethodId} {args : Array Value} {below : List Frame} {meth : Method} {c : Code} {Z : gZ} (hC : gC p l s m args meth c cX8_hasAnswer 3 RX8 (some .boolean) Z)  {self2 : gM → Int32 → Int32 → gR}  (hs2 : ∀ (M : gM) (a1 : Int32) (a2 : Int32) , gW p l e rm_X8_hasAnswer s m args below meth c 3 Z 1 0 0 M 2 [(0, .ref (zad Z 0)), (1, .int a1), (2, .int a2)] [] (self2 M a1 a2)) (M : gM) (a1 : Int32) (a2 : Int32) : gW p l e rm_X8_hasAnswer s m args below meth c 3 Z 1 0 0 M 2 [(0, .ref (zad Z 0)), (1, .int a1), (2, .int a2)] [] (f_X8_hasAnswer_lb2  self2 M a1 a2) := by
  unfold f_X8_hasAnswer_lb2
  refine g_iload_n hC 2 dX8_hasAnswer_2 rfl rfl ?_
  refine g_aload_n hC 0 dX8_hasAnswer_3 rfl rfl ?_
  refine gf_X8_33 hC dX8_hasAnswer_4 ?_
  refine gf_X8_457 hC dX8_hasAnswer_7 ?_
  refine g_icmp_ge (tgt := 55) hC dX8_hasAnswer_10 (by decide) (fun _ => ?_) (fun _ => ?_)
  · refine g_iconst hC (v := 0) dX8_hasAnswer_55 (by decide) ?_
    exact g_zret0 hC rfl (by decide) dX8_hasAnswer_56
  · refine g_aload_n hC 0 dX8_hasAnswer_13 rfl rfl ?_
    refine gf_X8_33 hC dX8_hasAnswer_14 ?_
    refine gf_X8_301 hC dX8_hasAnswer_17 ?_
    refine g_iload_n hC 2 dX8_hasAnswer_20 rfl rfl ?_
    refine g_iald hC 55 (by decide) rfl dX8_hasAnswer_21 ?_
    refine g_iconst hC (v := 1) dX8_hasAnswer_22 (by decide) ?_
    refine g_icmp_ne (tgt := 49) hC dX8_hasAnswer_23 (by decide) (fun _ => ?_) (fun _ => ?_)
    · refine g_aload_n hC 0 dX8_hasAnswer_26 rfl rfl ?_
      refine gf_X8_33 hC dX8_hasAnswer_27 ?_
      refine gf_X8_232 hC dX8_hasAnswer_30 ?_
      refine g_iload_n hC 2 dX8_hasAnswer_33 rfl rfl ?_
      refine g_iald hC 57 (by decide) rfl dX8_hasAnswer_34 ?_
      refine g_iload_n hC 1 dX8_hasAnswer_35 rfl rfl ?_
      refine g_icmp_ne (tgt := 49) hC dX8_hasAnswer_36 (by decide) (fun _ => ?_) (fun _ => ?_)
      · refine g_aload_n hC 0 dX8_hasAnswer_39 rfl rfl ?_
        refine g_iload_n hC 2 dX8_hasAnswer_40 rfl rfl ?_
        refine g_callVi (n := 1) hC [.int a2] 0 8 (by decide) rfl rfl (fun hne => c_X8_isCounting hC.2.2.2.2.2.2.2.1 Z M a2 hne) lk_X8_466 mw_X8_isCounting.1 mw_X8_isCounting.2.1 mw_X8_isCounting.2.2.1 mw_X8_isCounting.2.2.2 ⟨rfl, by decide, by decide, by decide +kernel⟩ rfl rfl ⟨by decide, by decide⟩ rfl rfl (Nat.le_of_ble_eq_true rfl) (by decide) (by decide) (by decide) dX8_hasAnswer_41 (fun x2 M1 => ?_)
        refine g_if_eq (tgt := 49) hC dX8_hasAnswer_44 (by decide) (fun _ => ?_) (fun _ => ?_)
        · refine g_iinc hC 2 (v := 1) (fun x3 => [(2, .int x3), (0, .ref (zad Z 0)), (1, .int a1)]) dX8_hasAnswer_49 rfl (by decide) (by decide) (fun _ => rfl) (fun x3 => ?_)
          refine g_goto (tgt := 2) hC dX8_hasAnswer_52 (by decide) ?_
          refine g_sub (lv1 := [(0, .ref (zad Z 0)), (1, .int a1), (2, .int x3)]) [1, 2, 0] rfl ?_
          exact hs2 M1 a1 x3
        · refine g_iconst hC (v := 1) dX8_hasAnswer_47 (by decide) ?_
          exact g_zret1 hC rfl (by decide) dX8_hasAnswer_48
      · refine g_iinc hC 2 (v := 1) (fun x4 => [(2, .int x4), (0, .ref (zad Z 0)), (1, .int a1)]) dX8_hasAnswer_49 rfl (by decide) (by decide) (fun _ => rfl) (fun x4 => ?_)
        refine g_goto (tgt := 2) hC dX8_hasAnswer_52 (by decide) ?_
        refine g_sub (lv1 := [(0, .ref (zad Z 0)), (1, .int a1), (2, .int x4)]) [1, 2, 0] rfl ?_
        exact hs2 M a1 x4
    · refine g_iinc hC 2 (v := 1) (fun x5 => [(2, .int x5), (0, .ref (zad Z 0)), (1, .int a1)]) dX8_hasAnswer_49 rfl (by decide) (by decide) (fun _ => rfl) (fun x5 => ?_)
      refine g_goto (tgt := 2) hC dX8_hasAnswer_52 (by decide) ?_
      refine g_sub (lv1 := [(0, .ref (zad Z 0)), (1, .int a1), (2, .int x5)]) [1, 2, 0] rfl ?_
      exact hs2 M a1 x5
set_option maxRecDepth 20000 in
set_option maxHeartbeats 4000000 in
theorem g_X8_hasAnswer_l2 {p : Program} {l : Launch} {e : Env} {s : State} {m : MethodId} {args : Array Value} {below : List Frame} {meth : Method} {c : Code} {Z : gZ} (hC : gC p l s m args meth c cX8_hasAnswer 3 RX8 (some .boolean) Z)   : ∀ (n : Nat) (M : gM) (a1 : Int32) (a2 : Int32), gW p l e rm_X8_hasAnswer s m args below meth c 3 Z 1 0 0 M 2 [(0, .ref (zad Z 0)), (1, .int a1), (2, .int a2)] [] (f_X8_hasAnswer_l2  n M a1 a2)
  | 0, _, _, _ => g_stuck
  | n + 1, M, a1, a2 => g_X8_hasAnswer_lb2 hC  (g_X8_hasAnswer_l2 hC  n) M a1 a2
set_option maxRecDepth 20000 in
set_option maxHeartbeats 4000000 in
theorem c_X8_hasAnswer {l : Launch} (hfl : l.stackTraces = false) (Z : gZ) (M : gM) (a1 : Int32) : gMet l yX8_hasAnswer cX8_hasAnswer 3 (some .boolean) rm_X8_hasAnswer 1 0 Z M [.ref (zad Z 0), .int a1] (f_X8_hasAnswer M a1) := by
  refine g_enter hfl (by decide) (Nat.le_of_ble_eq_true rfl) (fun p e s m args below meth c hC => ?_)
  refine g_eq (F := f_X8_hasAnswer M a1) rfl ?_
  refine g_lv0 (lv1 := [(0, .ref (zad Z 0)), (1, .int a1)]) rfl ?_
  unfold f_X8_hasAnswer
  refine g_iconst hC (v := 0) dX8_hasAnswer_0 (by decide) ?_
  refine g_istore_n hC (lv1 := [(2, .int 0), (0, .ref (zad Z 0)), (1, .int a1)]) dX8_hasAnswer_1 rfl (by decide) rfl ?_
  refine g_sub (lv1 := [(0, .ref (zad Z 0)), (1, .int a1), (2, .int 0)]) [1, 2, 0] rfl ?_
  exact g_X8_hasAnswer_l2 hC  5000 M a1 0

-- ===== X8_isOpenMotion =====
def f_X8_isOpenMotion (M : gM) (a1 : Int32) : gR := (gI a1 160 (if (M 62 a1.toNatClampNeg) = 0 then (rb (f_X8_isCounting M a1) (fun x2 M1 => (if x2 = 0 then (rRet 0 M1) else (rRet 1 M1)))) else (rRet 0 M)))
abbrev rm_X8_isOpenMotion : Room := { frames := 3, cells := 0, slots := 0, locals := 70 }
set_option maxRecDepth 20000 in
set_option maxHeartbeats 4000000 in
theorem c_X8_isOpenMotion {l : Launch} (hfl : l.stackTraces = false) (Z : gZ) (M : gM) (a1 : Int32) : gMet l yX8_isOpenMotion cX8_isOpenMotion 2 (some .boolean) rm_X8_isOpenMotion 1 0 Z M [.ref (zad Z 0), .int a1] (f_X8_isOpenMotion M a1) := by
  refine g_enter hfl (by decide) (Nat.le_of_ble_eq_true rfl) (fun p e s m args below meth c hC => ?_)
  refine g_eq (F := f_X8_isOpenMotion M a1) rfl ?_
  refine g_lv0 (lv1 := [(0, .ref (zad Z 0)), (1, .int a1)]) rfl ?_
  unfold f_X8_isOpenMotion
  refine g_aload_n hC 0 dX8_isOpenMotion_0 rfl rfl ?_
  refine gf_X8_33 hC dX8_isOpenMotion_1 ?_
  refine gf_X8_240 hC dX8_isOpenMotion_4 ?_
  refine g_iload_n hC 1 dX8_isOpenMotion_7 rfl rfl ?_
  refine g_zald hC 62 (by decide) rfl dX8_isOpenMotion_8 ?_
  refine g_if_ne (tgt := 24) hC dX8_isOpenMotion_9 (by decide) (fun _ => ?_) (fun _ => ?_)
  · refine g_aload_n hC 0 dX8_isOpenMotion_12 rfl rfl ?_
    refine g_iload_n hC 1 dX8_isOpenMotion_13 rfl rfl ?_
    refine g_callVi (n := 1) hC [.int a1] 0 8 (by decide) rfl rfl (fun hne => c_X8_isCounting hC.2.2.2.2.2.2.2.1 Z M a1 hne) lk_X8_466 mw_X8_isCounting.1 mw_X8_isCounting.2.1 mw_X8_isCounting.2.2.1 mw_X8_isCounting.2.2.2 ⟨rfl, by decide, by decide, by decide +kernel⟩ rfl rfl ⟨by decide, by decide⟩ rfl rfl (Nat.le_of_ble_eq_true rfl) (by decide) (by decide) (by decide) dX8_isOpenMotion_14 (fun x2 M1 => ?_)
    refine g_if_eq (tgt := 24) hC dX8_isOpenMotion_17 (by decide) (fun _ => ?_) (fun _ => ?_)
    · refine g_iconst hC (v := 0) dX8_isOpenMotion_24 (by decide) ?_
      exact g_zret0 hC rfl (by decide) dX8_isOpenMotion_25
    · refine g_iconst hC (v := 1) dX8_isOpenMotion_20 (by decide) ?_
      refine g_goto (tgt := 25) hC dX8_isOpenMotion_21 (by decide) ?_
      exact g_zret1 hC rfl (by decide) dX8_isOpenMotion_25
  · refine g_iconst hC (v := 0) dX8_isOpenMotion_24 (by decide) ?_
    exact g_zret0 hC rfl (by decide) dX8_isOpenMotion_25
