-- ===== X9_vacate =====
def f_X9_vacate_b88  (M : gM) (a1 : Int32) (a3 : Int32) (t1 : Int32) : gR := (rb (f_X9_refused M t1) (fun x2 M1 => (if x2 = 0 then (rb (f_X9_enter M1 6 a1 a3 0) (fun x4 M3 => (gZ01 1 (gI a3 160 (bM (gset M3 130 a3.toNatClampNeg 1) (fun M5 => (gI a3 160 (gI a1 24 (bM (gset M5 112 a1.toNatClampNeg (M5 127 a3.toNatClampNeg)) (fun M6 => (gI a3 160 (gI a1 24 (bM (gset M6 113 a1.toNatClampNeg (M6 128 a3.toNatClampNeg)) (fun M7 => (gI a3 160 (gI a1 24 (bM (gset M7 114 a1.toNatClampNeg (M7 129 a3.toNatClampNeg)) (fun M8 => (rRet x4 M8))))))))))))))))))) else (rRet 0 M1))))
def f_X9_vacate_b67  (M : gM) (a1 : Int32) (a2 : Int32) (a3 : Int32) (t0 : Int32) : gR := (if a2 = 0 then (f_X9_vacate_b88  M a1 a3 1) else (if t0 = 0 then (f_X9_vacate_b88  M a1 a3 2) else (f_X9_vacate_b88  M a1 a3 0)))
def f_X9_vacate_b62  (M : gM) (a1 : Int32) (a2 : Int32) (a3 : Int32)  : gR := (f_X9_vacate_b67  M a1 a2 a3 1)
def f_X9_vacate_b66  (M : gM) (a1 : Int32) (a2 : Int32) (a3 : Int32)  : gR := (f_X9_vacate_b67  M a1 a2 a3 0)
def f_X9_vacate_b52  (M : gM) (a1 : Int32) (a2 : Int32) (a3 : Int32)  : gR := (gI a3 160 (if (M 120 a3.toNatClampNeg) = 5 then (f_X9_vacate_b62  M a1 a2 a3 ) else (f_X9_vacate_b66  M a1 a2 a3 )))
def f_X9_vacate_b19  (M : gM) (a1 : Int32) (a2 : Int32) (t0 : Int32) : gR := (if t0 = (-1) then (f_X9_vacate_b66  M a1 a2 t0 ) else (rb (f_X9_hasRoom M ) (fun x10 M9 => (if x10 = 0 then (f_X9_vacate_b66  M9 a1 a2 t0 ) else (gI t0 160 (if (M9 120 t0.toNatClampNeg) = 4 then (gI t0 160 (if (M9 123 t0.toNatClampNeg) = (-1) then (f_X9_vacate_b52  M9 a1 a2 t0 ) else (f_X9_vacate_b62  M9 a1 a2 t0 ))) else (f_X9_vacate_b52  M9 a1 a2 t0 )))))))
def f_X9_vacate (M : gM) (a1 : Int32) : gR := (rb (f_X9_isClaim M a1) (fun x12 M11 => (if x12 = 0 then (f_X9_vacate_b19  M11 a1 x12 (-1)) else (rb (f_X9_latestOrder M11 a1) (fun x14 M13 => (f_X9_vacate_b19  M13 a1 x12 x14))))))
abbrev rm_X9_vacate : Room := { frames := 2, cells := 0, slots := 0, locals := 46 }
set_option maxRecDepth 20000 in
set_option maxHeartbeats 4000000 in
theorem g_X9_vacate_b88 {p : Program} {l : Launch} {e : Env} {s : State} {m : MethodId} {args : Array Value} {below : List Frame} {meth : Method} {c : Code} {Z : gZ} (hC : gC p l s m args meth c cX9_vacate 6 RX9 (some .int) Z)   (M : gM) (a1 : Int32) (a3 : Int32) (t1 : Int32) : gW p l e rm_X9_vacate s m args below meth c 6 Z 1 0 0 M 88 [(0, .ref (zad Z 9)), (1, .int a1), (3, .int a3)] [.int t1, .ref (zad Z 9)] (f_X9_vacate_b88  M a1 a3 t1) := by
  unfold f_X9_vacate_b88
  refine g_callVi (n := 1) hC [.int t1] 9 9 (by decide) rfl rfl (fun hne => c_X9_refused hC.2.2.2.2.2.2.2.1 Z M t1 hne) lk_X9_155 mw_X9_refused.1 mw_X9_refused.2.1 mw_X9_refused.2.2.1 mw_X9_refused.2.2.2 ⟨rfl, by decide, by decide, by decide +kernel⟩ rfl rfl ⟨by decide, by decide⟩ rfl rfl (Nat.le_of_ble_eq_true rfl) (by decide) (by decide) (by decide) dX9_vacate_88 (fun x2 M1 => ?_)
  refine g_if_eq (tgt := 96) hC dX9_vacate_91 (by decide) (fun _ => ?_) (fun _ => ?_)
  · refine g_aload_n hC 0 dX9_vacate_96 rfl rfl ?_
    refine g_bipush hC (v := 6) dX9_vacate_97 (by decide) ?_
    refine g_iload_n hC 1 dX9_vacate_99 rfl rfl ?_
    refine g_iload_n hC 2 dX9_vacate_100 rfl rfl ?_
    refine g_iconst hC (v := 0) dX9_vacate_101 (by decide) ?_
    refine g_callVi (n := 4) hC [.int 6, .int a1, .int a3, .int 0] 9 9 (by decide) rfl rfl (fun hne => c_X9_enter hC.2.2.2.2.2.2.2.1 Z M1 6 a1 a3 0 hne) lk_X9_237 mw_X9_enter.1 mw_X9_enter.2.1 mw_X9_enter.2.2.1 mw_X9_enter.2.2.2 ⟨rfl, by decide, by decide, by decide +kernel⟩ rfl rfl ⟨by decide, by decide⟩ rfl rfl (Nat.le_of_ble_eq_true rfl) (by decide) (by decide) (by decide) dX9_vacate_102 (fun x4 M3 => ?_)
    refine g_istore hC (lv1 := [(5, .int x4), (0, .ref (zad Z 9)), (1, .int a1), (3, .int a3)]) dX9_vacate_105 (by decide) rfl ?_
    refine g_aload_n hC 1 dX9_vacate_107 rfl rfl ?_
    refine gf_X9_95 hC dX9_vacate_108 ?_
    refine g_iload_n hC 3 dX9_vacate_111 rfl rfl ?_
    refine g_iconst hC (v := 1) dX9_vacate_112 (by decide) ?_
    refine g_zast hC 130 (by decide) rfl dX9_vacate_113 (fun M5 => ?_)
    refine g_aload_n hC 1 dX9_vacate_114 rfl rfl ?_
    refine gf_X9_41 hC dX9_vacate_115 ?_
    refine g_iload_n hC 2 dX9_vacate_118 rfl rfl ?_
    refine g_aload_n hC 1 dX9_vacate_119 rfl rfl ?_
    refine gf_X9_86 hC dX9_vacate_120 ?_
    refine g_iload_n hC 3 dX9_vacate_123 rfl rfl ?_
    refine g_iald hC 127 (by decide) rfl dX9_vacate_124 ?_
    refine g_iast hC 112 (by decide) rfl dX9_vacate_125 (fun M6 => ?_)
    refine g_aload_n hC 1 dX9_vacate_126 rfl rfl ?_
    refine gf_X9_44 hC dX9_vacate_127 ?_
    refine g_iload_n hC 2 dX9_vacate_130 rfl rfl ?_
    refine g_aload_n hC 1 dX9_vacate_131 rfl rfl ?_
    refine gf_X9_89 hC dX9_vacate_132 ?_
    refine g_iload_n hC 3 dX9_vacate_135 rfl rfl ?_
    refine g_iald hC 128 (by decide) rfl dX9_vacate_136 ?_
    refine g_iast hC 113 (by decide) rfl dX9_vacate_137 (fun M7 => ?_)
    refine g_aload_n hC 1 dX9_vacate_138 rfl rfl ?_
    refine gf_X9_47 hC dX9_vacate_139 ?_
    refine g_iload_n hC 2 dX9_vacate_142 rfl rfl ?_
    refine g_aload_n hC 1 dX9_vacate_143 rfl rfl ?_
    refine gf_X9_92 hC dX9_vacate_144 ?_
    refine g_iload_n hC 3 dX9_vacate_147 rfl rfl ?_
    refine g_iald hC 129 (by decide) rfl dX9_vacate_148 ?_
    refine g_iast hC 114 (by decide) rfl dX9_vacate_149 (fun M8 => ?_)
    refine g_iload hC 0 dX9_vacate_150 rfl ?_
    exact g_iret hC rfl (by decide) dX9_vacate_152
  · refine g_iconst hC (v := 0) dX9_vacate_94 (by decide) ?_
    exact g_iret hC rfl (by decide) dX9_vacate_95
set_option maxRecDepth 20000 in
set_option maxHeartbeats 4000000 in
theorem g_X9_vacate_b67 {p : Program} {l : Launch} {e : Env} {s : State} {m : MethodId} {args : Array Value} {below : List Frame} {meth : Method} {c : Code} {Z : gZ} (hC : gC p l s m args meth c cX9_vacate 6 RX9 (some .int) Z)   (M : gM) (a1 : Int32) (a2 : Int32) (a3 : Int32) (t0 : Int32) : gW p l e rm_X9_vacate s m args below meth c 6 Z 1 0 0 M 67 [(0, .ref (zad Z 9)), (1, .int a1), (2, .int a2), (3, .int a3)] [.int t0] (f_X9_vacate_b67  M a1 a2 a3 t0) := by
  unfold f_X9_vacate_b67
  refine g_istore hC (lv1 := [(4, .int t0), (0, .ref (zad Z 9)), (1, .int a1), (2, .int a2), (3, .int a3)]) dX9_vacate_67 (by decide) rfl ?_
  refine g_aload_n hC 1 dX9_vacate_69 rfl rfl ?_
  refine g_iload_n hC 3 dX9_vacate_70 rfl rfl ?_
  refine g_if_ne (tgt := 78) hC dX9_vacate_71 (by decide) (fun _ => ?_) (fun _ => ?_)
  · refine g_iconst hC (v := 1) dX9_vacate_74 (by decide) ?_
    refine g_goto (tgt := 88) hC dX9_vacate_75 (by decide) ?_
    refine g_sub (lv1 := [(0, .ref (zad Z 9)), (1, .int a1), (3, .int a3)]) [1, 2, 4] rfl ?_
    exact g_X9_vacate_b88 hC  M a1 a3 1
  · refine g_iload hC 0 dX9_vacate_78 rfl ?_
    refine g_if_ne (tgt := 87) hC dX9_vacate_80 (by decide) (fun _ => ?_) (fun _ => ?_)
    · refine g_iconst hC (v := 2) dX9_vacate_83 (by decide) ?_
      refine g_goto (tgt := 88) hC dX9_vacate_84 (by decide) ?_
      refine g_sub (lv1 := [(0, .ref (zad Z 9)), (1, .int a1), (3, .int a3)]) [1, 2, 4] rfl ?_
      exact g_X9_vacate_b88 hC  M a1 a3 2
    · refine g_iconst hC (v := 0) dX9_vacate_87 (by decide) ?_
      refine g_sub (lv1 := [(0, .ref (zad Z 9)), (1, .int a1), (3, .int a3)]) [1, 2, 4] rfl ?_
      exact g_X9_vacate_b88 hC  M a1 a3 0
set_option maxRecDepth 20000 in
set_option maxHeartbeats 4000000 in
theorem g_X9_vacate_b62 {p : Program} {l : Launch} {e : Env} {s : State} {m : MethodId} {args : Array Value} {below : List Frame} {meth : Method} {c : Code} {Z : gZ} (hC : gC p l s m args meth c cX9_vacate 6 RX9 (some .int) Z)   (M : gM) (a1 : Int32) (a2 : Int32) (a3 : Int32)  : gW p l e rm_X9_vacate s m args below meth c 6 Z 1 0 0 M 62 [(0, .ref (zad Z 9)), (1, .int a1), (2, .int a2), (3, .int a3)] [] (f_X9_vacate_b62  M a1 a2 a3 ) := by
  unfold f_X9_vacate_b62
  refine g_iconst hC (v := 1) dX9_vacate_62 (by decide) ?_
  refine g_goto (tgt := 67) hC dX9_vacate_63 (by decide) ?_
  exact g_X9_vacate_b67 hC  M a1 a2 a3 1
set_option maxRecDepth 20000 in
set_option maxHeartbeats 4000000 in
theorem g_X9_vacate_b66 {p : Program} {l : Launch} {e : Env} {s : State} {m : MethodId} {args : Array Value} {below : List Frame} {meth : Method} {c : Code} {Z : gZ} (hC : gC p l s m args meth c cX9_vacate 6 RX9 (some .int) Z)   (M : gM) (a1 : Int32) (a2 : Int32) (a3 : Int32)  : gW p l e rm_X9_vacate s m args below meth c 6 Z 1 0 0 M 66 [(0, .ref (zad Z 9)), (1, .int a1), (2, .int a2), (3, .int a3)] [] (f_X9_vacate_b66  M a1 a2 a3 ) := by
  unfold f_X9_vacate_b66
  refine g_iconst hC (v := 0) dX9_vacate_66 (by decide) ?_
  exact g_X9_vacate_b67 hC  M a1 a2 a3 0
set_option maxRecDepth 20000 in
set_option maxHeartbeats 4000000 in
theorem g_X9_vacate_b52 {p : Program} {l : Launch} {e : Env} {s : State} {m : MethodId} {args : Array Value} {below : List Frame} {meth : Method} {c : Code} {Z : gZ} (hC : gC p l s m args meth c cX9_vacate 6 RX9 (some .int) Z)   (M : gM) (a1 : Int32) (a2 : Int32) (a3 : Int32)  : gW p l e rm_X9_vacate s m args below meth c 6 Z 1 0 0 M 52 [(0, .ref (zad Z 9)), (1, .int a1), (2, .int a2), (3, .int a3)] [] (f_X9_vacate_b52  M a1 a2 a3 ) := by
  unfold f_X9_vacate_b52
  refine g_aload_n hC 0 dX9_vacate_52 rfl rfl ?_
  refine gf_X9_65 hC dX9_vacate_53 ?_
  refine g_iload_n hC 3 dX9_vacate_56 rfl rfl ?_
  refine g_iald hC 120 (by decide) rfl dX9_vacate_57 ?_
  refine g_iconst hC (v := 5) dX9_vacate_58 (by decide) ?_
  refine g_icmp_ne (tgt := 66) hC dX9_vacate_59 (by decide) (fun _ => ?_) (fun _ => ?_)
  · exact g_X9_vacate_b62 hC  M a1 a2 a3
  · exact g_X9_vacate_b66 hC  M a1 a2 a3
set_option maxRecDepth 20000 in
set_option maxHeartbeats 4000000 in
theorem g_X9_vacate_b19 {p : Program} {l : Launch} {e : Env} {s : State} {m : MethodId} {args : Array Value} {below : List Frame} {meth : Method} {c : Code} {Z : gZ} (hC : gC p l s m args meth c cX9_vacate 6 RX9 (some .int) Z)   (M : gM) (a1 : Int32) (a2 : Int32) (t0 : Int32) : gW p l e rm_X9_vacate s m args below meth c 6 Z 1 0 0 M 19 [(0, .ref (zad Z 9)), (1, .int a1), (2, .int a2)] [.int t0] (f_X9_vacate_b19  M a1 a2 t0) := by
  unfold f_X9_vacate_b19
  refine g_istore_n hC (lv1 := [(3, .int t0), (0, .ref (zad Z 9)), (1, .int a1), (2, .int a2)]) dX9_vacate_19 rfl (by decide) rfl ?_
  refine g_iload_n hC 0 dX9_vacate_20 rfl rfl ?_
  refine g_iconst hC (v := (-1)) dX9_vacate_21 (by decide) ?_
  refine g_icmp_eq (tgt := 66) hC dX9_vacate_22 (by decide) (fun _ => ?_) (fun _ => ?_)
  · refine g_sub (lv1 := [(0, .ref (zad Z 9)), (1, .int a1), (2, .int a2), (3, .int t0)]) [1, 2, 3, 0] rfl ?_
    exact g_X9_vacate_b66 hC  M a1 a2 t0 
  · refine g_aload_n hC 1 dX9_vacate_25 rfl rfl ?_
    refine g_callVi (n := 0) hC [] 9 9 (by decide) rfl rfl (fun hne => c_X9_hasRoom hC.2.2.2.2.2.2.2.1 Z M  hne) lk_X9_233 mw_X9_hasRoom.1 mw_X9_hasRoom.2.1 mw_X9_hasRoom.2.2.1 mw_X9_hasRoom.2.2.2 ⟨rfl, by decide, by decide, by decide +kernel⟩ rfl rfl ⟨by decide, by decide⟩ rfl rfl (Nat.le_of_ble_eq_true rfl) (by decide) (by decide) (by decide) dX9_vacate_26 (fun x10 M9 => ?_)
    refine g_if_eq (tgt := 66) hC dX9_vacate_29 (by decide) (fun _ => ?_) (fun _ => ?_)
    · refine g_sub (lv1 := [(0, .ref (zad Z 9)), (1, .int a1), (2, .int a2), (3, .int t0)]) [1, 2, 3, 0] rfl ?_
      exact g_X9_vacate_b66 hC  M9 a1 a2 t0 
    · refine g_aload_n hC 1 dX9_vacate_32 rfl rfl ?_
      refine gf_X9_65 hC dX9_vacate_33 ?_
      refine g_iload_n hC 0 dX9_vacate_36 rfl rfl ?_
      refine g_iald hC 120 (by decide) rfl dX9_vacate_37 ?_
      refine g_iconst hC (v := 4) dX9_vacate_38 (by decide) ?_
      refine g_icmp_ne (tgt := 52) hC dX9_vacate_39 (by decide) (fun _ => ?_) (fun _ => ?_)
      · refine g_aload_n hC 1 dX9_vacate_42 rfl rfl ?_
        refine gf_X9_74 hC dX9_vacate_43 ?_
        refine g_iload_n hC 0 dX9_vacate_46 rfl rfl ?_
        refine g_iald hC 123 (by decide) rfl dX9_vacate_47 ?_
        refine g_iconst hC (v := (-1)) dX9_vacate_48 (by decide) ?_
        refine g_icmp_ne (tgt := 62) hC dX9_vacate_49 (by decide) (fun _ => ?_) (fun _ => ?_)
        · refine g_sub (lv1 := [(0, .ref (zad Z 9)), (1, .int a1), (2, .int a2), (3, .int t0)]) [1, 2, 3, 0] rfl ?_
          exact g_X9_vacate_b52 hC  M9 a1 a2 t0 
        · refine g_sub (lv1 := [(0, .ref (zad Z 9)), (1, .int a1), (2, .int a2), (3, .int t0)]) [1, 2, 3, 0] rfl ?_
          exact g_X9_vacate_b62 hC  M9 a1 a2 t0 
      · refine g_sub (lv1 := [(0, .ref (zad Z 9)), (1, .int a1), (2, .int a2), (3, .int t0)]) [1, 2, 3, 0] rfl ?_
        exact g_X9_vacate_b52 hC  M9 a1 a2 t0 
set_option maxRecDepth 20000 in
set_option maxHeartbeats 4000000 in
theorem c_X9_vacate {l : Launch} (hfl : l.stackTraces = false) (Z : gZ) (M : gM) (a1 : Int32) : gMet l yX9_vacate cX9_vacate 6 (some .int) rm_X9_vacate 1 0 Z M [.ref (zad Z 9), .int a1] (f_X9_vacate M a1) := by
  refine g_enter hfl (by decide) (Nat.le_of_ble_eq_true rfl) (fun p e s m args below meth c hC => ?_)
  refine g_eq (F := f_X9_vacate M a1) rfl ?_
  refine g_lv0 (lv1 := [(0, .ref (zad Z 9)), (1, .int a1)]) rfl ?_
  unfold f_X9_vacate
  refine g_aload_n hC 0 dX9_vacate_0 rfl rfl ?_
  refine g_iload_n hC 1 dX9_vacate_1 rfl rfl ?_
  refine g_callVi (n := 1) hC [.int a1] 9 9 (by decide) rfl rfl (fun hne => c_X9_isClaim hC.2.2.2.2.2.2.2.1 Z M a1 hne) lk_X9_195 mw_X9_isClaim.1 mw_X9_isClaim.2.1 mw_X9_isClaim.2.2.1 mw_X9_isClaim.2.2.2 ⟨rfl, by decide, by decide, by decide +kernel⟩ rfl rfl ⟨by decide, by decide⟩ rfl rfl (Nat.le_of_ble_eq_true rfl) (by decide) (by decide) (by decide) dX9_vacate_2 (fun x12 M11 => ?_)
  refine g_istore_n hC (lv1 := [(2, .int x12), (0, .ref (zad Z 9)), (1, .int a1)]) dX9_vacate_5 rfl (by decide) rfl ?_
  refine g_iload_n hC 0 dX9_vacate_6 rfl rfl ?_
  refine g_if_eq (tgt := 18) hC dX9_vacate_7 (by decide) (fun _ => ?_) (fun _ => ?_)
  · refine g_iconst hC (v := (-1)) dX9_vacate_18 (by decide) ?_
    refine g_sub (lv1 := [(0, .ref (zad Z 9)), (1, .int a1), (2, .int x12)]) [1, 2, 0] rfl ?_
    exact g_X9_vacate_b19 hC  M11 a1 x12 (-1)
  · refine g_aload_n hC 1 dX9_vacate_10 rfl rfl ?_
    refine g_iload_n hC 2 dX9_vacate_11 rfl rfl ?_
    refine g_callVi (n := 1) hC [.int a1] 9 9 (by decide) rfl rfl (fun hne => c_X9_latestOrder hC.2.2.2.2.2.2.2.1 Z M11 a1 hne) lk_X9_259 mw_X9_latestOrder.1 mw_X9_latestOrder.2.1 mw_X9_latestOrder.2.2.1 mw_X9_latestOrder.2.2.2 ⟨rfl, by decide, by decide, by decide +kernel⟩ rfl rfl ⟨by decide, by decide⟩ rfl rfl (Nat.le_of_ble_eq_true rfl) (by decide) (by decide) (by decide) dX9_vacate_12 (fun x14 M13 => ?_)
    refine g_goto (tgt := 19) hC dX9_vacate_15 (by decide) ?_
    refine g_sub (lv1 := [(0, .ref (zad Z 9)), (1, .int a1), (2, .int x12)]) [1, 2, 0] rfl ?_
    exact g_X9_vacate_b19 hC  M13 a1 x12 x14

-- ===== X9_paid =====
def f_X9_paid_b43 (self4 : gM → Int32 → Int32 → Int32 → gR) (M : gM) (a1 : Int32) (a3 : Int32) (t0 : Int32) : gR := (bV (t0 + 0) (fun x1 => (bV (a3 + 1) (fun x2 => (self4 M a1 x1 x2)))))
def f_X9_paid_lb4  (self4 : gM → Int32 → Int32 → Int32 → gR) (M : gM) (a1 : Int32) (a2 : Int32) (a3 : Int32) : gR := (if (M 9 23) ≤ a3 then (rRet a2 M) else (gI a3 160 (if (M 120 a3.toNatClampNeg) = 10 then (gI a3 160 (if (M 122 a3.toNatClampNeg) = a1 then (gI a3 160 (bV (a2 + (M 123 a3.toNatClampNeg)) (fun x3 => (bV (a3 + 1) (fun x4 => (self4 M a1 x3 x4)))))) else (f_X9_paid_b43 self4 M a1 a3 a2))) else (f_X9_paid_b43 self4 M a1 a3 a2))))
def f_X9_paid_l4  : Nat → gM → Int32 → Int32 → Int32 → gR
  | 0, _, _, _, _ => rStuck
  | n + 1, M, a1, a2, a3 => f_X9_paid_lb4  (f_X9_paid_l4  n) M a1 a2 a3
def f_X9_paid (M : gM) (a1 : Int32) : gR := (f_X9_paid_l4  5000 M a1 0 0)
abbrev rm_X9_paid : Room := { frames := 0, cells := 0, slots := 0, locals := 0 }
set_option maxRecDepth 20000 in
set_option maxHeartbeats 4000000 in
theorem g_X9_paid_b43 {p : Program} {l : Launch} {e : Env} {s : State} {m : MethodId} {args : Array Value} {below : List Frame} {meth : Method} {c : Code} {Z : gZ} (hC : gC p l s m args meth c cX9_paid 4 RX9 (some .int) Z) {self4 : gM → Int32 → Int32 → Int32 → gR} (hs4 : ∀ (M : gM) (a1 : Int32) (a2 : Int32) (a3 : Int32) , gW p l e rm_X9_paid s m args below meth c 4 Z 1 0 0 M 4 [(0, .ref (zad Z 9)), (1, .int a1), (2, .int a2), (3, .int a3)] [] (self4 M a1 a2 a3)) (M : gM) (a1 : Int32) (a3 : Int32) (t0 : Int32) : gW p l e rm_X9_paid s m args below meth c 4 Z 1 0 0 M 43 [(0, .ref (zad Z 9)), (1, .int a1), (3, .int a3)] [.int t0] (f_X9_paid_b43 self4 M a1 a3 t0) := by
  unfold f_X9_paid_b43
  refine g_iconst hC (v := 0) dX9_paid_43 (by decide) ?_
  refine g_iadd hC dX9_paid_44 ?_
  refine g_bv (fun x1 => ?_)
  refine g_istore_n hC (lv1 := [(2, .int x1), (0, .ref (zad Z 9)), (1, .int a1), (3, .int a3)]) dX9_paid_45 rfl (by decide) rfl ?_
  refine g_iinc hC 3 (v := 1) (fun x2 => [(3, .int x2), (2, .int x1), (0, .ref (zad Z 9)), (1, .int a1)]) dX9_paid_46 rfl (by decide) (by decide) (fun _ => rfl) (fun x2 => ?_)
  refine g_goto (tgt := 4) hC dX9_paid_49 (by decide) ?_
  refine g_sub (lv1 := [(0, .ref (zad Z 9)), (1, .int a1), (2, .int x1), (3, .int x2)]) [2, 3, 1, 0] rfl ?_
  exact hs4 M a1 x1 x2
set_option maxRecDepth 20000 in
set_option maxHeartbeats 4000000 in
theorem g_X9_paid_lb4 {p : Program} {l : Launch} {e : Env} {s : State} {m : MethodId} {args : Array Value} {below : List Frame} {meth : Method} {c : Code} {Z : gZ} (hC : gC p l s m args meth c cX9_paid 4 RX9 (some .int) Z)  {self4 : gM → Int32 → Int32 → Int32 → gR}  (hs4 : ∀ (M : gM) (a1 : Int32) (a2 : Int32) (a3 : Int32) , gW p l e rm_X9_paid s m args below meth c 4 Z 1 0 0 M 4 [(0, .ref (zad Z 9)), (1, .int a1), (2, .int a2), (3, .int a3)] [] (self4 M a1 a2 a3)) (M : gM) (a1 : Int32) (a2 : Int32) (a3 : Int32) : gW p l e rm_X9_paid s m args below meth c 4 Z 1 0 0 M 4 [(0, .ref (zad Z 9)), (1, .int a1), (2, .int a2), (3, .int a3)] [] (f_X9_paid_lb4  self4 M a1 a2 a3) := by
  unfold f_X9_paid_lb4
  refine g_iload_n hC 3 dX9_paid_4 rfl rfl ?_
  refine g_aload_n hC 0 dX9_paid_5 rfl rfl ?_
  refine gf_X9_171 hC dX9_paid_6 ?_
  refine g_icmp_ge (tgt := 52) hC dX9_paid_9 (by decide) (fun _ => ?_) (fun _ => ?_)
  · refine g_iload_n hC 2 dX9_paid_52 rfl rfl ?_
    exact g_iret hC rfl (by decide) dX9_paid_53
  · refine g_iload_n hC 2 dX9_paid_12 rfl rfl ?_
    refine g_aload_n hC 0 dX9_paid_13 rfl rfl ?_
    refine gf_X9_65 hC dX9_paid_14 ?_
    refine g_iload_n hC 3 dX9_paid_17 rfl rfl ?_
    refine g_iald hC 120 (by decide) rfl dX9_paid_18 ?_
    refine g_bipush hC (v := 10) dX9_paid_19 (by decide) ?_
    refine g_icmp_ne (tgt := 43) hC dX9_paid_21 (by decide) (fun _ => ?_) (fun _ => ?_)
    · refine g_aload_n hC 0 dX9_paid_24 rfl rfl ?_
      refine gf_X9_71 hC dX9_paid_25 ?_
      refine g_iload_n hC 3 dX9_paid_28 rfl rfl ?_
      refine g_iald hC 122 (by decide) rfl dX9_paid_29 ?_
      refine g_iload_n hC 1 dX9_paid_30 rfl rfl ?_
      refine g_icmp_ne (tgt := 43) hC dX9_paid_31 (by decide) (fun _ => ?_) (fun _ => ?_)
      · refine g_aload_n hC 0 dX9_paid_34 rfl rfl ?_
        refine gf_X9_74 hC dX9_paid_35 ?_
        refine g_iload_n hC 3 dX9_paid_38 rfl rfl ?_
        refine g_iald hC 123 (by decide) rfl dX9_paid_39 ?_
        refine g_goto (tgt := 44) hC dX9_paid_40 (by decide) ?_
        refine g_iadd hC dX9_paid_44 ?_
        refine g_bv (fun x3 => ?_)
        refine g_istore_n hC (lv1 := [(2, .int x3), (0, .ref (zad Z 9)), (1, .int a1), (3, .int a3)]) dX9_paid_45 rfl (by decide) rfl ?_
        refine g_iinc hC 3 (v := 1) (fun x4 => [(3, .int x4), (2, .int x3), (0, .ref (zad Z 9)), (1, .int a1)]) dX9_paid_46 rfl (by decide) (by decide) (fun _ => rfl) (fun x4 => ?_)
        refine g_goto (tgt := 4) hC dX9_paid_49 (by decide) ?_
        refine g_sub (lv1 := [(0, .ref (zad Z 9)), (1, .int a1), (2, .int x3), (3, .int x4)]) [2, 3, 1, 0] rfl ?_
        exact hs4 M a1 x3 x4
      · refine g_sub (lv1 := [(0, .ref (zad Z 9)), (1, .int a1), (3, .int a3)]) [0, 1, 3] rfl ?_
        exact g_X9_paid_b43 hC hs4 M a1 a3 a2
    · refine g_sub (lv1 := [(0, .ref (zad Z 9)), (1, .int a1), (3, .int a3)]) [0, 1, 3] rfl ?_
      exact g_X9_paid_b43 hC hs4 M a1 a3 a2
set_option maxRecDepth 20000 in
set_option maxHeartbeats 4000000 in
theorem g_X9_paid_l4 {p : Program} {l : Launch} {e : Env} {s : State} {m : MethodId} {args : Array Value} {below : List Frame} {meth : Method} {c : Code} {Z : gZ} (hC : gC p l s m args meth c cX9_paid 4 RX9 (some .int) Z)   : ∀ (n : Nat) (M : gM) (a1 : Int32) (a2 : Int32) (a3 : Int32), gW p l e rm_X9_paid s m args below meth c 4 Z 1 0 0 M 4 [(0, .ref (zad Z 9)), (1, .int a1), (2, .int a2), (3, .int a3)] [] (f_X9_paid_l4  n M a1 a2 a3)
  | 0, _, _, _, _ => g_stuck
  | n + 1, M, a1, a2, a3 => g_X9_paid_lb4 hC  (g_X9_paid_l4 hC  n) M a1 a2 a3
set_option maxRecDepth 20000 in
set_option maxHeartbeats 4000000 in
theorem c_X9_paid {l : Launch} (hfl : l.stackTraces = false) (Z : gZ) (M : gM) (a1 : Int32) : gMet l yX9_paid cX9_paid 4 (some .int) rm_X9_paid 1 0 Z M [.ref (zad Z 9), .int a1] (f_X9_paid M a1) := by
  refine g_enter hfl (by decide) (Nat.le_of_ble_eq_true rfl) (fun p e s m args below meth c hC => ?_)
  refine g_eq (F := f_X9_paid M a1) rfl ?_
  refine g_lv0 (lv1 := [(0, .ref (zad Z 9)), (1, .int a1)]) rfl ?_
  unfold f_X9_paid
  refine g_iconst hC (v := 0) dX9_paid_0 (by decide) ?_
  refine g_istore_n hC (lv1 := [(2, .int 0), (0, .ref (zad Z 9)), (1, .int a1)]) dX9_paid_1 rfl (by decide) rfl ?_
  refine g_iconst hC (v := 0) dX9_paid_2 (by decide) ?_
  refine g_istore_n hC (lv1 := [(3, .int 0), (2, .int 0), (0, .ref (zad Z 9)), (1, .int a1)]) dX9_paid_3 rfl (by decide) rfl ?_
  refine g_sub (lv1 := [(0, .ref (zad Z 9)), (1, .int a1), (2, .int 0), (3, .int 0)]) [2, 3, 1, 0] rfl ?_
  exact g_X9_paid_l4 hC  5000 M a1 0 0

-- ===== X9_appeal =====
def f_X9_appeal_b120 (self78 : gM → Int32 → Int32 → Int32 → Int32 → Int32 → gR) (M : gM) (a1 : Int32) (a2 : Int32) (a3 : Int32) (a6 : Int32) (t0 : Int32) : gR := (bV (t0 + 0) (fun x1 => (bV (a6 + 1) (fun x2 => (self78 M a1 a2 a3 x1 x2)))))
def f_X9_appeal_b154  (M : gM) (a1 : Int32) (t1 : Int32) : gR := (rb (f_X9_refused M t1) (fun x4 M3 => (if x4 = 0 then (rb (f_X9_enter M3 7 a1 0 0) (fun x6 M5 => (gI a1 24 (bM (gset M5 112 a1.toNatClampNeg 3) (fun M7 => (rRet x6 M7)))))) else (rRet 0 M3))))
def f_X9_appeal_b149  (M : gM) (a1 : Int32)  : gR := (f_X9_appeal_b154  M a1 2)
def f_X9_appeal_b130  (M : gM) (a1 : Int32) (a2 : Int32) (a3 : Int32) (a5 : Int32)  : gR := (if a2 = 0 then (f_X9_appeal_b154  M a1 1) else (if a3 = 0 then (f_X9_appeal_b149  M a1 ) else (if a5 ≤ 1 then (f_X9_appeal_b154  M a1 0) else (f_X9_appeal_b149  M a1 ))))
def f_X9_appeal_lb78  (self78 : gM → Int32 → Int32 → Int32 → Int32 → Int32 → gR) (M : gM) (a1 : Int32) (a2 : Int32) (a3 : Int32) (a5 : Int32) (a6 : Int32) : gR := (if (M 9 23) ≤ a6 then (f_X9_appeal_b130  M a1 a2 a3 a5 ) else (if a3 = 0 then (f_X9_appeal_b130  M a1 a2 a3 a5 ) else (gI a6 160 (if (M 120 a6.toNatClampNeg) = 7 then (gI a6 160 (if (M 122 a6.toNatClampNeg) = a1 then (bV (a5 + 1) (fun x8 => (bV (a6 + 1) (fun x9 => (self78 M a1 a2 a3 x8 x9))))) else (f_X9_appeal_b120 self78 M a1 a2 a3 a6 a5))) else (f_X9_appeal_b120 self78 M a1 a2 a3 a6 a5)))))
def f_X9_appeal_l78  : Nat → gM → Int32 → Int32 → Int32 → Int32 → Int32 → gR
  | 0, _, _, _, _, _, _ => rStuck
  | n + 1, M, a1, a2, a3, a5, a6 => f_X9_appeal_lb78  (f_X9_appeal_l78  n) M a1 a2 a3 a5 a6
def f_X9_appeal_b67  (M : gM) (a1 : Int32) (a2 : Int32) (a3 : Int32) (t0 : Int32) : gR := (bV (t0 + 1) (fun x10 => (f_X9_appeal_l78  5000 M a1 a2 a3 0 x10)))
def f_X9_appeal_b52  (M : gM) (a1 : Int32) (a2 : Int32) (t0 : Int32) : gR := (if t0 = 0 then (f_X9_appeal_b67  M a1 a2 t0 (-1)) else (rb (f_X9_latest M a1 5) (fun x12 M11 => (f_X9_appeal_b67  M11 a1 a2 t0 x12))))
def f_X9_appeal_b51  (M : gM) (a1 : Int32) (a2 : Int32)  : gR := (f_X9_appeal_b52  M a1 a2 0)
def f_X9_appeal (M : gM) (a1 : Int32) : gR := (rb (f_X9_isClaim M a1) (fun x14 M13 => (if x14 = 0 then (f_X9_appeal_b51  M13 a1 x14 ) else (rb (f_X9_hasRoom M13 ) (fun x16 M15 => (if x16 = 0 then (f_X9_appeal_b51  M15 a1 x14 ) else (gI a1 24 (if (M15 112 a1.toNatClampNeg) = 2 then (rb (f_X9_paid M15 a1) (fun x18 M17 => (if x18 = 0 then (rb (f_X9_appealDue M17 a1) (fun x20 M19 => (rb (f_X9_isBehind M19 x20) (fun x22 M21 => (if x22 = 0 then (f_X9_appeal_b52  M21 a1 x14 1) else (f_X9_appeal_b51  M21 a1 x14 )))))) else (f_X9_appeal_b51  M17 a1 x14 )))) else (f_X9_appeal_b51  M15 a1 x14 )))))))))
abbrev rm_X9_appeal : Room := { frames := 4, cells := 0, slots := 0, locals := 95 }
set_option maxRecDepth 20000 in
set_option maxHeartbeats 4000000 in
theorem g_X9_appeal_b120 {p : Program} {l : Launch} {e : Env} {s : State} {m : MethodId} {args : Array Value} {below : List Frame} {meth : Method} {c : Code} {Z : gZ} (hC : gC p l s m args meth c cX9_appeal 7 RX9 (some .int) Z) {self78 : gM → Int32 → Int32 → Int32 → Int32 → Int32 → gR} (hs78 : ∀ (M : gM) (a1 : Int32) (a2 : Int32) (a3 : Int32) (a5 : Int32) (a6 : Int32) , gW p l e rm_X9_appeal s m args below meth c 7 Z 1 0 0 M 78 [(0, .ref (zad Z 9)), (1, .int a1), (2, .int a2), (3, .int a3), (5, .int a5), (6, .int a6)] [] (self78 M a1 a2 a3 a5 a6)) (M : gM) (a1 : Int32) (a2 : Int32) (a3 : Int32) (a6 : Int32) (t0 : Int32) : gW p l e rm_X9_appeal s m args below meth c 7 Z 1 0 0 M 120 [(0, .ref (zad Z 9)), (1, .int a1), (2, .int a2), (3, .int a3), (6, .int a6)] [.int t0] (f_X9_appeal_b120 self78 M a1 a2 a3 a6 t0) := by
  unfold f_X9_appeal_b120
  refine g_iconst hC (v := 0) dX9_appeal_120 (by decide) ?_
  refine g_iadd hC dX9_appeal_121 ?_
  refine g_bv (fun x1 => ?_)
  refine g_istore hC (lv1 := [(5, .int x1), (0, .ref (zad Z 9)), (1, .int a1), (2, .int a2), (3, .int a3), (6, .int a6)]) dX9_appeal_122 (by decide) rfl ?_
  refine g_iinc hC 5 (v := 1) (fun x2 => [(6, .int x2), (5, .int x1), (0, .ref (zad Z 9)), (1, .int a1), (2, .int a2), (3, .int a3)]) dX9_appeal_124 rfl (by decide) (by decide) (fun _ => rfl) (fun x2 => ?_)
  refine g_goto (tgt := 78) hC dX9_appeal_127 (by decide) ?_
  refine g_sub (lv1 := [(0, .ref (zad Z 9)), (1, .int a1), (2, .int a2), (3, .int a3), (5, .int x1), (6, .int x2)]) [2, 3, 4, 5, 1, 0] rfl ?_
  exact hs78 M a1 a2 a3 x1 x2
set_option maxRecDepth 20000 in
set_option maxHeartbeats 4000000 in
theorem g_X9_appeal_b154 {p : Program} {l : Launch} {e : Env} {s : State} {m : MethodId} {args : Array Value} {below : List Frame} {meth : Method} {c : Code} {Z : gZ} (hC : gC p l s m args meth c cX9_appeal 7 RX9 (some .int) Z)   (M : gM) (a1 : Int32) (t1 : Int32) : gW p l e rm_X9_appeal s m args below meth c 7 Z 1 0 0 M 154 [(0, .ref (zad Z 9)), (1, .int a1)] [.int t1, .ref (zad Z 9)] (f_X9_appeal_b154  M a1 t1) := by
  unfold f_X9_appeal_b154
  refine g_callVi (n := 1) hC [.int t1] 9 9 (by decide) rfl rfl (fun hne => c_X9_refused hC.2.2.2.2.2.2.2.1 Z M t1 hne) lk_X9_155 mw_X9_refused.1 mw_X9_refused.2.1 mw_X9_refused.2.2.1 mw_X9_refused.2.2.2 ⟨rfl, by decide, by decide, by decide +kernel⟩ rfl rfl ⟨by decide, by decide⟩ rfl rfl (Nat.le_of_ble_eq_true rfl) (by decide) (by decide) (by decide) dX9_appeal_154 (fun x4 M3 => ?_)
  refine g_if_eq (tgt := 162) hC dX9_appeal_157 (by decide) (fun _ => ?_) (fun _ => ?_)
  · refine g_aload_n hC 0 dX9_appeal_162 rfl rfl ?_
    refine g_bipush hC (v := 7) dX9_appeal_163 (by decide) ?_
    refine g_iload_n hC 1 dX9_appeal_165 rfl rfl ?_
    refine g_iconst hC (v := 0) dX9_appeal_166 (by decide) ?_
    refine g_iconst hC (v := 0) dX9_appeal_167 (by decide) ?_
    refine g_callVi (n := 4) hC [.int 7, .int a1, .int 0, .int 0] 9 9 (by decide) rfl rfl (fun hne => c_X9_enter hC.2.2.2.2.2.2.2.1 Z M3 7 a1 0 0 hne) lk_X9_237 mw_X9_enter.1 mw_X9_enter.2.1 mw_X9_enter.2.2.1 mw_X9_enter.2.2.2 ⟨rfl, by decide, by decide, by decide +kernel⟩ rfl rfl ⟨by decide, by decide⟩ rfl rfl (Nat.le_of_ble_eq_true rfl) (by decide) (by decide) (by decide) dX9_appeal_168 (fun x6 M5 => ?_)
    refine g_istore hC (lv1 := [(6, .int x6), (0, .ref (zad Z 9)), (1, .int a1)]) dX9_appeal_171 (by decide) rfl ?_
    refine g_aload_n hC 1 dX9_appeal_173 rfl rfl ?_
    refine gf_X9_41 hC dX9_appeal_174 ?_
    refine g_iload_n hC 2 dX9_appeal_177 rfl rfl ?_
    refine g_iconst hC (v := 3) dX9_appeal_178 (by decide) ?_
    refine g_iast hC 112 (by decide) rfl dX9_appeal_179 (fun M7 => ?_)
    refine g_iload hC 0 dX9_appeal_180 rfl ?_
    exact g_iret hC rfl (by decide) dX9_appeal_182
  · refine g_iconst hC (v := 0) dX9_appeal_160 (by decide) ?_
    exact g_iret hC rfl (by decide) dX9_appeal_161
set_option maxRecDepth 20000 in
set_option maxHeartbeats 4000000 in
theorem g_X9_appeal_b149 {p : Program} {l : Launch} {e : Env} {s : State} {m : MethodId} {args : Array Value} {below : List Frame} {meth : Method} {c : Code} {Z : gZ} (hC : gC p l s m args meth c cX9_appeal 7 RX9 (some .int) Z)   (M : gM) (a1 : Int32)  : gW p l e rm_X9_appeal s m args below meth c 7 Z 1 0 0 M 149 [(0, .ref (zad Z 9)), (1, .int a1)] [.ref (zad Z 9)] (f_X9_appeal_b149  M a1 ) := by
  unfold f_X9_appeal_b149
  refine g_iconst hC (v := 2) dX9_appeal_149 (by decide) ?_
  refine g_goto (tgt := 154) hC dX9_appeal_150 (by decide) ?_
  exact g_X9_appeal_b154 hC  M a1 2
set_option maxRecDepth 20000 in
set_option maxHeartbeats 4000000 in
theorem g_X9_appeal_b130 {p : Program} {l : Launch} {e : Env} {s : State} {m : MethodId} {args : Array Value} {below : List Frame} {meth : Method} {c : Code} {Z : gZ} (hC : gC p l s m args meth c cX9_appeal 7 RX9 (some .int) Z)   (M : gM) (a1 : Int32) (a2 : Int32) (a3 : Int32) (a5 : Int32)  : gW p l e rm_X9_appeal s m args below meth c 7 Z 1 0 0 M 130 [(0, .ref (zad Z 9)), (1, .int a1), (2, .int a2), (3, .int a3), (5, .int a5)] [] (f_X9_appeal_b130  M a1 a2 a3 a5 ) := by
  unfold f_X9_appeal_b130
  refine g_aload_n hC 0 dX9_appeal_130 rfl rfl ?_
  refine g_iload_n hC 2 dX9_appeal_131 rfl rfl ?_
  refine g_if_ne (tgt := 139) hC dX9_appeal_132 (by decide) (fun _ => ?_) (fun _ => ?_)
  · refine g_iconst hC (v := 1) dX9_appeal_135 (by decide) ?_
    refine g_goto (tgt := 154) hC dX9_appeal_136 (by decide) ?_
    refine g_sub (lv1 := [(0, .ref (zad Z 9)), (1, .int a1)]) [0, 1] rfl ?_
    exact g_X9_appeal_b154 hC  M a1 1
  · refine g_iload_n hC 3 dX9_appeal_139 rfl rfl ?_
    refine g_if_eq (tgt := 149) hC dX9_appeal_140 (by decide) (fun _ => ?_) (fun _ => ?_)
    · refine g_sub (lv1 := [(0, .ref (zad Z 9)), (1, .int a1)]) [0, 1] rfl ?_
      exact g_X9_appeal_b149 hC  M a1 
    · refine g_iload hC 4 dX9_appeal_143 rfl ?_
      refine g_iconst hC (v := 1) dX9_appeal_145 (by decide) ?_
      refine g_icmp_le (tgt := 153) hC dX9_appeal_146 (by decide) (fun _ => ?_) (fun _ => ?_)
      · refine g_iconst hC (v := 0) dX9_appeal_153 (by decide) ?_
        refine g_sub (lv1 := [(0, .ref (zad Z 9)), (1, .int a1)]) [0, 1] rfl ?_
        exact g_X9_appeal_b154 hC  M a1 0
      · refine g_sub (lv1 := [(0, .ref (zad Z 9)), (1, .int a1)]) [0, 1] rfl ?_
        exact g_X9_appeal_b149 hC  M a1 
set_option maxRecDepth 20000 in
set_option maxHeartbeats 4000000 in
theorem g_X9_appeal_lb78 {p : Program} {l : Launch} {e : Env} {s : State} {m : MethodId} {args : Array Value} {below : List Frame} {meth : Method} {c : Code} {Z : gZ} (hC : gC p l s m args meth c cX9_appeal 7 RX9 (some .int) Z)  {self78 : gM → Int32 → Int32 → Int32 → Int32 → Int32 → gR}  (hs78 : ∀ (M : gM) (a1 : Int32) (a2 : Int32) (a3 : Int32) (a5 : Int32) (a6 : Int32) , gW p l e rm_X9_appeal s m args below meth c 7 Z 1 0 0 M 78 [(0, .ref (zad Z 9)), (1, .int a1), (2, .int a2), (3, .int a3), (5, .int a5), (6, .int a6)] [] (self78 M a1 a2 a3 a5 a6)) (M : gM) (a1 : Int32) (a2 : Int32) (a3 : Int32) (a5 : Int32) (a6 : Int32) : gW p l e rm_X9_appeal s m args below meth c 7 Z 1 0 0 M 78 [(0, .ref (zad Z 9)), (1, .int a1), (2, .int a2), (3, .int a3), (5, .int a5), (6, .int a6)] [] (f_X9_appeal_lb78  self78 M a1 a2 a3 a5 a6) := by
  unfold f_X9_appeal_lb78
  refine g_iload hC 5 dX9_appeal_78 rfl ?_
  refine g_aload_n hC 0 dX9_appeal_80 rfl rfl ?_
  refine gf_X9_171 hC dX9_appeal_81 ?_
  refine g_icmp_ge (tgt := 130) hC dX9_appeal_84 (by decide) (fun _ => ?_) (fun _ => ?_)
  · refine g_sub (lv1 := [(0, .ref (zad Z 9)), (1, .int a1), (2, .int a2), (3, .int a3), (5, .int a5)]) [0, 1, 2, 3, 4] rfl ?_
    exact g_X9_appeal_b130 hC  M a1 a2 a3 a5 
  · refine g_iload_n hC 3 dX9_appeal_87 rfl rfl ?_
    refine g_if_eq (tgt := 130) hC dX9_appeal_88 (by decide) (fun _ => ?_) (fun _ => ?_)
    · refine g_sub (lv1 := [(0, .ref (zad Z 9)), (1, .int a1), (2, .int a2), (3, .int a3), (5, .int a5)]) [0, 1, 2, 3, 4] rfl ?_
      exact g_X9_appeal_b130 hC  M a1 a2 a3 a5 
    · refine g_iload hC 4 dX9_appeal_91 rfl ?_
      refine g_aload_n hC 0 dX9_appeal_93 rfl rfl ?_
      refine gf_X9_65 hC dX9_appeal_94 ?_
      refine g_iload hC 5 dX9_appeal_97 rfl ?_
      refine g_iald hC 120 (by decide) rfl dX9_appeal_99 ?_
      refine g_bipush hC (v := 7) dX9_appeal_100 (by decide) ?_
      refine g_icmp_ne (tgt := 120) hC dX9_appeal_102 (by decide) (fun _ => ?_) (fun _ => ?_)
      · refine g_aload_n hC 0 dX9_appeal_105 rfl rfl ?_
        refine gf_X9_71 hC dX9_appeal_106 ?_
        refine g_iload hC 5 dX9_appeal_109 rfl ?_
        refine g_iald hC 122 (by decide) rfl dX9_appeal_111 ?_
        refine g_iload_n hC 1 dX9_appeal_112 rfl rfl ?_
        refine g_icmp_ne (tgt := 120) hC dX9_appeal_113 (by decide) (fun _ => ?_) (fun _ => ?_)
        · refine g_iconst hC (v := 1) dX9_appeal_116 (by decide) ?_
          refine g_goto (tgt := 121) hC dX9_appeal_117 (by decide) ?_
          refine g_iadd hC dX9_appeal_121 ?_
          refine g_bv (fun x8 => ?_)
          refine g_istore hC (lv1 := [(5, .int x8), (0, .ref (zad Z 9)), (1, .int a1), (2, .int a2), (3, .int a3), (6, .int a6)]) dX9_appeal_122 (by decide) rfl ?_
          refine g_iinc hC 5 (v := 1) (fun x9 => [(6, .int x9), (5, .int x8), (0, .ref (zad Z 9)), (1, .int a1), (2, .int a2), (3, .int a3)]) dX9_appeal_124 rfl (by decide) (by decide) (fun _ => rfl) (fun x9 => ?_)
          refine g_goto (tgt := 78) hC dX9_appeal_127 (by decide) ?_
          refine g_sub (lv1 := [(0, .ref (zad Z 9)), (1, .int a1), (2, .int a2), (3, .int a3), (5, .int x8), (6, .int x9)]) [2, 3, 4, 5, 1, 0] rfl ?_
          exact hs78 M a1 a2 a3 x8 x9
        · refine g_sub (lv1 := [(0, .ref (zad Z 9)), (1, .int a1), (2, .int a2), (3, .int a3), (6, .int a6)]) [0, 1, 2, 3, 5] rfl ?_
          exact g_X9_appeal_b120 hC hs78 M a1 a2 a3 a6 a5
      · refine g_sub (lv1 := [(0, .ref (zad Z 9)), (1, .int a1), (2, .int a2), (3, .int a3), (6, .int a6)]) [0, 1, 2, 3, 5] rfl ?_
        exact g_X9_appeal_b120 hC hs78 M a1 a2 a3 a6 a5
set_option maxRecDepth 20000 in
set_option maxHeartbeats 4000000 in
theorem g_X9_appeal_l78 {p : Program} {l : Launch} {e : Env} {s : State} {m : MethodId} {args : Array Value} {below : List Frame} {meth : Method} {c : Code} {Z : gZ} (hC : gC p l s m args meth c cX9_appeal 7 RX9 (some .int) Z)   : ∀ (n : Nat) (M : gM) (a1 : Int32) (a2 : Int32) (a3 : Int32) (a5 : Int32) (a6 : Int32), gW p l e rm_X9_appeal s m args below meth c 7 Z 1 0 0 M 78 [(0, .ref (zad Z 9)), (1, .int a1), (2, .int a2), (3, .int a3), (5, .int a5), (6, .int a6)] [] (f_X9_appeal_l78  n M a1 a2 a3 a5 a6)
  | 0, _, _, _, _, _, _ => g_stuck
  | n + 1, M, a1, a2, a3, a5, a6 => g_X9_appeal_lb78 hC  (g_X9_appeal_l78 hC  n) M a1 a2 a3 a5 a6
set_option maxRecDepth 20000 in
set_option maxHeartbeats 4000000 in
theorem g_X9_appeal_b67 {p : Program} {l : Launch} {e : Env} {s : State} {m : MethodId} {args : Array Value} {below : List Frame} {meth : Method} {c : Code} {Z : gZ} (hC : gC p l s m args meth c cX9_appeal 7 RX9 (some .int) Z)   (M : gM) (a1 : Int32) (a2 : Int32) (a3 : Int32) (t0 : Int32) : gW p l e rm_X9_appeal s m args below meth c 7 Z 1 0 0 M 67 [(0, .ref (zad Z 9)), (1, .int a1), (2, .int a2), (3, .int a3)] [.int t0] (f_X9_appeal_b67  M a1 a2 a3 t0) := by
  unfold f_X9_appeal_b67
  refine g_istore hC (lv1 := [(4, .int t0), (0, .ref (zad Z 9)), (1, .int a1), (2, .int a2), (3, .int a3)]) dX9_appeal_67 (by decide) rfl ?_
  refine g_iconst hC (v := 0) dX9_appeal_69 (by decide) ?_
  refine g_istore hC (lv1 := [(5, .int 0), (4, .int t0), (0, .ref (zad Z 9)), (1, .int a1), (2, .int a2), (3, .int a3)]) dX9_appeal_70 (by decide) rfl ?_
  refine g_iload hC 1 dX9_appeal_72 rfl ?_
  refine g_iconst hC (v := 1) dX9_appeal_74 (by decide) ?_
  refine g_iadd hC dX9_appeal_75 ?_
  refine g_bv (fun x10 => ?_)
  refine g_istore hC (lv1 := [(6, .int x10), (5, .int 0), (4, .int t0), (0, .ref (zad Z 9)), (1, .int a1), (2, .int a2), (3, .int a3)]) dX9_appeal_76 (by decide) rfl ?_
  refine g_sub (lv1 := [(0, .ref (zad Z 9)), (1, .int a1), (2, .int a2), (3, .int a3), (5, .int 0), (6, .int x10)]) [3, 4, 5, 6, 1, 0] rfl ?_
  exact g_X9_appeal_l78 hC  5000 M a1 a2 a3 0 x10
set_option maxRecDepth 20000 in
set_option maxHeartbeats 4000000 in
theorem g_X9_appeal_b52 {p : Program} {l : Launch} {e : Env} {s : State} {m : MethodId} {args : Array Value} {below : List Frame} {meth : Method} {c : Code} {Z : gZ} (hC : gC p l s m args meth c cX9_appeal 7 RX9 (some .int) Z)   (M : gM) (a1 : Int32) (a2 : Int32) (t0 : Int32) : gW p l e rm_X9_appeal s m args below meth c 7 Z 1 0 0 M 52 [(0, .ref (zad Z 9)), (1, .int a1), (2, .int a2)] [.int t0] (f_X9_appeal_b52  M a1 a2 t0) := by
  unfold f_X9_appeal_b52
  refine g_istore_n hC (lv1 := [(3, .int t0), (0, .ref (zad Z 9)), (1, .int a1), (2, .int a2)]) dX9_appeal_52 rfl (by decide) rfl ?_
  refine g_iload_n hC 0 dX9_appeal_53 rfl rfl ?_
  refine g_if_eq (tgt := 66) hC dX9_appeal_54 (by decide) (fun _ => ?_) (fun _ => ?_)
  · refine g_iconst hC (v := (-1)) dX9_appeal_66 (by decide) ?_
    refine g_sub (lv1 := [(0, .ref (zad Z 9)), (1, .int a1), (2, .int a2), (3, .int t0)]) [1, 2, 3, 0] rfl ?_
    exact g_X9_appeal_b67 hC  M a1 a2 t0 (-1)
  · refine g_aload_n hC 1 dX9_appeal_57 rfl rfl ?_
    refine g_iload_n hC 2 dX9_appeal_58 rfl rfl ?_
    refine g_iconst hC (v := 5) dX9_appeal_59 (by decide) ?_
    refine g_callVi (n := 2) hC [.int a1, .int 5] 9 9 (by decide) rfl rfl (fun hne => c_X9_latest hC.2.2.2.2.2.2.2.1 Z M a1 5 hne) lk_X9_220 mw_X9_latest.1 mw_X9_latest.2.1 mw_X9_latest.2.2.1 mw_X9_latest.2.2.2 ⟨rfl, by decide, by decide, by decide +kernel⟩ rfl rfl ⟨by decide, by decide⟩ rfl rfl (Nat.le_of_ble_eq_true rfl) (by decide) (by decide) (by decide) dX9_appeal_60 (fun x12 M11 => ?_)
    refine g_goto (tgt := 67) hC dX9_appeal_63 (by decide) ?_
    refine g_sub (lv1 := [(0, .ref (zad Z 9)), (1, .int a1), (2, .int a2), (3, .int t0)]) [1, 2, 3, 0] rfl ?_
    exact g_X9_appeal_b67 hC  M11 a1 a2 t0 x12
set_option maxRecDepth 20000 in
set_option maxHeartbeats 4000000 in
theorem g_X9_appeal_b51 {p : Program} {l : Launch} {e : Env} {s : State} {m : MethodId} {args : Array Value} {below : List Frame} {meth : Method} {c : Code} {Z : gZ} (hC : gC p l s m args meth c cX9_appeal 7 RX9 (some .int) Z)   (M : gM) (a1 : Int32) (a2 : Int32)  : gW p l e rm_X9_appeal s m args below meth c 7 Z 1 0 0 M 51 [(0, .ref (zad Z 9)), (1, .int a1), (2, .int a2)] [] (f_X9_appeal_b51  M a1 a2 ) := by
  unfold f_X9_appeal_b51
  refine g_iconst hC (v := 0) dX9_appeal_51 (by decide) ?_
  exact g_X9_appeal_b52 hC  M a1 a2 0
set_option maxRecDepth 20000 in
set_option maxHeartbeats 4000000 in
theorem c_X9_appeal {l : Launch} (hfl : l.stackTraces = false) (Z : gZ) (M : gM) (a1 : Int32) : gMet l yX9_appeal cX9_appeal 7 (some .int) rm_X9_appeal 1 0 Z M [.ref (zad Z 9), .int a1] (f_X9_appeal M a1) := by
  refine g_enter hfl (by decide) (Nat.le_of_ble_eq_true rfl) (fun p e s m args below meth c hC => ?_)
  refine g_eq (F := f_X9_appeal M a1) rfl ?_
  refine g_lv0 (lv1 := [(0, .ref (zad Z 9)), (1, .int a1)]) rfl ?_
  unfold f_X9_appeal
  refine g_aload_n hC 0 dX9_appeal_0 rfl rfl ?_
  refine g_iload_n hC 1 dX9_appeal_1 rfl rfl ?_
  refine g_callVi (n := 1) hC [.int a1] 9 9 (by decide) rfl rfl (fun hne => c_X9_isClaim hC.2.2.2.2.2.2.2.1 Z M a1 hne) lk_X9_195 mw_X9_isClaim.1 mw_X9_isClaim.2.1 mw_X9_isClaim.2.2.1 mw_X9_isClaim.2.2.2 ⟨rfl, by decide, by decide, by decide +kernel⟩ rfl rfl ⟨by decide, by decide⟩ rfl rfl (Nat.le_of_ble_eq_true rfl) (by decide) (by decide) (by decide) dX9_appeal_2 (fun x14 M13 => ?_)
  refine g_istore_n hC (lv1 := [(2, .int x14), (0, .ref (zad Z 9)), (1, .int a1)]) dX9_appeal_5 rfl (by decide) rfl ?_
  refine g_iload_n hC 0 dX9_appeal_6 rfl rfl ?_
  refine g_if_eq (tgt := 51) hC dX9_appeal_7 (by decide) (fun _ => ?_) (fun _ => ?_)
  · refine g_sub (lv1 := [(0, .ref (zad Z 9)), (1, .int a1), (2, .int x14)]) [1, 2, 0] rfl ?_
    exact g_X9_appeal_b51 hC  M13 a1 x14 
  · refine g_aload_n hC 1 dX9_appeal_10 rfl rfl ?_
    refine g_callVi (n := 0) hC [] 9 9 (by decide) rfl rfl (fun hne => c_X9_hasRoom hC.2.2.2.2.2.2.2.1 Z M13  hne) lk_X9_233 mw_X9_hasRoom.1 mw_X9_hasRoom.2.1 mw_X9_hasRoom.2.2.1 mw_X9_hasRoom.2.2.2 ⟨rfl, by decide, by decide, by decide +kernel⟩ rfl rfl ⟨by decide, by decide⟩ rfl rfl (Nat.le_of_ble_eq_true rfl) (by decide) (by decide) (by decide) dX9_appeal_11 (fun x16 M15 => ?_)
    refine g_if_eq (tgt := 51) hC dX9_appeal_14 (by decide) (fun _ => ?_) (fun _ => ?_)
    · refine g_sub (lv1 := [(0, .ref (zad Z 9)), (1, .int a1), (2, .int x14)]) [1, 2, 0] rfl ?_
      exact g_X9_appeal_b51 hC  M15 a1 x14 
    · refine g_aload_n hC 1 dX9_appeal_17 rfl rfl ?_
      refine gf_X9_41 hC dX9_appeal_18 ?_
      refine g_iload_n hC 2 dX9_appeal_21 rfl rfl ?_
      refine g_iald hC 112 (by decide) rfl dX9_appeal_22 ?_
      refine g_iconst hC (v := 2) dX9_appeal_23 (by decide) ?_
      refine g_icmp_ne (tgt := 51) hC dX9_appeal_24 (by decide) (fun _ => ?_) (fun _ => ?_)
      · refine g_aload_n hC 1 dX9_appeal_27 rfl rfl ?_
        refine g_iload_n hC 2 dX9_appeal_28 rfl rfl ?_
        refine g_callVi (n := 1) hC [.int a1] 9 9 (by decide) rfl rfl (fun hne => c_X9_paid hC.2.2.2.2.2.2.2.1 Z M15 a1 hne) lk_X9_262 mw_X9_paid.1 mw_X9_paid.2.1 mw_X9_paid.2.2.1 mw_X9_paid.2.2.2 ⟨rfl, by decide, by decide, by decide +kernel⟩ rfl rfl ⟨by decide, by decide⟩ rfl rfl (Nat.le_of_ble_eq_true rfl) (by decide) (by decide) (by decide) dX9_appeal_29 (fun x18 M17 => ?_)
        refine g_if_ne (tgt := 51) hC dX9_appeal_32 (by decide) (fun _ => ?_) (fun _ => ?_)
        · refine g_aload_n hC 1 dX9_appeal_35 rfl rfl ?_
          refine g_aload_n hC 1 dX9_appeal_36 rfl rfl ?_
          refine g_iload_n hC 2 dX9_appeal_37 rfl rfl ?_
          refine g_callVi (n := 1) hC [.int a1] 9 9 (by decide) rfl rfl (fun hne => c_X9_appealDue hC.2.2.2.2.2.2.2.1 Z M17 a1 hne) lk_X9_265 mw_X9_appealDue.1 mw_X9_appealDue.2.1 mw_X9_appealDue.2.2.1 mw_X9_appealDue.2.2.2 ⟨rfl, by decide, by decide, by decide +kernel⟩ rfl rfl ⟨by decide, by decide⟩ rfl rfl (Nat.le_of_ble_eq_true rfl) (by decide) (by decide) (by decide) dX9_appeal_38 (fun x20 M19 => ?_)
          refine g_callVi (n := 1) hC [.int x20] 9 9 (by decide) rfl rfl (fun hne => c_X9_isBehind hC.2.2.2.2.2.2.2.1 Z M19 x20 hne) lk_X9_207 mw_X9_isBehind.1 mw_X9_isBehind.2.1 mw_X9_isBehind.2.2.1 mw_X9_isBehind.2.2.2 ⟨rfl, by decide, by decide, by decide +kernel⟩ rfl rfl ⟨by decide, by decide⟩ rfl rfl (Nat.le_of_ble_eq_true rfl) (by decide) (by decide) (by decide) dX9_appeal_41 (fun x22 M21 => ?_)
          refine g_if_ne (tgt := 51) hC dX9_appeal_44 (by decide) (fun _ => ?_) (fun _ => ?_)
          · refine g_iconst hC (v := 1) dX9_appeal_47 (by decide) ?_
            refine g_goto (tgt := 52) hC dX9_appeal_48 (by decide) ?_
            refine g_sub (lv1 := [(0, .ref (zad Z 9)), (1, .int a1), (2, .int x14)]) [1, 2, 0] rfl ?_
            exact g_X9_appeal_b52 hC  M21 a1 x14 1
          · refine g_sub (lv1 := [(0, .ref (zad Z 9)), (1, .int a1), (2, .int x14)]) [1, 2, 0] rfl ?_
            exact g_X9_appeal_b51 hC  M21 a1 x14 
        · refine g_sub (lv1 := [(0, .ref (zad Z 9)), (1, .int a1), (2, .int x14)]) [1, 2, 0] rfl ?_
          exact g_X9_appeal_b51 hC  M17 a1 x14 
      · refine g_sub (lv1 := [(0, .ref (zad Z 9)), (1, .int a1), (2, .int x14)]) [1, 2, 0] rfl ?_
        exact g_X9_appeal_b51 hC  M15 a1 x14 

-- ===== X9_decide =====
def f_X9_decide_b164  (M : gM) (a1 : Int32) (a2 : Int32) (a3 : Int32) (a7 : Int32) (a8 : Int32) (t1 : Int32) (t2 : Int32) : gR := (gI t1 24 (bM (gset M 112 t1.toNatClampNeg t2) (fun M1 => (if a2 = 2 then (gI a1 24 (bM (gset M1 114 a1.toNatClampNeg a3) (fun M2 => (gI a7 160 (gI a1 24 (bM (gset M2 113 a1.toNatClampNeg (M2 128 a7.toNatClampNeg)) (fun M3 => (rRet a8 M3)))))))) else (rRet a8 M1)))))
def f_X9_decide_b136  (M : gM) (a1 : Int32) (a2 : Int32) (a3 : Int32) (a7 : Int32) (t1 : Int32) (t2 : Int32) (t3 : Int32) (t4 : Int32) : gR := (rb (f_X9_enter M t1 t2 t3 t4) (fun x5 M4 => (if a2 = 0 then (f_X9_decide_b164  M4 a1 a2 a3 a7 x5 a1 2) else (if a2 = 1 then (f_X9_decide_b164  M4 a1 a2 a3 a7 x5 a1 1) else (f_X9_decide_b164  M4 a1 a2 a3 a7 x5 a1 0)))))
def f_X9_decide_b105  (M : gM) (a1 : Int32) (a2 : Int32) (a3 : Int32) (t1 : Int32) : gR := (rb (f_X9_refused M t1) (fun x7 M6 => (if x7 = 0 then (rb (f_X9_latest M6 a1 5) (fun x9 M8 => (if a2 = 2 then (f_X9_decide_b136  M8 a1 a2 a3 x9 8 a1 a2 a3) else (f_X9_decide_b136  M8 a1 a2 a3 x9 8 a1 a2 0)))) else (rRet 0 M6))))
def f_X9_decide_b74  (M : gM) (a1 : Int32) (a2 : Int32) (a3 : Int32) (a4 : Int32) (a5 : Int32) (t0 : Int32) : gR := (if a4 = 0 then (f_X9_decide_b105  M a1 a2 a3 1) else (if a5 = 0 then (f_X9_decide_b105  M a1 a2 a3 2) else (if t0 = 0 then (f_X9_decide_b105  M a1 a2 a3 3) else (f_X9_decide_b105  M a1 a2 a3 0))))
def f_X9_decide_b73  (M : gM) (a1 : Int32) (a2 : Int32) (a3 : Int32) (a4 : Int32) (a5 : Int32)  : gR := (f_X9_decide_b74  M a1 a2 a3 a4 a5 0)
def f_X9_decide_b45  (M : gM) (a1 : Int32) (a2 : Int32) (a3 : Int32) (a4 : Int32) (t0 : Int32) : gR := (if a4 = 0 then (f_X9_decide_b73  M a1 a2 a3 a4 t0 ) else (rb (f_X9_hasRoom M ) (fun x11 M10 => (if x11 = 0 then (f_X9_decide_b73  M10 a1 a2 a3 a4 t0 ) else (gI a1 24 (if (M10 112 a1.toNatClampNeg) = 3 then (f_X9_decide_b74  M10 a1 a2 a3 a4 t0 1) else (f_X9_decide_b73  M10 a1 a2 a3 a4 t0 )))))))
def f_X9_decide_b40  (M : gM) (a1 : Int32) (a2 : Int32) (a3 : Int32) (a4 : Int32)  : gR := (f_X9_decide_b45  M a1 a2 a3 a4 1)
def f_X9_decide_b44  (M : gM) (a1 : Int32) (a2 : Int32) (a3 : Int32) (a4 : Int32)  : gR := (f_X9_decide_b45  M a1 a2 a3 a4 0)
def f_X9_decide (M : gM) (a1 : Int32) (a2 : Int32) (a3 : Int32) : gR := (rb (f_X9_isClaim M a1) (fun x13 M12 => (if x13 = 0 then (f_X9_decide_b44  M12 a1 a2 a3 x13 ) else (rb (f_X9_within M12 a2 0 2) (fun x15 M14 => (if x15 = 0 then (f_X9_decide_b44  M14 a1 a2 a3 x13 ) else (if a2 < 2 then (f_X9_decide_b40  M14 a1 a2 a3 x13 ) else (gI a1 24 (rb (f_X9_within M14 a3 0 (M14 113 a1.toNatClampNeg)) (fun x17 M16 => (if x17 = 0 then (f_X9_decide_b44  M16 a1 a2 a3 x13 ) else (f_X9_decide_b40  M16 a1 a2 a3 x13 ))))))))))))
abbrev rm_X9_decide : Room := { frames := 2, cells := 0, slots := 0, locals := 43 }
set_option maxRecDepth 20000 in
set_option maxHeartbeats 4000000 in
theorem g_X9_decide_b164 {p : Program} {l : Launch} {e : Env} {s : State} {m : MethodId} {args : Array Value} {below : List Frame} {meth : Method} {c : Code} {Z : gZ} (hC : gC p l s m args meth c cX9_decide 9 RX9 (some .int) Z)   (M : gM) (a1 : Int32) (a2 : Int32) (a3 : Int32) (a7 : Int32) (a8 : Int32) (t1 : Int32) (t2 : Int32) : gW p l e rm_X9_decide s m args below meth c 9 Z 1 0 0 M 164 [(0, .ref (zad Z 9)), (1, .int a1), (2, .int a2), (3, .int a3), (7, .int a7), (8, .int a8)] [.int t2, .int t1, .ref (zad Z 112)] (f_X9_decide_b164  M a1 a2 a3 a7 a8 t1 t2) := by
  unfold f_X9_decide_b164
  refine g_iast hC 112 (by decide) rfl dX9_decide_164 (fun M1 => ?_)
  refine g_iload_n hC 2 dX9_decide_165 rfl rfl ?_
  refine g_iconst hC (v := 2) dX9_decide_166 (by decide) ?_
  refine g_icmp_ne (tgt := 190) hC dX9_decide_167 (by decide) (fun _ => ?_) (fun _ => ?_)
  · refine g_aload_n hC 0 dX9_decide_170 rfl rfl ?_
    refine gf_X9_47 hC dX9_decide_171 ?_
    refine g_iload_n hC 1 dX9_decide_174 rfl rfl ?_
    refine g_iload_n hC 3 dX9_decide_175 rfl rfl ?_
    refine g_iast hC 114 (by decide) rfl dX9_decide_176 (fun M2 => ?_)
    refine g_aload_n hC 0 dX9_decide_177 rfl rfl ?_
    refine gf_X9_44 hC dX9_decide_178 ?_
    refine g_iload_n hC 1 dX9_decide_181 rfl rfl ?_
    refine g_aload_n hC 0 dX9_decide_182 rfl rfl ?_
    refine gf_X9_89 hC dX9_decide_183 ?_
    refine g_iload hC 4 dX9_decide_186 rfl ?_
    refine g_iald hC 128 (by decide) rfl dX9_decide_188 ?_
    refine g_iast hC 113 (by decide) rfl dX9_decide_189 (fun M3 => ?_)
    refine g_iload hC 5 dX9_decide_190 rfl ?_
    exact g_iret hC rfl (by decide) dX9_decide_192
  · refine g_iload hC 5 dX9_decide_190 rfl ?_
    exact g_iret hC rfl (by decide) dX9_decide_192
set_option maxRecDepth 20000 in
set_option maxHeartbeats 4000000 in
theorem g_X9_decide_b136 {p : Program} {l : Launch} {e : Env} {s : State} {m : MethodId} {args : Array Value} {below : List Frame} {meth : Method} {c : Code} {Z : gZ} (hC : gC p l s m args meth c cX9_decide 9 RX9 (some .int) Z)   (M : gM) (a1 : Int32) (a2 : Int32) (a3 : Int32) (a7 : Int32) (t1 : Int32) (t2 : Int32) (t3 : Int32) (t4 : Int32) : gW p l e rm_X9_decide s m args below meth c 9 Z 1 0 0 M 136 [(0, .ref (zad Z 9)), (1, .int a1), (2, .int a2), (3, .int a3), (7, .int a7)] [.int t4, .int t3, .int t2, .int t1, .ref (zad Z 9)] (f_X9_decide_b136  M a1 a2 a3 a7 t1 t2 t3 t4) := by
  unfold f_X9_decide_b136
  refine g_callVi (n := 4) hC [.int t1, .int t2, .int t3, .int t4] 9 9 (by decide) rfl rfl (fun hne => c_X9_enter hC.2.2.2.2.2.2.2.1 Z M t1 t2 t3 t4 hne) lk_X9_237 mw_X9_enter.1 mw_X9_enter.2.1 mw_X9_enter.2.2.1 mw_X9_enter.2.2.2 ⟨rfl, by decide, by decide, by decide +kernel⟩ rfl rfl ⟨by decide, by decide⟩ rfl rfl (Nat.le_of_ble_eq_true rfl) (by decide) (by decide) (by decide) dX9_decide_136 (fun x5 M4 => ?_)
  refine g_istore hC (lv1 := [(8, .int x5), (0, .ref (zad Z 9)), (1, .int a1), (2, .int a2), (3, .int a3), (7, .int a7)]) dX9_decide_139 (by decide) rfl ?_
  refine g_aload_n hC 1 dX9_decide_141 rfl rfl ?_
  refine gf_X9_41 hC dX9_decide_142 ?_
  refine g_iload_n hC 2 dX9_decide_145 rfl rfl ?_
  refine g_iload_n hC 3 dX9_decide_146 rfl rfl ?_
  refine g_if_ne (tgt := 154) hC dX9_decide_147 (by decide) (fun _ => ?_) (fun _ => ?_)
  · refine g_iconst hC (v := 2) dX9_decide_150 (by decide) ?_
    refine g_goto (tgt := 164) hC dX9_decide_151 (by decide) ?_
    refine g_sub (lv1 := [(0, .ref (zad Z 9)), (1, .int a1), (2, .int a2), (3, .int a3), (7, .int a7), (8, .int x5)]) [1, 2, 3, 4, 5, 0] rfl ?_
    exact g_X9_decide_b164 hC  M4 a1 a2 a3 a7 x5 a1 2
  · refine g_iload_n hC 3 dX9_decide_154 rfl rfl ?_
    refine g_iconst hC (v := 1) dX9_decide_155 (by decide) ?_
    refine g_icmp_ne (tgt := 163) hC dX9_decide_156 (by decide) (fun _ => ?_) (fun _ => ?_)
    · refine g_iconst hC (v := 1) dX9_decide_159 (by decide) ?_
      refine g_goto (tgt := 164) hC dX9_decide_160 (by decide) ?_
      refine g_sub (lv1 := [(0, .ref (zad Z 9)), (1, .int a1), (2, .int a2), (3, .int a3), (7, .int a7), (8, .int x5)]) [1, 2, 3, 4, 5, 0] rfl ?_
      exact g_X9_decide_b164 hC  M4 a1 a2 a3 a7 x5 a1 1
    · refine g_iconst hC (v := 0) dX9_decide_163 (by decide) ?_
      refine g_sub (lv1 := [(0, .ref (zad Z 9)), (1, .int a1), (2, .int a2), (3, .int a3), (7, .int a7), (8, .int x5)]) [1, 2, 3, 4, 5, 0] rfl ?_
      exact g_X9_decide_b164 hC  M4 a1 a2 a3 a7 x5 a1 0
set_option maxRecDepth 20000 in
set_option maxHeartbeats 4000000 in
theorem g_X9_decide_b105 {p : Program} {l : Launch} {e : Env} {s : State} {m : MethodId} {args : Array Value} {below : List Frame} {meth : Method} {c : Code} {Z : gZ} (hC : gC p l s m args meth c cX9_decide 9 RX9 (some .int) Z)   (M : gM) (a1 : Int32) (a2 : Int32) (a3 : Int32) (t1 : Int32) : gW p l e rm_X9_decide s m args below meth c 9 Z 1 0 0 M 105 [(0, .ref (zad Z 9)), (1, .int a1), (2, .int a2), (3, .int a3)] [.int t1, .ref (zad Z 9)] (f_X9_decide_b105  M a1 a2 a3 t1) := by
  unfold f_X9_decide_b105
  refine g_callVi (n := 1) hC [.int t1] 9 9 (by decide) rfl rfl (fun hne => c_X9_refused hC.2.2.2.2.2.2.2.1 Z M t1 hne) lk_X9_155 mw_X9_refused.1 mw_X9_refused.2.1 mw_X9_refused.2.2.1 mw_X9_refused.2.2.2 ⟨rfl, by decide, by decide, by decide +kernel⟩ rfl rfl ⟨by decide, by decide⟩ rfl rfl (Nat.le_of_ble_eq_true rfl) (by decide) (by decide) (by decide) dX9_decide_105 (fun x7 M6 => ?_)
  refine g_if_eq (tgt := 113) hC dX9_decide_108 (by decide) (fun _ => ?_) (fun _ => ?_)
  · refine g_aload_n hC 0 dX9_decide_113 rfl rfl ?_
    refine g_iload_n hC 1 dX9_decide_114 rfl rfl ?_
    refine g_iconst hC (v := 5) dX9_decide_115 (by decide) ?_
    refine g_callVi (n := 2) hC [.int a1, .int 5] 9 9 (by decide) rfl rfl (fun hne => c_X9_latest hC.2.2.2.2.2.2.2.1 Z M6 a1 5 hne) lk_X9_220 mw_X9_latest.1 mw_X9_latest.2.1 mw_X9_latest.2.2.1 mw_X9_latest.2.2.2 ⟨rfl, by decide, by decide, by decide +kernel⟩ rfl rfl ⟨by decide, by decide⟩ rfl rfl (Nat.le_of_ble_eq_true rfl) (by decide) (by decide) (by decide) dX9_decide_116 (fun x9 M8 => ?_)
    refine g_istore hC (lv1 := [(7, .int x9), (0, .ref (zad Z 9)), (1, .int a1), (2, .int a2), (3, .int a3)]) dX9_decide_119 (by decide) rfl ?_
    refine g_aload_n hC 1 dX9_decide_121 rfl rfl ?_
    refine g_bipush hC (v := 8) dX9_decide_122 (by decide) ?_
    refine g_iload_n hC 2 dX9_decide_124 rfl rfl ?_
    refine g_iload_n hC 3 dX9_decide_125 rfl rfl ?_
    refine g_iload_n hC 3 dX9_decide_126 rfl rfl ?_
    refine g_iconst hC (v := 2) dX9_decide_127 (by decide) ?_
    refine g_icmp_ne (tgt := 135) hC dX9_decide_128 (by decide) (fun _ => ?_) (fun _ => ?_)
    · refine g_iload_n hC 4 dX9_decide_131 rfl rfl ?_
      refine g_goto (tgt := 136) hC dX9_decide_132 (by decide) ?_
      refine g_sub (lv1 := [(0, .ref (zad Z 9)), (1, .int a1), (2, .int a2), (3, .int a3), (7, .int x9)]) [1, 2, 3, 4, 0] rfl ?_
      exact g_X9_decide_b136 hC  M8 a1 a2 a3 x9 8 a1 a2 a3
    · refine g_iconst hC (v := 0) dX9_decide_135 (by decide) ?_
      refine g_sub (lv1 := [(0, .ref (zad Z 9)), (1, .int a1), (2, .int a2), (3, .int a3), (7, .int x9)]) [1, 2, 3, 4, 0] rfl ?_
      exact g_X9_decide_b136 hC  M8 a1 a2 a3 x9 8 a1 a2 0
  · refine g_iconst hC (v := 0) dX9_decide_111 (by decide) ?_
    exact g_iret hC rfl (by decide) dX9_decide_112
set_option maxRecDepth 20000 in
set_option maxHeartbeats 4000000 in
theorem g_X9_decide_b74 {p : Program} {l : Launch} {e : Env} {s : State} {m : MethodId} {args : Array Value} {below : List Frame} {meth : Method} {c : Code} {Z : gZ} (hC : gC p l s m args meth c cX9_decide 9 RX9 (some .int) Z)   (M : gM) (a1 : Int32) (a2 : Int32) (a3 : Int32) (a4 : Int32) (a5 : Int32) (t0 : Int32) : gW p l e rm_X9_decide s m args below meth c 9 Z 1 0 0 M 74 [(0, .ref (zad Z 9)), (1, .int a1), (2, .int a2), (3, .int a3), (4, .int a4), (5, .int a5)] [.int t0] (f_X9_decide_b74  M a1 a2 a3 a4 a5 t0) := by
  unfold f_X9_decide_b74
  refine g_istore hC (lv1 := [(6, .int t0), (0, .ref (zad Z 9)), (1, .int a1), (2, .int a2), (3, .int a3), (4, .int a4), (5, .int a5)]) dX9_decide_74 (by decide) rfl ?_
  refine g_aload_n hC 1 dX9_decide_76 rfl rfl ?_
  refine g_iload hC 5 dX9_decide_77 rfl ?_
  refine g_if_ne (tgt := 86) hC dX9_decide_79 (by decide) (fun _ => ?_) (fun _ => ?_)
  · refine g_iconst hC (v := 1) dX9_decide_82 (by decide) ?_
    refine g_goto (tgt := 105) hC dX9_decide_83 (by decide) ?_
    refine g_sub (lv1 := [(0, .ref (zad Z 9)), (1, .int a1), (2, .int a2), (3, .int a3)]) [1, 2, 3, 4] rfl ?_
    exact g_X9_decide_b105 hC  M a1 a2 a3 1
  · refine g_iload hC 6 dX9_decide_86 rfl ?_
    refine g_if_ne (tgt := 95) hC dX9_decide_88 (by decide) (fun _ => ?_) (fun _ => ?_)
    · refine g_iconst hC (v := 2) dX9_decide_91 (by decide) ?_
      refine g_goto (tgt := 105) hC dX9_decide_92 (by decide) ?_
      refine g_sub (lv1 := [(0, .ref (zad Z 9)), (1, .int a1), (2, .int a2), (3, .int a3)]) [1, 2, 3, 4] rfl ?_
      exact g_X9_decide_b105 hC  M a1 a2 a3 2
    · refine g_iload hC 0 dX9_decide_95 rfl ?_
      refine g_if_ne (tgt := 104) hC dX9_decide_97 (by decide) (fun _ => ?_) (fun _ => ?_)
      · refine g_iconst hC (v := 3) dX9_decide_100 (by decide) ?_
        refine g_goto (tgt := 105) hC dX9_decide_101 (by decide) ?_
        refine g_sub (lv1 := [(0, .ref (zad Z 9)), (1, .int a1), (2, .int a2), (3, .int a3)]) [1, 2, 3, 4] rfl ?_
        exact g_X9_decide_b105 hC  M a1 a2 a3 3
      · refine g_iconst hC (v := 0) dX9_decide_104 (by decide) ?_
        refine g_sub (lv1 := [(0, .ref (zad Z 9)), (1, .int a1), (2, .int a2), (3, .int a3)]) [1, 2, 3, 4] rfl ?_
        exact g_X9_decide_b105 hC  M a1 a2 a3 0
set_option maxRecDepth 20000 in
set_option maxHeartbeats 4000000 in
theorem g_X9_decide_b73 {p : Program} {l : Launch} {e : Env} {s : State} {m : MethodId} {args : Array Value} {below : List Frame} {meth : Method} {c : Code} {Z : gZ} (hC : gC p l s m args meth c cX9_decide 9 RX9 (some .int) Z)   (M : gM) (a1 : Int32) (a2 : Int32) (a3 : Int32) (a4 : Int32) (a5 : Int32)  : gW p l e rm_X9_decide s m args below meth c 9 Z 1 0 0 M 73 [(0, .ref (zad Z 9)), (1, .int a1), (2, .int a2), (3, .int a3), (4, .int a4), (5, .int a5)] [] (f_X9_decide_b73  M a1 a2 a3 a4 a5 ) := by
  unfold f_X9_decide_b73
  refine g_iconst hC (v := 0) dX9_decide_73 (by decide) ?_
  exact g_X9_decide_b74 hC  M a1 a2 a3 a4 a5 0
set_option maxRecDepth 20000 in
set_option maxHeartbeats 4000000 in
theorem g_X9_decide_b45 {p : Program} {l : Launch} {e : Env} {s : State} {m : MethodId} {args : Array Value} {below : List Frame} {meth : Method} {c : Code} {Z : gZ} (hC : gC p l s m args meth c cX9_decide 9 RX9 (some .int) Z)   (M : gM) (a1 : Int32) (a2 : Int32) (a3 : Int32) (a4 : Int32) (t0 : Int32) : gW p l e rm_X9_decide s m args below meth c 9 Z 1 0 0 M 45 [(0, .ref (zad Z 9)), (1, .int a1), (2, .int a2), (3, .int a3), (4, .int a4)] [.int t0] (f_X9_decide_b45  M a1 a2 a3 a4 t0) := by
  unfold f_X9_decide_b45
  refine g_istore hC (lv1 := [(5, .int t0), (0, .ref (zad Z 9)), (1, .int a1), (2, .int a2), (3, .int a3), (4, .int a4)]) dX9_decide_45 (by decide) rfl ?_
  refine g_iload hC 5 dX9_decide_47 rfl ?_
  refine g_if_eq (tgt := 73) hC dX9_decide_49 (by decide) (fun _ => ?_) (fun _ => ?_)
  · refine g_sub (lv1 := [(0, .ref (zad Z 9)), (1, .int a1), (2, .int a2), (3, .int a3), (4, .int a4), (5, .int t0)]) [1, 2, 3, 4, 5, 0] rfl ?_
    exact g_X9_decide_b73 hC  M a1 a2 a3 a4 t0 
  · refine g_aload_n hC 1 dX9_decide_52 rfl rfl ?_
    refine g_callVi (n := 0) hC [] 9 9 (by decide) rfl rfl (fun hne => c_X9_hasRoom hC.2.2.2.2.2.2.2.1 Z M  hne) lk_X9_233 mw_X9_hasRoom.1 mw_X9_hasRoom.2.1 mw_X9_hasRoom.2.2.1 mw_X9_hasRoom.2.2.2 ⟨rfl, by decide, by decide, by decide +kernel⟩ rfl rfl ⟨by decide, by decide⟩ rfl rfl (Nat.le_of_ble_eq_true rfl) (by decide) (by decide) (by decide) dX9_decide_53 (fun x11 M10 => ?_)
    refine g_if_eq (tgt := 73) hC dX9_decide_56 (by decide) (fun _ => ?_) (fun _ => ?_)
    · refine g_sub (lv1 := [(0, .ref (zad Z 9)), (1, .int a1), (2, .int a2), (3, .int a3), (4, .int a4), (5, .int t0)]) [1, 2, 3, 4, 5, 0] rfl ?_
      exact g_X9_decide_b73 hC  M10 a1 a2 a3 a4 t0 
    · refine g_aload_n hC 1 dX9_decide_59 rfl rfl ?_
      refine gf_X9_41 hC dX9_decide_60 ?_
      refine g_iload_n hC 2 dX9_decide_63 rfl rfl ?_
      refine g_iald hC 112 (by decide) rfl dX9_decide_64 ?_
      refine g_iconst hC (v := 3) dX9_decide_65 (by decide) ?_
      refine g_icmp_ne (tgt := 73) hC dX9_decide_66 (by decide) (fun _ => ?_) (fun _ => ?_)
      · refine g_iconst hC (v := 1) dX9_decide_69 (by decide) ?_
        refine g_goto (tgt := 74) hC dX9_decide_70 (by decide) ?_
        refine g_sub (lv1 := [(0, .ref (zad Z 9)), (1, .int a1), (2, .int a2), (3, .int a3), (4, .int a4), (5, .int t0)]) [1, 2, 3, 4, 5, 0] rfl ?_
        exact g_X9_decide_b74 hC  M10 a1 a2 a3 a4 t0 1
      · refine g_sub (lv1 := [(0, .ref (zad Z 9)), (1, .int a1), (2, .int a2), (3, .int a3), (4, .int a4), (5, .int t0)]) [1, 2, 3, 4, 5, 0] rfl ?_
        exact g_X9_decide_b73 hC  M10 a1 a2 a3 a4 t0 
set_option maxRecDepth 20000 in
set_option maxHeartbeats 4000000 in
theorem g_X9_decide_b40 {p : Program} {l : Launch} {e : Env} {s : State} {m : MethodId} {args : Array Value} {below : List Frame} {meth : Method} {c : Code} {Z : gZ} (hC : gC p l s m args meth c cX9_decide 9 RX9 (some .int) Z)   (M : gM) (a1 : Int32) (a2 : Int32) (a3 : Int32) (a4 : Int32)  : gW p l e rm_X9_decide s m args below meth c 9 Z 1 0 0 M 40 [(0, .ref (zad Z 9)), (1, .int a1), (2, .int a2), (3, .int a3), (4, .int a4)] [] (f_X9_decide_b40  M a1 a2 a3 a4 ) := by
  unfold f_X9_decide_b40
  refine g_iconst hC (v := 1) dX9_decide_40 (by decide) ?_
  refine g_goto (tgt := 45) hC dX9_decide_41 (by decide) ?_
  exact g_X9_decide_b45 hC  M a1 a2 a3 a4 1
set_option maxRecDepth 20000 in
set_option maxHeartbeats 4000000 in
theorem g_X9_decide_b44 {p : Program} {l : Launch} {e : Env} {s : State} {m : MethodId} {args : Array Value} {below : List Frame} {meth : Method} {c : Code} {Z : gZ} (hC : gC p l s m args meth c cX9_decide 9 RX9 (some .int) Z)   (M : gM) (a1 : Int32) (a2 : Int32) (a3 : Int32) (a4 : Int32)  : gW p l e rm_X9_decide s m args below meth c 9 Z 1 0 0 M 44 [(0, .ref (zad Z 9)), (1, .int a1), (2, .int a2), (3, .int a3), (4, .int a4)] [] (f_X9_decide_b44  M a1 a2 a3 a4 ) := by
  unfold f_X9_decide_b44
  refine g_iconst hC (v := 0) dX9_decide_44 (by decide) ?_
  exact g_X9_decide_b45 hC  M a1 a2 a3 a4 0
set_option maxRecDepth 20000 in
set_option maxHeartbeats 4000000 in
theorem c_X9_decide {l : Launch} (hfl : l.stackTraces = false) (Z : gZ) (M : gM) (a1 : Int32) (a2 : Int32) (a3 : Int32) : gMet l yX9_decide cX9_decide 9 (some .int) rm_X9_decide 1 0 Z M [.ref (zad Z 9), .int a1, .int a2, .int a3] (f_X9_decide M a1 a2 a3) := by
  refine g_enter hfl (by decide) (Nat.le_of_ble_eq_true rfl) (fun p e s m args below meth c hC => ?_)
  refine g_eq (F := f_X9_decide M a1 a2 a3) rfl ?_
  refine g_lv0 (lv1 := [(0, .ref (zad Z 9)), (1, .int a1), (2, .int a2), (3, .int a3)]) rfl ?_
  unfold f_X9_decide
  refine g_aload_n hC 0 dX9_decide_0 rfl rfl ?_
  refine g_iload_n hC 1 dX9_decide_1 rfl rfl ?_
  refine g_callVi (n := 1) hC [.int a1] 9 9 (by decide) rfl rfl (fun hne => c_X9_isClaim hC.2.2.2.2.2.2.2.1 Z M a1 hne) lk_X9_195 mw_X9_isClaim.1 mw_X9_isClaim.2.1 mw_X9_isClaim.2.2.1 mw_X9_isClaim.2.2.2 ⟨rfl, by decide, by decide, by decide +kernel⟩ rfl rfl ⟨by decide, by decide⟩ rfl rfl (Nat.le_of_ble_eq_true rfl) (by decide) (by decide) (by decide) dX9_decide_2 (fun x13 M12 => ?_)
  refine g_istore hC (lv1 := [(4, .int x13), (0, .ref (zad Z 9)), (1, .int a1), (2, .int a2), (3, .int a3)]) dX9_decide_5 (by decide) rfl ?_
  refine g_iload hC 0 dX9_decide_7 rfl ?_
  refine g_if_eq (tgt := 44) hC dX9_decide_9 (by decide) (fun _ => ?_) (fun _ => ?_)
  · refine g_sub (lv1 := [(0, .ref (zad Z 9)), (1, .int a1), (2, .int a2), (3, .int a3), (4, .int x13)]) [1, 2, 3, 4, 0] rfl ?_
    exact g_X9_decide_b44 hC  M12 a1 a2 a3 x13 
  · refine g_iload_n hC 3 dX9_decide_12 rfl rfl ?_
    refine g_iconst hC (v := 0) dX9_decide_13 (by decide) ?_
    refine g_iconst hC (v := 2) dX9_decide_14 (by decide) ?_
    refine g_callSi (n := 3) hC [.int a2, .int 0, .int 2] (fun hne => c_X9_within hC.2.2.2.2.2.2.2.1 Z M12 a2 0 2 hne) lk_X9_148 mw_X9_within.1 mw_X9_within.2.1 mw_X9_within.2.2 ⟨by decide, by decide, by decide +kernel⟩ rfl rfl ⟨by decide, by decide⟩ rfl rfl (Nat.le_of_ble_eq_true rfl) (by decide) (by decide) (by decide) dX9_decide_15 (fun x15 M14 => ?_)
    refine g_if_eq (tgt := 44) hC dX9_decide_18 (by decide) (fun _ => ?_) (fun _ => ?_)
    · refine g_sub (lv1 := [(0, .ref (zad Z 9)), (1, .int a1), (2, .int a2), (3, .int a3), (4, .int x13)]) [1, 2, 3, 4, 0] rfl ?_
      exact g_X9_decide_b44 hC  M14 a1 a2 a3 x13 
    · refine g_iload_n hC 3 dX9_decide_21 rfl rfl ?_
      refine g_iconst hC (v := 2) dX9_decide_22 (by decide) ?_
      refine g_icmp_lt (tgt := 40) hC dX9_decide_23 (by decide) (fun _ => ?_) (fun _ => ?_)
      · refine g_sub (lv1 := [(0, .ref (zad Z 9)), (1, .int a1), (2, .int a2), (3, .int a3), (4, .int x13)]) [1, 2, 3, 4, 0] rfl ?_
        exact g_X9_decide_b40 hC  M14 a1 a2 a3 x13 
      · refine g_iload_n hC 4 dX9_decide_26 rfl rfl ?_
        refine g_iconst hC (v := 0) dX9_decide_27 (by decide) ?_
        refine g_aload_n hC 1 dX9_decide_28 rfl rfl ?_
        refine gf_X9_44 hC dX9_decide_29 ?_
        refine g_iload_n hC 2 dX9_decide_32 rfl rfl ?_
        refine g_iald hC 113 (by decide) rfl dX9_decide_33 ?_
        refine g_callSi (n := 3) hC [.int a3, .int 0, .int (M14 113 a1.toNatClampNeg)] (fun hne => c_X9_within hC.2.2.2.2.2.2.2.1 Z M14 a3 0 (M14 113 a1.toNatClampNeg) hne) lk_X9_148 mw_X9_within.1 mw_X9_within.2.1 mw_X9_within.2.2 ⟨by decide, by decide, by decide +kernel⟩ rfl rfl ⟨by decide, by decide⟩ rfl rfl (Nat.le_of_ble_eq_true rfl) (by decide) (by decide) (by decide) dX9_decide_34 (fun x17 M16 => ?_)
        refine g_if_eq (tgt := 44) hC dX9_decide_37 (by decide) (fun _ => ?_) (fun _ => ?_)
        · refine g_sub (lv1 := [(0, .ref (zad Z 9)), (1, .int a1), (2, .int a2), (3, .int a3), (4, .int x13)]) [1, 2, 3, 4, 0] rfl ?_
          exact g_X9_decide_b44 hC  M16 a1 a2 a3 x13 
        · refine g_sub (lv1 := [(0, .ref (zad Z 9)), (1, .int a1), (2, .int a2), (3, .int a3), (4, .int x13)]) [1, 2, 3, 4, 0] rfl ?_
          exact g_X9_decide_b40 hC  M16 a1 a2 a3 x13 

-- ===== X9_settle =====
def f_X9_settle_b70  (M : gM) (a1 : Int32) (t1 : Int32) : gR := (rb (f_X9_refused M t1) (fun x2 M1 => (if x2 = 0 then (rb (f_X9_enter M1 9 a1 0 0) (fun x4 M3 => (gI a1 24 (bM (gset M3 112 a1.toNatClampNeg 4) (fun M5 => (rRet x4 M5)))))) else (rRet 0 M1))))
def f_X9_settle_b51  (M : gM) (a1 : Int32) (a2 : Int32) (t0 : Int32) : gR := (if a2 = 0 then (f_X9_settle_b70  M a1 1) else (if t0 = 0 then (f_X9_settle_b70  M a1 2) else (f_X9_settle_b70  M a1 0)))
def f_X9_settle_b46  (M : gM) (a1 : Int32) (a2 : Int32)  : gR := (f_X9_settle_b51  M a1 a2 1)
def f_X9_settle_b50  (M : gM) (a1 : Int32) (a2 : Int32)  : gR := (f_X9_settle_b51  M a1 a2 0)
def f_X9_settle (M : gM) (a1 : Int32) : gR := (rb (f_X9_isClaim M a1) (fun x7 M6 => (if x7 = 0 then (f_X9_settle_b50  M6 a1 x7 ) else (rb (f_X9_hasRoom M6 ) (fun x9 M8 => (if x9 = 0 then (f_X9_settle_b50  M8 a1 x7 ) else (gI a1 24 (if (M8 112 a1.toNatClampNeg) = 0 then (f_X9_settle_b46  M8 a1 x7 ) else (gI a1 24 (if (M8 112 a1.toNatClampNeg) = 2 then (f_X9_settle_b46  M8 a1 x7 ) else (gI a1 24 (if (M8 112 a1.toNatClampNeg) = 3 then (f_X9_settle_b46  M8 a1 x7 ) else (f_X9_settle_b50  M8 a1 x7 )))))))))))))
abbrev rm_X9_settle : Room := { frames := 2, cells := 0, slots := 0, locals := 43 }
set_option maxRecDepth 20000 in
set_option maxHeartbeats 4000000 in
theorem g_X9_settle_b70 {p : Program} {l : Launch} {e : Env} {s : State} {m : MethodId} {args : Array Value} {below : List Frame} {meth : Method} {c : Code} {Z : gZ} (hC : gC p l s m args meth c cX9_settle 5 RX9 (some .int) Z)   (M : gM) (a1 : Int32) (t1 : Int32) : gW p l e rm_X9_settle s m args below meth c 5 Z 1 0 0 M 70 [(0, .ref (zad Z 9)), (1, .int a1)] [.int t1, .ref (zad Z 9)] (f_X9_settle_b70  M a1 t1) := by
  unfold f_X9_settle_b70
  refine g_callVi (n := 1) hC [.int t1] 9 9 (by decide) rfl rfl (fun hne => c_X9_refused hC.2.2.2.2.2.2.2.1 Z M t1 hne) lk_X9_155 mw_X9_refused.1 mw_X9_refused.2.1 mw_X9_refused.2.2.1 mw_X9_refused.2.2.2 ⟨rfl, by decide, by decide, by decide +kernel⟩ rfl rfl ⟨by decide, by decide⟩ rfl rfl (Nat.le_of_ble_eq_true rfl) (by decide) (by decide) (by decide) dX9_settle_70 (fun x2 M1 => ?_)
  refine g_if_eq (tgt := 78) hC dX9_settle_73 (by decide) (fun _ => ?_) (fun _ => ?_)
  · refine g_aload_n hC 0 dX9_settle_78 rfl rfl ?_
    refine g_bipush hC (v := 9) dX9_settle_79 (by decide) ?_
    refine g_iload_n hC 1 dX9_settle_81 rfl rfl ?_
    refine g_iconst hC (v := 0) dX9_settle_82 (by decide) ?_
    refine g_iconst hC (v := 0) dX9_settle_83 (by decide) ?_
    refine g_callVi (n := 4) hC [.int 9, .int a1, .int 0, .int 0] 9 9 (by decide) rfl rfl (fun hne => c_X9_enter hC.2.2.2.2.2.2.2.1 Z M1 9 a1 0 0 hne) lk_X9_237 mw_X9_enter.1 mw_X9_enter.2.1 mw_X9_enter.2.2.1 mw_X9_enter.2.2.2 ⟨rfl, by decide, by decide, by decide +kernel⟩ rfl rfl ⟨by decide, by decide⟩ rfl rfl (Nat.le_of_ble_eq_true rfl) (by decide) (by decide) (by decide) dX9_settle_84 (fun x4 M3 => ?_)
    refine g_istore hC (lv1 := [(4, .int x4), (0, .ref (zad Z 9)), (1, .int a1)]) dX9_settle_87 (by decide) rfl ?_
    refine g_aload_n hC 1 dX9_settle_89 rfl rfl ?_
    refine gf_X9_41 hC dX9_settle_90 ?_
    refine g_iload_n hC 2 dX9_settle_93 rfl rfl ?_
    refine g_iconst hC (v := 4) dX9_settle_94 (by decide) ?_
    refine g_iast hC 112 (by decide) rfl dX9_settle_95 (fun M5 => ?_)
    refine g_iload hC 0 dX9_settle_96 rfl ?_
    exact g_iret hC rfl (by decide) dX9_settle_98
  · refine g_iconst hC (v := 0) dX9_settle_76 (by decide) ?_
    exact g_iret hC rfl (by decide) dX9_settle_77
set_option maxRecDepth 20000 in
set_option maxHeartbeats 4000000 in
theorem g_X9_settle_b51 {p : Program} {l : Launch} {e : Env} {s : State} {m : MethodId} {args : Array Value} {below : List Frame} {meth : Method} {c : Code} {Z : gZ} (hC : gC p l s m args meth c cX9_settle 5 RX9 (some .int) Z)   (M : gM) (a1 : Int32) (a2 : Int32) (t0 : Int32) : gW p l e rm_X9_settle s m args below meth c 5 Z 1 0 0 M 51 [(0, .ref (zad Z 9)), (1, .int a1), (2, .int a2)] [.int t0] (f_X9_settle_b51  M a1 a2 t0) := by
  unfold f_X9_settle_b51
  refine g_istore_n hC (lv1 := [(3, .int t0), (0, .ref (zad Z 9)), (1, .int a1), (2, .int a2)]) dX9_settle_51 rfl (by decide) rfl ?_
  refine g_aload_n hC 1 dX9_settle_52 rfl rfl ?_
  refine g_iload_n hC 3 dX9_settle_53 rfl rfl ?_
  refine g_if_ne (tgt := 61) hC dX9_settle_54 (by decide) (fun _ => ?_) (fun _ => ?_)
  · refine g_iconst hC (v := 1) dX9_settle_57 (by decide) ?_
    refine g_goto (tgt := 70) hC dX9_settle_58 (by decide) ?_
    refine g_sub (lv1 := [(0, .ref (zad Z 9)), (1, .int a1)]) [1, 2] rfl ?_
    exact g_X9_settle_b70 hC  M a1 1
  · refine g_iload_n hC 0 dX9_settle_61 rfl rfl ?_
    refine g_if_ne (tgt := 69) hC dX9_settle_62 (by decide) (fun _ => ?_) (fun _ => ?_)
    · refine g_iconst hC (v := 2) dX9_settle_65 (by decide) ?_
      refine g_goto (tgt := 70) hC dX9_settle_66 (by decide) ?_
      refine g_sub (lv1 := [(0, .ref (zad Z 9)), (1, .int a1)]) [1, 2] rfl ?_
      exact g_X9_settle_b70 hC  M a1 2
    · refine g_iconst hC (v := 0) dX9_settle_69 (by decide) ?_
      refine g_sub (lv1 := [(0, .ref (zad Z 9)), (1, .int a1)]) [1, 2] rfl ?_
      exact g_X9_settle_b70 hC  M a1 0
set_option maxRecDepth 20000 in
set_option maxHeartbeats 4000000 in
theorem g_X9_settle_b46 {p : Program} {l : Launch} {e : Env} {s : State} {m : MethodId} {args : Array Value} {below : List Frame} {meth : Method} {c : Code} {Z : gZ} (hC : gC p l s m args meth c cX9_settle 5 RX9 (some .int) Z)   (M : gM) (a1 : Int32) (a2 : Int32)  : gW p l e rm_X9_settle s m args below meth c 5 Z 1 0 0 M 46 [(0, .ref (zad Z 9)), (1, .int a1), (2, .int a2)] [] (f_X9_settle_b46  M a1 a2 ) := by
  unfold f_X9_settle_b46
  refine g_iconst hC (v := 1) dX9_settle_46 (by decide) ?_
  refine g_goto (tgt := 51) hC dX9_settle_47 (by decide) ?_
  exact g_X9_settle_b51 hC  M a1 a2 1
set_option maxRecDepth 20000 in
set_option maxHeartbeats 4000000 in
theorem g_X9_settle_b50 {p : Program} {l : Launch} {e : Env} {s : State} {m : MethodId} {args : Array Value} {below : List Frame} {meth : Method} {c : Code} {Z : gZ} (hC : gC p l s m args meth c cX9_settle 5 RX9 (some .int) Z)   (M : gM) (a1 : Int32) (a2 : Int32)  : gW p l e rm_X9_settle s m args below meth c 5 Z 1 0 0 M 50 [(0, .ref (zad Z 9)), (1, .int a1), (2, .int a2)] [] (f_X9_settle_b50  M a1 a2 ) := by
  unfold f_X9_settle_b50
  refine g_iconst hC (v := 0) dX9_settle_50 (by decide) ?_
  exact g_X9_settle_b51 hC  M a1 a2 0
set_option maxRecDepth 20000 in
set_option maxHeartbeats 4000000 in
theorem c_X9_settle {l : Launch} (hfl : l.stackTraces = false) (Z : gZ) (M : gM) (a1 : Int32) : gMet l yX9_settle cX9_settle 5 (some .int) rm_X9_settle 1 0 Z M [.ref (zad Z 9), .int a1] (f_X9_settle M a1) := by
  refine g_enter hfl (by decide) (Nat.le_of_ble_eq_true rfl) (fun p e s m args below meth c hC => ?_)
  refine g_eq (F := f_X9_settle M a1) rfl ?_
  refine g_lv0 (lv1 := [(0, .ref (zad Z 9)), (1, .int a1)]) rfl ?_
  unfold f_X9_settle
  refine g_aload_n hC 0 dX9_settle_0 rfl rfl ?_
  refine g_iload_n hC 1 dX9_settle_1 rfl rfl ?_
  refine g_callVi (n := 1) hC [.int a1] 9 9 (by decide) rfl rfl (fun hne => c_X9_isClaim hC.2.2.2.2.2.2.2.1 Z M a1 hne) lk_X9_195 mw_X9_isClaim.1 mw_X9_isClaim.2.1 mw_X9_isClaim.2.2.1 mw_X9_isClaim.2.2.2 ⟨rfl, by decide, by decide, by decide +kernel⟩ rfl rfl ⟨by decide, by decide⟩ rfl rfl (Nat.le_of_ble_eq_true rfl) (by decide) (by decide) (by decide) dX9_settle_2 (fun x7 M6 => ?_)
  refine g_istore_n hC (lv1 := [(2, .int x7), (0, .ref (zad Z 9)), (1, .int a1)]) dX9_settle_5 rfl (by decide) rfl ?_
  refine g_iload_n hC 0 dX9_settle_6 rfl rfl ?_
  refine g_if_eq (tgt := 50) hC dX9_settle_7 (by decide) (fun _ => ?_) (fun _ => ?_)
  · refine g_sub (lv1 := [(0, .ref (zad Z 9)), (1, .int a1), (2, .int x7)]) [1, 2, 0] rfl ?_
    exact g_X9_settle_b50 hC  M6 a1 x7 
  · refine g_aload_n hC 1 dX9_settle_10 rfl rfl ?_
    refine g_callVi (n := 0) hC [] 9 9 (by decide) rfl rfl (fun hne => c_X9_hasRoom hC.2.2.2.2.2.2.2.1 Z M6  hne) lk_X9_233 mw_X9_hasRoom.1 mw_X9_hasRoom.2.1 mw_X9_hasRoom.2.2.1 mw_X9_hasRoom.2.2.2 ⟨rfl, by decide, by decide, by decide +kernel⟩ rfl rfl ⟨by decide, by decide⟩ rfl rfl (Nat.le_of_ble_eq_true rfl) (by decide) (by decide) (by decide) dX9_settle_11 (fun x9 M8 => ?_)
    refine g_if_eq (tgt := 50) hC dX9_settle_14 (by decide) (fun _ => ?_) (fun _ => ?_)
    · refine g_sub (lv1 := [(0, .ref (zad Z 9)), (1, .int a1), (2, .int x7)]) [1, 2, 0] rfl ?_
      exact g_X9_settle_b50 hC  M8 a1 x7 
    · refine g_aload_n hC 1 dX9_settle_17 rfl rfl ?_
      refine gf_X9_41 hC dX9_settle_18 ?_
      refine g_iload_n hC 2 dX9_settle_21 rfl rfl ?_
      refine g_iald hC 112 (by decide) rfl dX9_settle_22 ?_
      refine g_if_eq (tgt := 46) hC dX9_settle_23 (by decide) (fun _ => ?_) (fun _ => ?_)
      · refine g_sub (lv1 := [(0, .ref (zad Z 9)), (1, .int a1), (2, .int x7)]) [1, 2, 0] rfl ?_
        exact g_X9_settle_b46 hC  M8 a1 x7 
      · refine g_aload_n hC 1 dX9_settle_26 rfl rfl ?_
        refine gf_X9_41 hC dX9_settle_27 ?_
        refine g_iload_n hC 2 dX9_settle_30 rfl rfl ?_
        refine g_iald hC 112 (by decide) rfl dX9_settle_31 ?_
        refine g_iconst hC (v := 2) dX9_settle_32 (by decide) ?_
        refine g_icmp_eq (tgt := 46) hC dX9_settle_33 (by decide) (fun _ => ?_) (fun _ => ?_)
        · refine g_sub (lv1 := [(0, .ref (zad Z 9)), (1, .int a1), (2, .int x7)]) [1, 2, 0] rfl ?_
          exact g_X9_settle_b46 hC  M8 a1 x7 
        · refine g_aload_n hC 1 dX9_settle_36 rfl rfl ?_
          refine gf_X9_41 hC dX9_settle_37 ?_
          refine g_iload_n hC 2 dX9_settle_40 rfl rfl ?_
          refine g_iald hC 112 (by decide) rfl dX9_settle_41 ?_
          refine g_iconst hC (v := 3) dX9_settle_42 (by decide) ?_
          refine g_icmp_ne (tgt := 50) hC dX9_settle_43 (by decide) (fun _ => ?_) (fun _ => ?_)
          · refine g_sub (lv1 := [(0, .ref (zad Z 9)), (1, .int a1), (2, .int x7)]) [1, 2, 0] rfl ?_
            exact g_X9_settle_b46 hC  M8 a1 x7 
          · refine g_sub (lv1 := [(0, .ref (zad Z 9)), (1, .int a1), (2, .int x7)]) [1, 2, 0] rfl ?_
            exact g_X9_settle_b50 hC  M8 a1 x7 

-- ===== X9_owed =====
def f_X9_owed (M : gM) (a1 : Int32) : gR := (gI a1 24 (if (M 112 a1.toNatClampNeg) = 2 then (rb (f_X9_latest M a1 5) (fun x2 M1 => (gI x2 160 (bV ((M 9 1) - (M1 121 x2.toNatClampNeg)) (fun x3 => (gI a1 24 (gI a1 24 (gNz 30 (gNz 100 (rb (f_X9_paid M1 a1) (fun x5 M4 => (rRet (((M1 113 a1.toNatClampNeg) + (((M1 113 a1.toNatClampNeg) * (x3 / 30)) / 100)) - x5) M4)))))))))))) else (rRet 0 M)))
abbrev rm_X9_owed : Room := { frames := 1, cells := 0, slots := 0, locals := 24 }
set_option maxRecDepth 20000 in
set_option maxHeartbeats 4000000 in
theorem c_X9_owed {l : Launch} (hfl : l.stackTraces = false) (Z : gZ) (M : gM) (a1 : Int32) : gMet l yX9_owed cX9_owed 3 (some .int) rm_X9_owed 1 0 Z M [.ref (zad Z 9), .int a1] (f_X9_owed M a1) := by
  refine g_enter hfl (by decide) (Nat.le_of_ble_eq_true rfl) (fun p e s m args below meth c hC => ?_)
  refine g_eq (F := f_X9_owed M a1) rfl ?_
  refine g_lv0 (lv1 := [(0, .ref (zad Z 9)), (1, .int a1)]) rfl ?_
  unfold f_X9_owed
  refine g_aload_n hC 0 dX9_owed_0 rfl rfl ?_
  refine gf_X9_41 hC dX9_owed_1 ?_
  refine g_iload_n hC 1 dX9_owed_4 rfl rfl ?_
  refine g_iald hC 112 (by decide) rfl dX9_owed_5 ?_
  refine g_iconst hC (v := 2) dX9_owed_6 (by decide) ?_
  refine g_icmp_eq (tgt := 12) hC dX9_owed_7 (by decide) (fun _ => ?_) (fun _ => ?_)
  · refine g_aload_n hC 0 dX9_owed_12 rfl rfl ?_
    refine gf_X9_152 hC dX9_owed_13 ?_
    refine g_aload_n hC 0 dX9_owed_16 rfl rfl ?_
    refine gf_X9_68 hC dX9_owed_17 ?_
    refine g_aload_n hC 0 dX9_owed_20 rfl rfl ?_
    refine g_iload_n hC 1 dX9_owed_21 rfl rfl ?_
    refine g_iconst hC (v := 5) dX9_owed_22 (by decide) ?_
    refine g_callVi (n := 2) hC [.int a1, .int 5] 9 9 (by decide) rfl rfl (fun hne => c_X9_latest hC.2.2.2.2.2.2.2.1 Z M a1 5 hne) lk_X9_220 mw_X9_latest.1 mw_X9_latest.2.1 mw_X9_latest.2.2.1 mw_X9_latest.2.2.2 ⟨rfl, by decide, by decide, by decide +kernel⟩ rfl rfl ⟨by decide, by decide⟩ rfl rfl (Nat.le_of_ble_eq_true rfl) (by decide) (by decide) (by decide) dX9_owed_23 (fun x2 M1 => ?_)
    refine g_iald hC 121 (by decide) rfl dX9_owed_26 ?_
    refine g_isub hC dX9_owed_27 ?_
    refine g_bv (fun x3 => ?_)
    refine g_istore_n hC (lv1 := [(2, .int x3), (0, .ref (zad Z 9)), (1, .int a1)]) dX9_owed_28 rfl (by decide) rfl ?_
    refine g_aload_n hC 1 dX9_owed_29 rfl rfl ?_
    refine gf_X9_44 hC dX9_owed_30 ?_
    refine g_iload_n hC 2 dX9_owed_33 rfl rfl ?_
    refine g_iald hC 113 (by decide) rfl dX9_owed_34 ?_
    refine g_aload_n hC 1 dX9_owed_35 rfl rfl ?_
    refine gf_X9_44 hC dX9_owed_36 ?_
    refine g_iload_n hC 2 dX9_owed_39 rfl rfl ?_
    refine g_iald hC 113 (by decide) rfl dX9_owed_40 ?_
    refine g_iload_n hC 0 dX9_owed_41 rfl rfl ?_
    refine g_bipush hC (v := 30) dX9_owed_42 (by decide) ?_
    refine g_idiv hC dX9_owed_44 ?_
    refine g_imul hC dX9_owed_45 ?_
    refine g_bipush hC (v := 100) dX9_owed_46 (by decide) ?_
    refine g_idiv hC dX9_owed_48 ?_
    refine g_iadd hC dX9_owed_49 ?_
    refine g_aload_n hC 1 dX9_owed_50 rfl rfl ?_
    refine g_iload_n hC 2 dX9_owed_51 rfl rfl ?_
    refine g_callVi (n := 1) hC [.int a1] 9 9 (by decide) rfl rfl (fun hne => c_X9_paid hC.2.2.2.2.2.2.2.1 Z M1 a1 hne) lk_X9_262 mw_X9_paid.1 mw_X9_paid.2.1 mw_X9_paid.2.2.1 mw_X9_paid.2.2.2 ⟨rfl, by decide, by decide, by decide +kernel⟩ rfl rfl ⟨by decide, by decide⟩ rfl rfl (Nat.le_of_ble_eq_true rfl) (by decide) (by decide) (by decide) dX9_owed_52 (fun x5 M4 => ?_)
    refine g_isub hC dX9_owed_55 ?_
    exact g_iret hC rfl (by decide) dX9_owed_56
  · refine g_iconst hC (v := 0) dX9_owed_10 (by decide) ?_
    exact g_iret hC rfl (by decide) dX9_owed_11

-- ===== X9_pay =====
def f_X9_pay_b113  (M : gM) (a1 : Int32) (t1 : Int32) (t2 : Int32) : gR := (gI t1 24 (bM (gset M 112 t1.toNatClampNeg t2) (fun M1 => (rb (f_X9_owed M1 a1) (fun x3 M2 => (rRet x3 M2))))))
def f_X9_pay_b77  (M : gM) (a1 : Int32) (a2 : Int32) (t1 : Int32) : gR := (rb (f_X9_refused M t1) (fun x5 M4 => (if x5 = 0 then (rb (f_X9_enter M4 10 a1 a2 0) (fun x7 M6 => (rb (f_X9_owed M6 a1) (fun x9 M8 => (if x9 = 0 then (f_X9_pay_b113  M8 a1 a1 5) else (f_X9_pay_b113  M8 a1 a1 2)))))) else (rRet 0 M4))))
def f_X9_pay_b41  (M : gM) (a1 : Int32) (a2 : Int32) (a3 : Int32) (t0 : Int32) : gR := (if a3 = 0 then (f_X9_pay_b77  M a1 a2 1) else (rb (f_X9_within M a2 1 999999) (fun x11 M10 => (if x11 = 0 then (f_X9_pay_b77  M10 a1 a2 2) else (if t0 = 0 then (f_X9_pay_b77  M10 a1 a2 3) else (f_X9_pay_b77  M10 a1 a2 0))))))
def f_X9_pay_b40  (M : gM) (a1 : Int32) (a2 : Int32) (a3 : Int32)  : gR := (f_X9_pay_b41  M a1 a2 a3 0)
def f_X9_pay (M : gM) (a1 : Int32) (a2 : Int32) : gR := (rb (f_X9_isClaim M a1) (fun x13 M12 => (if x13 = 0 then (f_X9_pay_b40  M12 a1 a2 x13 ) else (rb (f_X9_hasRoom M12 ) (fun x15 M14 => (if x15 = 0 then (f_X9_pay_b40  M14 a1 a2 x13 ) else (gI a1 24 (if (M14 112 a1.toNatClampNeg) = 2 then (rb (f_X9_owed M14 a1) (fun x17 M16 => (if x17 < a2 then (f_X9_pay_b40  M16 a1 a2 x13 ) else (f_X9_pay_b41  M16 a1 a2 x13 1)))) else (f_X9_pay_b40  M14 a1 a2 x13 )))))))))
abbrev rm_X9_pay : Room := { frames := 2, cells := 0, slots := 0, locals := 46 }
set_option maxRecDepth 20000 in
set_option maxHeartbeats 4000000 in
theorem g_X9_pay_b113 {p : Program} {l : Launch} {e : Env} {s : State} {m : MethodId} {args : Array Value} {below : List Frame} {meth : Method} {c : Code} {Z : gZ} (hC : gC p l s m args meth c cX9_pay 5 RX9 (some .int) Z)   (M : gM) (a1 : Int32) (t1 : Int32) (t2 : Int32) : gW p l e rm_X9_pay s m args below meth c 5 Z 1 0 0 M 113 [(0, .ref (zad Z 9)), (1, .int a1)] [.int t2, .int t1, .ref (zad Z 112)] (f_X9_pay_b113  M a1 t1 t2) := by
  unfold f_X9_pay_b113
  refine g_iast hC 112 (by decide) rfl dX9_pay_113 (fun M1 => ?_)
  refine g_aload_n hC 0 dX9_pay_114 rfl rfl ?_
  refine g_iload_n hC 1 dX9_pay_115 rfl rfl ?_
  refine g_callVi (n := 1) hC [.int a1] 9 9 (by decide) rfl rfl (fun hne => c_X9_owed hC.2.2.2.2.2.2.2.1 Z M1 a1 hne) lk_X9_268 mw_X9_owed.1 mw_X9_owed.2.1 mw_X9_owed.2.2.1 mw_X9_owed.2.2.2 ⟨rfl, by decide, by decide, by decide +kernel⟩ rfl rfl ⟨by decide, by decide⟩ rfl rfl (Nat.le_of_ble_eq_true rfl) (by decide) (by decide) (by decide) dX9_pay_116 (fun x3 M2 => ?_)
  exact g_iret hC rfl (by decide) dX9_pay_119
set_option maxRecDepth 20000 in
set_option maxHeartbeats 4000000 in
theorem g_X9_pay_b77 {p : Program} {l : Launch} {e : Env} {s : State} {m : MethodId} {args : Array Value} {below : List Frame} {meth : Method} {c : Code} {Z : gZ} (hC : gC p l s m args meth c cX9_pay 5 RX9 (some .int) Z)   (M : gM) (a1 : Int32) (a2 : Int32) (t1 : Int32) : gW p l e rm_X9_pay s m args below meth c 5 Z 1 0 0 M 77 [(0, .ref (zad Z 9)), (1, .int a1), (2, .int a2)] [.int t1, .ref (zad Z 9)] (f_X9_pay_b77  M a1 a2 t1) := by
  unfold f_X9_pay_b77
  refine g_callVi (n := 1) hC [.int t1] 9 9 (by decide) rfl rfl (fun hne => c_X9_refused hC.2.2.2.2.2.2.2.1 Z M t1 hne) lk_X9_155 mw_X9_refused.1 mw_X9_refused.2.1 mw_X9_refused.2.2.1 mw_X9_refused.2.2.2 ⟨rfl, by decide, by decide, by decide +kernel⟩ rfl rfl ⟨by decide, by decide⟩ rfl rfl (Nat.le_of_ble_eq_true rfl) (by decide) (by decide) (by decide) dX9_pay_77 (fun x5 M4 => ?_)
  refine g_if_eq (tgt := 85) hC dX9_pay_80 (by decide) (fun _ => ?_) (fun _ => ?_)
  · refine g_aload_n hC 0 dX9_pay_85 rfl rfl ?_
    refine g_bipush hC (v := 10) dX9_pay_86 (by decide) ?_
    refine g_iload_n hC 1 dX9_pay_88 rfl rfl ?_
    refine g_iload_n hC 2 dX9_pay_89 rfl rfl ?_
    refine g_iconst hC (v := 0) dX9_pay_90 (by decide) ?_
    refine g_callVi (n := 4) hC [.int 10, .int a1, .int a2, .int 0] 9 9 (by decide) rfl rfl (fun hne => c_X9_enter hC.2.2.2.2.2.2.2.1 Z M4 10 a1 a2 0 hne) lk_X9_237 mw_X9_enter.1 mw_X9_enter.2.1 mw_X9_enter.2.2.1 mw_X9_enter.2.2.2 ⟨rfl, by decide, by decide, by decide +kernel⟩ rfl rfl ⟨by decide, by decide⟩ rfl rfl (Nat.le_of_ble_eq_true rfl) (by decide) (by decide) (by decide) dX9_pay_91 (fun x7 M6 => ?_)
    refine g_pop hC dX9_pay_94 rfl ?_
    refine g_aload_n hC 0 dX9_pay_95 rfl rfl ?_
    refine gf_X9_41 hC dX9_pay_96 ?_
    refine g_iload_n hC 1 dX9_pay_99 rfl rfl ?_
    refine g_aload_n hC 0 dX9_pay_100 rfl rfl ?_
    refine g_iload_n hC 1 dX9_pay_101 rfl rfl ?_
    refine g_callVi (n := 1) hC [.int a1] 9 9 (by decide) rfl rfl (fun hne => c_X9_owed hC.2.2.2.2.2.2.2.1 Z M6 a1 hne) lk_X9_268 mw_X9_owed.1 mw_X9_owed.2.1 mw_X9_owed.2.2.1 mw_X9_owed.2.2.2 ⟨rfl, by decide, by decide, by decide +kernel⟩ rfl rfl ⟨by decide, by decide⟩ rfl rfl (Nat.le_of_ble_eq_true rfl) (by decide) (by decide) (by decide) dX9_pay_102 (fun x9 M8 => ?_)
    refine g_if_ne (tgt := 112) hC dX9_pay_105 (by decide) (fun _ => ?_) (fun _ => ?_)
    · refine g_iconst hC (v := 5) dX9_pay_108 (by decide) ?_
      refine g_goto (tgt := 113) hC dX9_pay_109 (by decide) ?_
      refine g_sub (lv1 := [(0, .ref (zad Z 9)), (1, .int a1)]) [0, 1] rfl ?_
      exact g_X9_pay_b113 hC  M8 a1 a1 5
    · refine g_iconst hC (v := 2) dX9_pay_112 (by decide) ?_
      refine g_sub (lv1 := [(0, .ref (zad Z 9)), (1, .int a1)]) [0, 1] rfl ?_
      exact g_X9_pay_b113 hC  M8 a1 a1 2
  · refine g_iconst hC (v := 0) dX9_pay_83 (by decide) ?_
    exact g_iret hC rfl (by decide) dX9_pay_84
set_option maxRecDepth 20000 in
set_option maxHeartbeats 4000000 in
theorem g_X9_pay_b41 {p : Program} {l : Launch} {e : Env} {s : State} {m : MethodId} {args : Array Value} {below : List Frame} {meth : Method} {c : Code} {Z : gZ} (hC : gC p l s m args meth c cX9_pay 5 RX9 (some .int) Z)   (M : gM) (a1 : Int32) (a2 : Int32) (a3 : Int32) (t0 : Int32) : gW p l e rm_X9_pay s m args below meth c 5 Z 1 0 0 M 41 [(0, .ref (zad Z 9)), (1, .int a1), (2, .int a2), (3, .int a3)] [.int t0] (f_X9_pay_b41  M a1 a2 a3 t0) := by
  unfold f_X9_pay_b41
  refine g_istore hC (lv1 := [(4, .int t0), (0, .ref (zad Z 9)), (1, .int a1), (2, .int a2), (3, .int a3)]) dX9_pay_41 (by decide) rfl ?_
  refine g_aload_n hC 1 dX9_pay_43 rfl rfl ?_
  refine g_iload_n hC 4 dX9_pay_44 rfl rfl ?_
  refine g_if_ne (tgt := 52) hC dX9_pay_45 (by decide) (fun _ => ?_) (fun _ => ?_)
  · refine g_iconst hC (v := 1) dX9_pay_48 (by decide) ?_
    refine g_goto (tgt := 77) hC dX9_pay_49 (by decide) ?_
    refine g_sub (lv1 := [(0, .ref (zad Z 9)), (1, .int a1), (2, .int a2)]) [1, 2, 3] rfl ?_
    exact g_X9_pay_b77 hC  M a1 a2 1
  · refine g_iload_n hC 3 dX9_pay_52 rfl rfl ?_
    refine g_iconst hC (v := 1) dX9_pay_53 (by decide) ?_
    refine g_ldcw hC (v := 999999) (gIn (by decide +kernel) (by decide +kernel)) dX9_pay_54 ?_
    refine g_callSi (n := 3) hC [.int a2, .int 1, .int 999999] (fun hne => c_X9_within hC.2.2.2.2.2.2.2.1 Z M a2 1 999999 hne) lk_X9_148 mw_X9_within.1 mw_X9_within.2.1 mw_X9_within.2.2 ⟨by decide, by decide, by decide +kernel⟩ rfl rfl ⟨by decide, by decide⟩ rfl rfl (Nat.le_of_ble_eq_true rfl) (by decide) (by decide) (by decide) dX9_pay_57 (fun x11 M10 => ?_)
    refine g_if_ne (tgt := 67) hC dX9_pay_60 (by decide) (fun _ => ?_) (fun _ => ?_)
    · refine g_iconst hC (v := 2) dX9_pay_63 (by decide) ?_
      refine g_goto (tgt := 77) hC dX9_pay_64 (by decide) ?_
      refine g_sub (lv1 := [(0, .ref (zad Z 9)), (1, .int a1), (2, .int a2)]) [1, 2, 3] rfl ?_
      exact g_X9_pay_b77 hC  M10 a1 a2 2
    · refine g_iload hC 0 dX9_pay_67 rfl ?_
      refine g_if_ne (tgt := 76) hC dX9_pay_69 (by decide) (fun _ => ?_) (fun _ => ?_)
      · refine g_iconst hC (v := 3) dX9_pay_72 (by decide) ?_
        refine g_goto (tgt := 77) hC dX9_pay_73 (by decide) ?_
        refine g_sub (lv1 := [(0, .ref (zad Z 9)), (1, .int a1), (2, .int a2)]) [1, 2, 3] rfl ?_
        exact g_X9_pay_b77 hC  M10 a1 a2 3
      · refine g_iconst hC (v := 0) dX9_pay_76 (by decide) ?_
        refine g_sub (lv1 := [(0, .ref (zad Z 9)), (1, .int a1), (2, .int a2)]) [1, 2, 3] rfl ?_
        exact g_X9_pay_b77 hC  M10 a1 a2 0
set_option maxRecDepth 20000 in
set_option maxHeartbeats 4000000 in
theorem g_X9_pay_b40 {p : Program} {l : Launch} {e : Env} {s : State} {m : MethodId} {args : Array Value} {below : List Frame} {meth : Method} {c : Code} {Z : gZ} (hC : gC p l s m args meth c cX9_pay 5 RX9 (some .int) Z)   (M : gM) (a1 : Int32) (a2 : Int32) (a3 : Int32)  : gW p l e rm_X9_pay s m args below meth c 5 Z 1 0 0 M 40 [(0, .ref (zad Z 9)), (1, .int a1), (2, .int a2), (3, .int a3)] [] (f_X9_pay_b40  M a1 a2 a3 ) := by
  unfold f_X9_pay_b40
  refine g_iconst hC (v := 0) dX9_pay_40 (by decide) ?_
  exact g_X9_pay_b41 hC  M a1 a2 a3 0
set_option maxRecDepth 20000 in
set_option maxHeartbeats 4000000 in
theorem c_X9_pay {l : Launch} (hfl : l.stackTraces = false) (Z : gZ) (M : gM) (a1 : Int32) (a2 : Int32) : gMet l yX9_pay cX9_pay 5 (some .int) rm_X9_pay 1 0 Z M [.ref (zad Z 9), .int a1, .int a2] (f_X9_pay M a1 a2) := by
  refine g_enter hfl (by decide) (Nat.le_of_ble_eq_true rfl) (fun p e s m args below meth c hC => ?_)
  refine g_eq (F := f_X9_pay M a1 a2) rfl ?_
  refine g_lv0 (lv1 := [(0, .ref (zad Z 9)), (1, .int a1), (2, .int a2)]) rfl ?_
  unfold f_X9_pay
  refine g_aload_n hC 0 dX9_pay_0 rfl rfl ?_
  refine g_iload_n hC 1 dX9_pay_1 rfl rfl ?_
  refine g_callVi (n := 1) hC [.int a1] 9 9 (by decide) rfl rfl (fun hne => c_X9_isClaim hC.2.2.2.2.2.2.2.1 Z M a1 hne) lk_X9_195 mw_X9_isClaim.1 mw_X9_isClaim.2.1 mw_X9_isClaim.2.2.1 mw_X9_isClaim.2.2.2 ⟨rfl, by decide, by decide, by decide +kernel⟩ rfl rfl ⟨by decide, by decide⟩ rfl rfl (Nat.le_of_ble_eq_true rfl) (by decide) (by decide) (by decide) dX9_pay_2 (fun x13 M12 => ?_)
  refine g_istore_n hC (lv1 := [(3, .int x13), (0, .ref (zad Z 9)), (1, .int a1), (2, .int a2)]) dX9_pay_5 rfl (by decide) rfl ?_
  refine g_iload_n hC 0 dX9_pay_6 rfl rfl ?_
  refine g_if_eq (tgt := 40) hC dX9_pay_7 (by decide) (fun _ => ?_) (fun _ => ?_)
  · refine g_sub (lv1 := [(0, .ref (zad Z 9)), (1, .int a1), (2, .int a2), (3, .int x13)]) [1, 2, 3, 0] rfl ?_
    exact g_X9_pay_b40 hC  M12 a1 a2 x13 
  · refine g_aload_n hC 1 dX9_pay_10 rfl rfl ?_
    refine g_callVi (n := 0) hC [] 9 9 (by decide) rfl rfl (fun hne => c_X9_hasRoom hC.2.2.2.2.2.2.2.1 Z M12  hne) lk_X9_233 mw_X9_hasRoom.1 mw_X9_hasRoom.2.1 mw_X9_hasRoom.2.2.1 mw_X9_hasRoom.2.2.2 ⟨rfl, by decide, by decide, by decide +kernel⟩ rfl rfl ⟨by decide, by decide⟩ rfl rfl (Nat.le_of_ble_eq_true rfl) (by decide) (by decide) (by decide) dX9_pay_11 (fun x15 M14 => ?_)
    refine g_if_eq (tgt := 40) hC dX9_pay_14 (by decide) (fun _ => ?_) (fun _ => ?_)
    · refine g_sub (lv1 := [(0, .ref (zad Z 9)), (1, .int a1), (2, .int a2), (3, .int x13)]) [1, 2, 3, 0] rfl ?_
      exact g_X9_pay_b40 hC  M14 a1 a2 x13 
    · refine g_aload_n hC 1 dX9_pay_17 rfl rfl ?_
      refine gf_X9_41 hC dX9_pay_18 ?_
      refine g_iload_n hC 2 dX9_pay_21 rfl rfl ?_
      refine g_iald hC 112 (by decide) rfl dX9_pay_22 ?_
      refine g_iconst hC (v := 2) dX9_pay_23 (by decide) ?_
      refine g_icmp_ne (tgt := 40) hC dX9_pay_24 (by decide) (fun _ => ?_) (fun _ => ?_)
      · refine g_iload_n hC 3 dX9_pay_27 rfl rfl ?_
        refine g_aload_n hC 1 dX9_pay_28 rfl rfl ?_
        refine g_iload_n hC 2 dX9_pay_29 rfl rfl ?_
        refine g_callVi (n := 1) hC [.int a1] 9 9 (by decide) rfl rfl (fun hne => c_X9_owed hC.2.2.2.2.2.2.2.1 Z M14 a1 hne) lk_X9_268 mw_X9_owed.1 mw_X9_owed.2.1 mw_X9_owed.2.2.1 mw_X9_owed.2.2.2 ⟨rfl, by decide, by decide, by decide +kernel⟩ rfl rfl ⟨by decide, by decide⟩ rfl rfl (Nat.le_of_ble_eq_true rfl) (by decide) (by decide) (by decide) dX9_pay_30 (fun x17 M16 => ?_)
        refine g_icmp_gt (tgt := 40) hC dX9_pay_33 (by decide) (fun _ => ?_) (fun _ => ?_)
        · refine g_sub (lv1 := [(0, .ref (zad Z 9)), (1, .int a1), (2, .int a2), (3, .int x13)]) [1, 2, 3, 0] rfl ?_
          exact g_X9_pay_b40 hC  M16 a1 a2 x13 
        · refine g_iconst hC (v := 1) dX9_pay_36 (by decide) ?_
          refine g_goto (tgt := 41) hC dX9_pay_37 (by decide) ?_
          refine g_sub (lv1 := [(0, .ref (zad Z 9)), (1, .int a1), (2, .int a2), (3, .int x13)]) [1, 2, 3, 0] rfl ?_
          exact g_X9_pay_b41 hC  M16 a1 a2 x13 1
      · refine g_sub (lv1 := [(0, .ref (zad Z 9)), (1, .int a1), (2, .int a2), (3, .int x13)]) [1, 2, 3, 0] rfl ?_
        exact g_X9_pay_b40 hC  M14 a1 a2 x13 

-- ===== X9_stay =====
def f_X9_stay_b77  (M : gM) (a1 : Int32) (t1 : Int32) : gR := (rb (f_X9_enter M t1 a1 0 0) (fun x2 M1 => (rRet x2 M1)))
def f_X9_stay_b55  (M : gM) (a1 : Int32) (a2 : Int32) (t1 : Int32) : gR := (rb (f_X9_refused M t1) (fun x4 M3 => (if x4 = 0 then (if a2 = 0 then (f_X9_stay_b77  M3 a1 12) else (f_X9_stay_b77  M3 a1 11)) else (rRet 0 M3))))
def f_X9_stay_b34  (M : gM) (a1 : Int32) (a2 : Int32) (a3 : Int32) (t0 : Int32) : gR := (if a3 = 0 then (f_X9_stay_b55  M a1 a2 1) else (if t0 = 0 then (f_X9_stay_b55  M a1 a2 2) else (f_X9_stay_b55  M a1 a2 0)))
def f_X9_stay_b33  (M : gM) (a1 : Int32) (a2 : Int32) (a3 : Int32)  : gR := (f_X9_stay_b34  M a1 a2 a3 0)
def f_X9_stay (M : gM) (a1 : Int32) (a2 : Int32) : gR := (rb (f_X9_isCase M a1) (fun x6 M5 => (if x6 = 0 then (f_X9_stay_b33  M5 a1 a2 x6 ) else (rb (f_X9_hasRoom M5 ) (fun x8 M7 => (if x8 = 0 then (f_X9_stay_b33  M7 a1 a2 x6 ) else (rb (f_X9_isStayedAlone M7 a1 1400) (fun x10 M9 => (if x10 = a2 then (f_X9_stay_b33  M9 a1 a2 x6 ) else (f_X9_stay_b34  M9 a1 a2 x6 1))))))))))
abbrev rm_X9_stay : Room := { frames := 2, cells := 0, slots := 0, locals := 43 }
set_option maxRecDepth 20000 in
set_option maxHeartbeats 4000000 in
theorem g_X9_stay_b77 {p : Program} {l : Launch} {e : Env} {s : State} {m : MethodId} {args : Array Value} {below : List Frame} {meth : Method} {c : Code} {Z : gZ} (hC : gC p l s m args meth c cX9_stay 5 RX9 (some .int) Z)   (M : gM) (a1 : Int32) (t1 : Int32) : gW p l e rm_X9_stay s m args below meth c 5 Z 1 0 0 M 77 [(0, .ref (zad Z 9)), (1, .int a1)] [.int t1, .ref (zad Z 9)] (f_X9_stay_b77  M a1 t1) := by
  unfold f_X9_stay_b77
  refine g_iload_n hC 1 dX9_stay_77 rfl rfl ?_
  refine g_iconst hC (v := 0) dX9_stay_78 (by decide) ?_
  refine g_iconst hC (v := 0) dX9_stay_79 (by decide) ?_
  refine g_callVi (n := 4) hC [.int t1, .int a1, .int 0, .int 0] 9 9 (by decide) rfl rfl (fun hne => c_X9_enter hC.2.2.2.2.2.2.2.1 Z M t1 a1 0 0 hne) lk_X9_237 mw_X9_enter.1 mw_X9_enter.2.1 mw_X9_enter.2.2.1 mw_X9_enter.2.2.2 ⟨rfl, by decide, by decide, by decide +kernel⟩ rfl rfl ⟨by decide, by decide⟩ rfl rfl (Nat.le_of_ble_eq_true rfl) (by decide) (by decide) (by decide) dX9_stay_80 (fun x2 M1 => ?_)
  exact g_iret hC rfl (by decide) dX9_stay_83
set_option maxRecDepth 20000 in
set_option maxHeartbeats 4000000 in
theorem g_X9_stay_b55 {p : Program} {l : Launch} {e : Env} {s : State} {m : MethodId} {args : Array Value} {below : List Frame} {meth : Method} {c : Code} {Z : gZ} (hC : gC p l s m args meth c cX9_stay 5 RX9 (some .int) Z)   (M : gM) (a1 : Int32) (a2 : Int32) (t1 : Int32) : gW p l e rm_X9_stay s m args below meth c 5 Z 1 0 0 M 55 [(0, .ref (zad Z 9)), (1, .int a1), (2, .int a2)] [.int t1, .ref (zad Z 9)] (f_X9_stay_b55  M a1 a2 t1) := by
  unfold f_X9_stay_b55
  refine g_callVi (n := 1) hC [.int t1] 9 9 (by decide) rfl rfl (fun hne => c_X9_refused hC.2.2.2.2.2.2.2.1 Z M t1 hne) lk_X9_155 mw_X9_refused.1 mw_X9_refused.2.1 mw_X9_refused.2.2.1 mw_X9_refused.2.2.2 ⟨rfl, by decide, by decide, by decide +kernel⟩ rfl rfl ⟨by decide, by decide⟩ rfl rfl (Nat.le_of_ble_eq_true rfl) (by decide) (by decide) (by decide) dX9_stay_55 (fun x4 M3 => ?_)
  refine g_if_eq (tgt := 65) hC dX9_stay_58 (by decide) (fun _ => ?_) (fun _ => ?_)
  · refine g_aload_n hC 0 dX9_stay_65 rfl rfl ?_
    refine g_iload_n hC 2 dX9_stay_66 rfl rfl ?_
    refine g_if_eq (tgt := 75) hC dX9_stay_67 (by decide) (fun _ => ?_) (fun _ => ?_)
    · refine g_bipush hC (v := 12) dX9_stay_75 (by decide) ?_
      refine g_sub (lv1 := [(0, .ref (zad Z 9)), (1, .int a1)]) [0, 1] rfl ?_
      exact g_X9_stay_b77 hC  M3 a1 12
    · refine g_bipush hC (v := 11) dX9_stay_70 (by decide) ?_
      refine g_goto (tgt := 77) hC dX9_stay_72 (by decide) ?_
      refine g_sub (lv1 := [(0, .ref (zad Z 9)), (1, .int a1)]) [0, 1] rfl ?_
      exact g_X9_stay_b77 hC  M3 a1 11
  · refine g_iconst hC (v := 0) dX9_stay_61 (by decide) ?_
    refine g_goto (tgt := 83) hC dX9_stay_62 (by decide) ?_
    exact g_iret hC rfl (by decide) dX9_stay_83
set_option maxRecDepth 20000 in
set_option maxHeartbeats 4000000 in
theorem g_X9_stay_b34 {p : Program} {l : Launch} {e : Env} {s : State} {m : MethodId} {args : Array Value} {below : List Frame} {meth : Method} {c : Code} {Z : gZ} (hC : gC p l s m args meth c cX9_stay 5 RX9 (some .int) Z)   (M : gM) (a1 : Int32) (a2 : Int32) (a3 : Int32) (t0 : Int32) : gW p l e rm_X9_stay s m args below meth c 5 Z 1 0 0 M 34 [(0, .ref (zad Z 9)), (1, .int a1), (2, .int a2), (3, .int a3)] [.int t0] (f_X9_stay_b34  M a1 a2 a3 t0) := by
  unfold f_X9_stay_b34
  refine g_istore hC (lv1 := [(4, .int t0), (0, .ref (zad Z 9)), (1, .int a1), (2, .int a2), (3, .int a3)]) dX9_stay_34 (by decide) rfl ?_
  refine g_aload_n hC 1 dX9_stay_36 rfl rfl ?_
  refine g_iload_n hC 4 dX9_stay_37 rfl rfl ?_
  refine g_if_ne (tgt := 45) hC dX9_stay_38 (by decide) (fun _ => ?_) (fun _ => ?_)
  · refine g_iconst hC (v := 1) dX9_stay_41 (by decide) ?_
    refine g_goto (tgt := 55) hC dX9_stay_42 (by decide) ?_
    refine g_sub (lv1 := [(0, .ref (zad Z 9)), (1, .int a1), (2, .int a2)]) [1, 2, 3] rfl ?_
    exact g_X9_stay_b55 hC  M a1 a2 1
  · refine g_iload hC 0 dX9_stay_45 rfl ?_
    refine g_if_ne (tgt := 54) hC dX9_stay_47 (by decide) (fun _ => ?_) (fun _ => ?_)
    · refine g_iconst hC (v := 2) dX9_stay_50 (by decide) ?_
      refine g_goto (tgt := 55) hC dX9_stay_51 (by decide) ?_
      refine g_sub (lv1 := [(0, .ref (zad Z 9)), (1, .int a1), (2, .int a2)]) [1, 2, 3] rfl ?_
      exact g_X9_stay_b55 hC  M a1 a2 2
    · refine g_iconst hC (v := 0) dX9_stay_54 (by decide) ?_
      refine g_sub (lv1 := [(0, .ref (zad Z 9)), (1, .int a1), (2, .int a2)]) [1, 2, 3] rfl ?_
      exact g_X9_stay_b55 hC  M a1 a2 0
set_option maxRecDepth 20000 in
set_option maxHeartbeats 4000000 in
theorem g_X9_stay_b33 {p : Program} {l : Launch} {e : Env} {s : State} {m : MethodId} {args : Array Value} {below : List Frame} {meth : Method} {c : Code} {Z : gZ} (hC : gC p l s m args meth c cX9_stay 5 RX9 (some .int) Z)   (M : gM) (a1 : Int32) (a2 : Int32) (a3 : Int32)  : gW p l e rm_X9_stay s m args below meth c 5 Z 1 0 0 M 33 [(0, .ref (zad Z 9)), (1, .int a1), (2, .int a2), (3, .int a3)] [] (f_X9_stay_b33  M a1 a2 a3 ) := by
  unfold f_X9_stay_b33
  refine g_iconst hC (v := 0) dX9_stay_33 (by decide) ?_
  exact g_X9_stay_b34 hC  M a1 a2 a3 0
set_option maxRecDepth 20000 in
set_option maxHeartbeats 4000000 in
theorem c_X9_stay {l : Launch} (hfl : l.stackTraces = false) (Z : gZ) (M : gM) (a1 : Int32) (a2 : Int32) : gMet l yX9_stay cX9_stay 5 (some .int) rm_X9_stay 1 0 Z M [.ref (zad Z 9), .int a1, .int a2] (f_X9_stay M a1 a2) := by
  refine g_enter hfl (by decide) (Nat.le_of_ble_eq_true rfl) (fun p e s m args below meth c hC => ?_)
  refine g_eq (F := f_X9_stay M a1 a2) rfl ?_
  refine g_lv0 (lv1 := [(0, .ref (zad Z 9)), (1, .int a1), (2, .int a2)]) rfl ?_
  unfold f_X9_stay
  refine g_aload_n hC 0 dX9_stay_0 rfl rfl ?_
  refine g_iload_n hC 1 dX9_stay_1 rfl rfl ?_
  refine g_callVi (n := 1) hC [.int a1] 9 9 (by decide) rfl rfl (fun hne => c_X9_isCase hC.2.2.2.2.2.2.2.1 Z M a1 hne) lk_X9_181 mw_X9_isCase.1 mw_X9_isCase.2.1 mw_X9_isCase.2.2.1 mw_X9_isCase.2.2.2 ⟨rfl, by decide, by decide, by decide +kernel⟩ rfl rfl ⟨by decide, by decide⟩ rfl rfl (Nat.le_of_ble_eq_true rfl) (by decide) (by decide) (by decide) dX9_stay_2 (fun x6 M5 => ?_)
  refine g_istore_n hC (lv1 := [(3, .int x6), (0, .ref (zad Z 9)), (1, .int a1), (2, .int a2)]) dX9_stay_5 rfl (by decide) rfl ?_
  refine g_iload_n hC 0 dX9_stay_6 rfl rfl ?_
  refine g_if_eq (tgt := 33) hC dX9_stay_7 (by decide) (fun _ => ?_) (fun _ => ?_)
  · refine g_sub (lv1 := [(0, .ref (zad Z 9)), (1, .int a1), (2, .int a2), (3, .int x6)]) [1, 2, 3, 0] rfl ?_
    exact g_X9_stay_b33 hC  M5 a1 a2 x6 
  · refine g_aload_n hC 1 dX9_stay_10 rfl rfl ?_
    refine g_callVi (n := 0) hC [] 9 9 (by decide) rfl rfl (fun hne => c_X9_hasRoom hC.2.2.2.2.2.2.2.1 Z M5  hne) lk_X9_233 mw_X9_hasRoom.1 mw_X9_hasRoom.2.1 mw_X9_hasRoom.2.2.1 mw_X9_hasRoom.2.2.2 ⟨rfl, by decide, by decide, by decide +kernel⟩ rfl rfl ⟨by decide, by decide⟩ rfl rfl (Nat.le_of_ble_eq_true rfl) (by decide) (by decide) (by decide) dX9_stay_11 (fun x8 M7 => ?_)
    refine g_if_eq (tgt := 33) hC dX9_stay_14 (by decide) (fun _ => ?_) (fun _ => ?_)
    · refine g_sub (lv1 := [(0, .ref (zad Z 9)), (1, .int a1), (2, .int a2), (3, .int x6)]) [1, 2, 3, 0] rfl ?_
      exact g_X9_stay_b33 hC  M7 a1 a2 x6 
    · refine g_aload_n hC 1 dX9_stay_17 rfl rfl ?_
      refine g_iload_n hC 2 dX9_stay_18 rfl rfl ?_
      refine g_sipush hC (v := 1400) dX9_stay_19 (by decide) ?_
      refine g_callVi (n := 2) hC [.int a1, .int 1400] 9 9 (by decide) rfl rfl (fun hne => c_X9_isStayedAlone hC.2.2.2.2.2.2.2.1 Z M7 a1 1400 hne) lk_X9_198 mw_X9_isStayedAlone.1 mw_X9_isStayedAlone.2.1 mw_X9_isStayedAlone.2.2.1 mw_X9_isStayedAlone.2.2.2 ⟨rfl, by decide, by decide, by decide +kernel⟩ rfl rfl ⟨by decide, by decide⟩ rfl rfl (Nat.le_of_ble_eq_true rfl) (by decide) (by decide) (by decide) dX9_stay_22 (fun x10 M9 => ?_)
      refine g_iload_n hC 3 dX9_stay_25 rfl rfl ?_
      refine g_icmp_eq (tgt := 33) hC dX9_stay_26 (by decide) (fun _ => ?_) (fun _ => ?_)
      · refine g_sub (lv1 := [(0, .ref (zad Z 9)), (1, .int a1), (2, .int a2), (3, .int x6)]) [1, 2, 3, 0] rfl ?_
        exact g_X9_stay_b33 hC  M9 a1 a2 x6 
      · refine g_iconst hC (v := 1) dX9_stay_29 (by decide) ?_
        refine g_goto (tgt := 34) hC dX9_stay_30 (by decide) ?_
        refine g_sub (lv1 := [(0, .ref (zad Z 9)), (1, .int a1), (2, .int a2), (3, .int x6)]) [1, 2, 3, 0] rfl ?_
        exact g_X9_stay_b34 hC  M9 a1 a2 x6 1

-- ===== X9_defect =====
def f_X9_defect_b43  (M : gM) (a1 : Int32) (t1 : Int32) : gR := (rb (f_X9_refused M t1) (fun x2 M1 => (if x2 = 0 then (gI a1 160 (bM (gset M1 132 a1.toNatClampNeg ((M1 9 1) + 1)) (fun M3 => (gI 4 5 (gI a1 160 (bM (gset M3 133 a1.toNatClampNeg (M3 103 (4 : Int32).toNatClampNeg)) (fun M4 => (gI 4 5 (gZ01 (M4 104 (4 : Int32).toNatClampNeg) (gI a1 160 (bM (gset M4 134 a1.toNatClampNeg (M4 104 (4 : Int32).toNatClampNeg)) (fun M5 => (rb (f_X9_cureOf M5 a1) (fun x7 M6 => (rRet x7 M6))))))))))))))) else (rRet 0 M1))))
def f_X9_defect_b38  (M : gM) (a1 : Int32)  : gR := (f_X9_defect_b43  M a1 2)
def f_X9_defect (M : gM) (a1 : Int32) : gR := (rb (f_X9_isEntry M a1) (fun x9 M8 => (if x9 = 0 then (f_X9_defect_b43  M8 a1 1) else (gI a1 160 (rb (f_X9_within M8 (M8 120 a1.toNatClampNeg) 1 3) (fun x11 M10 => (if x11 = 0 then (f_X9_defect_b38  M10 a1 ) else (gI a1 160 (if (M10 132 a1.toNatClampNeg) = 0 then (f_X9_defect_b43  M10 a1 0) else (f_X9_defect_b38  M10 a1 ))))))))))
abbrev rm_X9_defect : Room := { frames := 4, cells := 0, slots := 0, locals := 93 }
set_option maxRecDepth 20000 in
set_option maxHeartbeats 4000000 in
theorem g_X9_defect_b43 {p : Program} {l : Launch} {e : Env} {s : State} {m : MethodId} {args : Array Value} {below : List Frame} {meth : Method} {c : Code} {Z : gZ} (hC : gC p l s m args meth c cX9_defect 3 RX9 (some .int) Z)   (M : gM) (a1 : Int32) (t1 : Int32) : gW p l e rm_X9_defect s m args below meth c 3 Z 1 0 0 M 43 [(0, .ref (zad Z 9)), (1, .int a1)] [.int t1, .ref (zad Z 9)] (f_X9_defect_b43  M a1 t1) := by
  unfold f_X9_defect_b43
  refine g_callVi (n := 1) hC [.int t1] 9 9 (by decide) rfl rfl (fun hne => c_X9_refused hC.2.2.2.2.2.2.2.1 Z M t1 hne) lk_X9_155 mw_X9_refused.1 mw_X9_refused.2.1 mw_X9_refused.2.2.1 mw_X9_refused.2.2.2 ⟨rfl, by decide, by decide, by decide +kernel⟩ rfl rfl ⟨by decide, by decide⟩ rfl rfl (Nat.le_of_ble_eq_true rfl) (by decide) (by decide) (by decide) dX9_defect_43 (fun x2 M1 => ?_)
  refine g_if_eq (tgt := 51) hC dX9_defect_46 (by decide) (fun _ => ?_) (fun _ => ?_)
  · refine g_aload_n hC 0 dX9_defect_51 rfl rfl ?_
    refine gf_X9_101 hC dX9_defect_52 ?_
    refine g_iload_n hC 1 dX9_defect_55 rfl rfl ?_
    refine g_aload_n hC 0 dX9_defect_56 rfl rfl ?_
    refine gf_X9_152 hC dX9_defect_57 ?_
    refine g_iconst hC (v := 1) dX9_defect_60 (by decide) ?_
    refine g_iadd hC dX9_defect_61 ?_
    refine g_iast hC 132 (by decide) rfl dX9_defect_62 (fun M3 => ?_)
    refine g_aload_n hC 0 dX9_defect_63 rfl rfl ?_
    refine gf_X9_104 hC dX9_defect_64 ?_
    refine g_iload_n hC 1 dX9_defect_67 rfl rfl ?_
    refine g_aload_n hC 0 dX9_defect_68 rfl rfl ?_
    refine gf_X9_13 hC dX9_defect_69 ?_
    refine g_iconst hC (v := 4) dX9_defect_72 (by decide) ?_
    refine g_iald hC 103 (by decide) rfl dX9_defect_73 ?_
    refine g_iast hC 133 (by decide) rfl dX9_defect_74 (fun M4 => ?_)
    refine g_aload_n hC 0 dX9_defect_75 rfl rfl ?_
    refine gf_X9_107 hC dX9_defect_76 ?_
    refine g_iload_n hC 1 dX9_defect_79 rfl rfl ?_
    refine g_aload_n hC 0 dX9_defect_80 rfl rfl ?_
    refine gf_X9_17 hC dX9_defect_81 ?_
    refine g_iconst hC (v := 4) dX9_defect_84 (by decide) ?_
    refine g_zald hC 104 (by decide) rfl dX9_defect_85 ?_
    refine g_zast hC 134 (by decide) rfl dX9_defect_86 (fun M5 => ?_)
    refine g_aload_n hC 0 dX9_defect_87 rfl rfl ?_
    refine g_iload_n hC 1 dX9_defect_88 rfl rfl ?_
    refine g_callVi (n := 1) hC [.int a1] 9 9 (by decide) rfl rfl (fun hne => c_X9_cureOf hC.2.2.2.2.2.2.2.1 Z M5 a1 hne) lk_X9_204 mw_X9_cureOf.1 mw_X9_cureOf.2.1 mw_X9_cureOf.2.2.1 mw_X9_cureOf.2.2.2 ⟨rfl, by decide, by decide, by decide +kernel⟩ rfl rfl ⟨by decide, by decide⟩ rfl rfl (Nat.le_of_ble_eq_true rfl) (by decide) (by decide) (by decide) dX9_defect_89 (fun x7 M6 => ?_)
    exact g_iret hC rfl (by decide) dX9_defect_92
  · refine g_iconst hC (v := 0) dX9_defect_49 (by decide) ?_
    exact g_iret hC rfl (by decide) dX9_defect_50
set_option maxRecDepth 20000 in
set_option maxHeartbeats 4000000 in
theorem g_X9_defect_b38 {p : Program} {l : Launch} {e : Env} {s : State} {m : MethodId} {args : Array Value} {below : List Frame} {meth : Method} {c : Code} {Z : gZ} (hC : gC p l s m args meth c cX9_defect 3 RX9 (some .int) Z)   (M : gM) (a1 : Int32)  : gW p l e rm_X9_defect s m args below meth c 3 Z 1 0 0 M 38 [(0, .ref (zad Z 9)), (1, .int a1)] [.ref (zad Z 9)] (f_X9_defect_b38  M a1 ) := by
  unfold f_X9_defect_b38
  refine g_iconst hC (v := 2) dX9_defect_38 (by decide) ?_
  refine g_goto (tgt := 43) hC dX9_defect_39 (by decide) ?_
  exact g_X9_defect_b43 hC  M a1 2
set_option maxRecDepth 20000 in
set_option maxHeartbeats 4000000 in
theorem c_X9_defect {l : Launch} (hfl : l.stackTraces = false) (Z : gZ) (M : gM) (a1 : Int32) : gMet l yX9_defect cX9_defect 3 (some .int) rm_X9_defect 1 0 Z M [.ref (zad Z 9), .int a1] (f_X9_defect M a1) := by
  refine g_enter hfl (by decide) (Nat.le_of_ble_eq_true rfl) (fun p e s m args below meth c hC => ?_)
  refine g_eq (F := f_X9_defect M a1) rfl ?_
  refine g_lv0 (lv1 := [(0, .ref (zad Z 9)), (1, .int a1)]) rfl ?_
  unfold f_X9_defect
  refine g_aload_n hC 0 dX9_defect_0 rfl rfl ?_
  refine g_iload_n hC 1 dX9_defect_1 rfl rfl ?_
  refine g_callVi (n := 1) hC [.int a1] 9 9 (by decide) rfl rfl (fun hne => c_X9_isEntry hC.2.2.2.2.2.2.2.1 Z M a1 hne) lk_X9_174 mw_X9_isEntry.1 mw_X9_isEntry.2.1 mw_X9_isEntry.2.2.1 mw_X9_isEntry.2.2.2 ⟨rfl, by decide, by decide, by decide +kernel⟩ rfl rfl ⟨by decide, by decide⟩ rfl rfl (Nat.le_of_ble_eq_true rfl) (by decide) (by decide) (by decide) dX9_defect_2 (fun x9 M8 => ?_)
  refine g_istore_n hC (lv1 := [(2, .int x9), (0, .ref (zad Z 9)), (1, .int a1)]) dX9_defect_5 rfl (by decide) rfl ?_
  refine g_aload_n hC 1 dX9_defect_6 rfl rfl ?_
  refine g_iload_n hC 0 dX9_defect_7 rfl rfl ?_
  refine g_if_ne (tgt := 15) hC dX9_defect_8 (by decide) (fun _ => ?_) (fun _ => ?_)
  · refine g_iconst hC (v := 1) dX9_defect_11 (by decide) ?_
    refine g_goto (tgt := 43) hC dX9_defect_12 (by decide) ?_
    refine g_sub (lv1 := [(0, .ref (zad Z 9)), (1, .int a1)]) [1, 2] rfl ?_
    exact g_X9_defect_b43 hC  M8 a1 1
  · refine g_aload_n hC 1 dX9_defect_15 rfl rfl ?_
    refine gf_X9_65 hC dX9_defect_16 ?_
    refine g_iload_n hC 2 dX9_defect_19 rfl rfl ?_
    refine g_iald hC 120 (by decide) rfl dX9_defect_20 ?_
    refine g_iconst hC (v := 1) dX9_defect_21 (by decide) ?_
    refine g_iconst hC (v := 3) dX9_defect_22 (by decide) ?_
    refine g_callSi (n := 3) hC [.int (M8 120 a1.toNatClampNeg), .int 1, .int 3] (fun hne => c_X9_within hC.2.2.2.2.2.2.2.1 Z M8 (M8 120 a1.toNatClampNeg) 1 3 hne) lk_X9_148 mw_X9_within.1 mw_X9_within.2.1 mw_X9_within.2.2 ⟨by decide, by decide, by decide +kernel⟩ rfl rfl ⟨by decide, by decide⟩ rfl rfl (Nat.le_of_ble_eq_true rfl) (by decide) (by decide) (by decide) dX9_defect_23 (fun x11 M10 => ?_)
    refine g_if_eq (tgt := 38) hC dX9_defect_26 (by decide) (fun _ => ?_) (fun _ => ?_)
    · refine g_sub (lv1 := [(0, .ref (zad Z 9)), (1, .int a1)]) [1, 2] rfl ?_
      exact g_X9_defect_b38 hC  M10 a1 
    · refine g_aload_n hC 1 dX9_defect_29 rfl rfl ?_
      refine gf_X9_101 hC dX9_defect_30 ?_
      refine g_iload_n hC 2 dX9_defect_33 rfl rfl ?_
      refine g_iald hC 132 (by decide) rfl dX9_defect_34 ?_
      refine g_if_eq (tgt := 42) hC dX9_defect_35 (by decide) (fun _ => ?_) (fun _ => ?_)
      · refine g_iconst hC (v := 0) dX9_defect_42 (by decide) ?_
        refine g_sub (lv1 := [(0, .ref (zad Z 9)), (1, .int a1)]) [1, 2] rfl ?_
        exact g_X9_defect_b43 hC  M10 a1 0
      · refine g_sub (lv1 := [(0, .ref (zad Z 9)), (1, .int a1)]) [1, 2] rfl ?_
        exact g_X9_defect_b38 hC  M10 a1 

-- ===== X9_cure =====
def f_X9_cure_b50  (M : gM) (a1 : Int32) (t1 : Int32) : gR := (rb (f_X9_refused M t1) (fun x2 M1 => (if x2 = 0 then (gZ01 1 (gI a1 160 (bM (gset M1 135 a1.toNatClampNeg 1) (fun M3 => (rRet 1 M3))))) else (rRet 0 M1))))
def f_X9_cure_b45  (M : gM) (a1 : Int32)  : gR := (f_X9_cure_b50  M a1 2)
def f_X9_cure (M : gM) (a1 : Int32) : gR := (rb (f_X9_isEntry M a1) (fun x5 M4 => (if x5 = 0 then (f_X9_cure_b50  M4 a1 1) else (gI a1 160 (if (M4 132 a1.toNatClampNeg) = 0 then (f_X9_cure_b45  M4 a1 ) else (gI a1 160 (if (M4 135 a1.toNatClampNeg) = 0 then (rb (f_X9_cureOf M4 a1) (fun x7 M6 => (rb (f_X9_isBehind M6 x7) (fun x9 M8 => (if x9 = 0 then (f_X9_cure_b50  M8 a1 0) else (f_X9_cure_b45  M8 a1 )))))) else (f_X9_cure_b45  M4 a1 ))))))))
abbrev rm_X9_cure : Room := { frames := 4, cells := 0, slots := 0, locals := 93 }
set_option maxRecDepth 20000 in
set_option maxHeartbeats 4000000 in
theorem g_X9_cure_b50 {p : Program} {l : Launch} {e : Env} {s : State} {m : MethodId} {args : Array Value} {below : List Frame} {meth : Method} {c : Code} {Z : gZ} (hC : gC p l s m args meth c cX9_cure 3 RX9 (some .boolean) Z)   (M : gM) (a1 : Int32) (t1 : Int32) : gW p l e rm_X9_cure s m args below meth c 3 Z 1 0 0 M 50 [(0, .ref (zad Z 9)), (1, .int a1)] [.int t1, .ref (zad Z 9)] (f_X9_cure_b50  M a1 t1) := by
  unfold f_X9_cure_b50
  refine g_callVi (n := 1) hC [.int t1] 9 9 (by decide) rfl rfl (fun hne => c_X9_refused hC.2.2.2.2.2.2.2.1 Z M t1 hne) lk_X9_155 mw_X9_refused.1 mw_X9_refused.2.1 mw_X9_refused.2.2.1 mw_X9_refused.2.2.2 ⟨rfl, by decide, by decide, by decide +kernel⟩ rfl rfl ⟨by decide, by decide⟩ rfl rfl (Nat.le_of_ble_eq_true rfl) (by decide) (by decide) (by decide) dX9_cure_50 (fun x2 M1 => ?_)
  refine g_if_eq (tgt := 58) hC dX9_cure_53 (by decide) (fun _ => ?_) (fun _ => ?_)
  · refine g_aload_n hC 0 dX9_cure_58 rfl rfl ?_
    refine gf_X9_110 hC dX9_cure_59 ?_
    refine g_iload_n hC 1 dX9_cure_62 rfl rfl ?_
    refine g_iconst hC (v := 1) dX9_cure_63 (by decide) ?_
    refine g_zast hC 135 (by decide) rfl dX9_cure_64 (fun M3 => ?_)
    refine g_iconst hC (v := 1) dX9_cure_65 (by decide) ?_
    exact g_zret1 hC rfl (by decide) dX9_cure_66
  · refine g_iconst hC (v := 0) dX9_cure_56 (by decide) ?_
    exact g_zret0 hC rfl (by decide) dX9_cure_57
set_option maxRecDepth 20000 in
set_option maxHeartbeats 4000000 in
theorem g_X9_cure_b45 {p : Program} {l : Launch} {e : Env} {s : State} {m : MethodId} {args : Array Value} {below : List Frame} {meth : Method} {c : Code} {Z : gZ} (hC : gC p l s m args meth c cX9_cure 3 RX9 (some .boolean) Z)   (M : gM) (a1 : Int32)  : gW p l e rm_X9_cure s m args below meth c 3 Z 1 0 0 M 45 [(0, .ref (zad Z 9)), (1, .int a1)] [.ref (zad Z 9)] (f_X9_cure_b45  M a1 ) := by
  unfold f_X9_cure_b45
  refine g_iconst hC (v := 2) dX9_cure_45 (by decide) ?_
  refine g_goto (tgt := 50) hC dX9_cure_46 (by decide) ?_
  exact g_X9_cure_b50 hC  M a1 2
set_option maxRecDepth 20000 in
set_option maxHeartbeats 4000000 in
theorem c_X9_cure {l : Launch} (hfl : l.stackTraces = false) (Z : gZ) (M : gM) (a1 : Int32) : gMet l yX9_cure cX9_cure 3 (some .boolean) rm_X9_cure 1 0 Z M [.ref (zad Z 9), .int a1] (f_X9_cure M a1) := by
  refine g_enter hfl (by decide) (Nat.le_of_ble_eq_true rfl) (fun p e s m args below meth c hC => ?_)
  refine g_eq (F := f_X9_cure M a1) rfl ?_
  refine g_lv0 (lv1 := [(0, .ref (zad Z 9)), (1, .int a1)]) rfl ?_
  unfold f_X9_cure
  refine g_aload_n hC 0 dX9_cure_0 rfl rfl ?_
  refine g_iload_n hC 1 dX9_cure_1 rfl rfl ?_
  refine g_callVi (n := 1) hC [.int a1] 9 9 (by decide) rfl rfl (fun hne => c_X9_isEntry hC.2.2.2.2.2.2.2.1 Z M a1 hne) lk_X9_174 mw_X9_isEntry.1 mw_X9_isEntry.2.1 mw_X9_isEntry.2.2.1 mw_X9_isEntry.2.2.2 ⟨rfl, by decide, by decide, by decide +kernel⟩ rfl rfl ⟨by decide, by decide⟩ rfl rfl (Nat.le_of_ble_eq_true rfl) (by decide) (by decide) (by decide) dX9_cure_2 (fun x5 M4 => ?_)
  refine g_istore_n hC (lv1 := [(2, .int x5), (0, .ref (zad Z 9)), (1, .int a1)]) dX9_cure_5 rfl (by decide) rfl ?_
  refine g_aload_n hC 1 dX9_cure_6 rfl rfl ?_
  refine g_iload_n hC 0 dX9_cure_7 rfl rfl ?_
  refine g_if_ne (tgt := 15) hC dX9_cure_8 (by decide) (fun _ => ?_) (fun _ => ?_)
  · refine g_iconst hC (v := 1) dX9_cure_11 (by decide) ?_
    refine g_goto (tgt := 50) hC dX9_cure_12 (by decide) ?_
    refine g_sub (lv1 := [(0, .ref (zad Z 9)), (1, .int a1)]) [1, 2] rfl ?_
    exact g_X9_cure_b50 hC  M4 a1 1
  · refine g_aload_n hC 1 dX9_cure_15 rfl rfl ?_
    refine gf_X9_101 hC dX9_cure_16 ?_
    refine g_iload_n hC 2 dX9_cure_19 rfl rfl ?_
    refine g_iald hC 132 (by decide) rfl dX9_cure_20 ?_
    refine g_if_eq (tgt := 45) hC dX9_cure_21 (by decide) (fun _ => ?_) (fun _ => ?_)
    · refine g_sub (lv1 := [(0, .ref (zad Z 9)), (1, .int a1)]) [1, 2] rfl ?_
      exact g_X9_cure_b45 hC  M4 a1 
    · refine g_aload_n hC 1 dX9_cure_24 rfl rfl ?_
      refine gf_X9_110 hC dX9_cure_25 ?_
      refine g_iload_n hC 2 dX9_cure_28 rfl rfl ?_
      refine g_zald hC 135 (by decide) rfl dX9_cure_29 ?_
      refine g_if_ne (tgt := 45) hC dX9_cure_30 (by decide) (fun _ => ?_) (fun _ => ?_)
      · refine g_aload_n hC 1 dX9_cure_33 rfl rfl ?_
        refine g_aload_n hC 1 dX9_cure_34 rfl rfl ?_
        refine g_iload_n hC 2 dX9_cure_35 rfl rfl ?_
        refine g_callVi (n := 1) hC [.int a1] 9 9 (by decide) rfl rfl (fun hne => c_X9_cureOf hC.2.2.2.2.2.2.2.1 Z M4 a1 hne) lk_X9_204 mw_X9_cureOf.1 mw_X9_cureOf.2.1 mw_X9_cureOf.2.2.1 mw_X9_cureOf.2.2.2 ⟨rfl, by decide, by decide, by decide +kernel⟩ rfl rfl ⟨by decide, by decide⟩ rfl rfl (Nat.le_of_ble_eq_true rfl) (by decide) (by decide) (by decide) dX9_cure_36 (fun x7 M6 => ?_)
        refine g_callVi (n := 1) hC [.int x7] 9 9 (by decide) rfl rfl (fun hne => c_X9_isBehind hC.2.2.2.2.2.2.2.1 Z M6 x7 hne) lk_X9_207 mw_X9_isBehind.1 mw_X9_isBehind.2.1 mw_X9_isBehind.2.2.1 mw_X9_isBehind.2.2.2 ⟨rfl, by decide, by decide, by decide +kernel⟩ rfl rfl ⟨by decide, by decide⟩ rfl rfl (Nat.le_of_ble_eq_true rfl) (by decide) (by decide) (by decide) dX9_cure_39 (fun x9 M8 => ?_)
        refine g_if_eq (tgt := 49) hC dX9_cure_42 (by decide) (fun _ => ?_) (fun _ => ?_)
        · refine g_iconst hC (v := 0) dX9_cure_49 (by decide) ?_
          refine g_sub (lv1 := [(0, .ref (zad Z 9)), (1, .int a1)]) [1, 2] rfl ?_
          exact g_X9_cure_b50 hC  M8 a1 0
        · refine g_sub (lv1 := [(0, .ref (zad Z 9)), (1, .int a1)]) [1, 2] rfl ?_
          exact g_X9_cure_b45 hC  M8 a1 
      · refine g_sub (lv1 := [(0, .ref (zad Z 9)), (1, .int a1)]) [1, 2] rfl ?_
        exact g_X9_cure_b45 hC  M4 a1 

-- ===== X9_isOfSort =====
def f_X9_isOfSort (M : gM) (a1 : Int32) (a2 : Int32) : gR := (if a1 = 1 then (rb (f_X9_isMotion M a2) (fun x2 M1 => (gZ01 x2 (rRet x2 M1)))) else (if a1 = 3 then (rb (f_X9_isEntry M a2) (fun x4 M3 => (gZ01 x4 (rRet x4 M3)))) else (rb (f_X9_within M a1 0 2) (fun x6 M5 => (if x6 = 0 then (rRet 0 M5) else (rb (f_X9_isClaim M5 a2) (fun x8 M7 => (if x8 = 0 then (rRet 0 M7) else (rRet 1 M7)))))))))
abbrev rm_X9_isOfSort : Room := { frames := 3, cells := 0, slots := 0, locals := 64 }
set_option maxRecDepth 20000 in
set_option maxHeartbeats 4000000 in
theorem c_X9_isOfSort {l : Launch} (hfl : l.stackTraces = false) (Z : gZ) (M : gM) (a1 : Int32) (a2 : Int32) : gMet l yX9_isOfSort cX9_isOfSort 3 (some .boolean) rm_X9_isOfSort 1 0 Z M [.ref (zad Z 9), .int a1, .int a2] (f_X9_isOfSort M a1 a2) := by
  refine g_enter hfl (by decide) (Nat.le_of_ble_eq_true rfl) (fun p e s m args below meth c hC => ?_)
  refine g_eq (F := f_X9_isOfSort M a1 a2) rfl ?_
  refine g_lv0 (lv1 := [(0, .ref (zad Z 9)), (1, .int a1), (2, .int a2)]) rfl ?_
  unfold f_X9_isOfSort
  refine g_iload_n hC 1 dX9_isOfSort_0 rfl rfl ?_
  refine g_iconst hC (v := 1) dX9_isOfSort_1 (by decide) ?_
  refine g_icmp_ne (tgt := 13) hC dX9_isOfSort_2 (by decide) (fun _ => ?_) (fun _ => ?_)
  · refine g_aload_n hC 0 dX9_isOfSort_5 rfl rfl ?_
    refine g_iload_n hC 2 dX9_isOfSort_6 rfl rfl ?_
    refine g_callVi (n := 1) hC [.int a2] 9 9 (by decide) rfl rfl (fun hne => c_X9_isMotion hC.2.2.2.2.2.2.2.1 Z M a2 hne) lk_X9_250 mw_X9_isMotion.1 mw_X9_isMotion.2.1 mw_X9_isMotion.2.2.1 mw_X9_isMotion.2.2.2 ⟨rfl, by decide, by decide, by decide +kernel⟩ rfl rfl ⟨by decide, by decide⟩ rfl rfl (Nat.le_of_ble_eq_true rfl) (by decide) (by decide) (by decide) dX9_isOfSort_7 (fun x2 M1 => ?_)
    refine g_goto (tgt := 48) hC dX9_isOfSort_10 (by decide) ?_
    exact g_zret hC rfl (by decide) dX9_isOfSort_48
  · refine g_iload_n hC 1 dX9_isOfSort_13 rfl rfl ?_
    refine g_iconst hC (v := 3) dX9_isOfSort_14 (by decide) ?_
    refine g_icmp_ne (tgt := 26) hC dX9_isOfSort_15 (by decide) (fun _ => ?_) (fun _ => ?_)
    · refine g_aload_n hC 0 dX9_isOfSort_18 rfl rfl ?_
      refine g_iload_n hC 2 dX9_isOfSort_19 rfl rfl ?_
      refine g_callVi (n := 1) hC [.int a2] 9 9 (by decide) rfl rfl (fun hne => c_X9_isEntry hC.2.2.2.2.2.2.2.1 Z M a2 hne) lk_X9_174 mw_X9_isEntry.1 mw_X9_isEntry.2.1 mw_X9_isEntry.2.2.1 mw_X9_isEntry.2.2.2 ⟨rfl, by decide, by decide, by decide +kernel⟩ rfl rfl ⟨by decide, by decide⟩ rfl rfl (Nat.le_of_ble_eq_true rfl) (by decide) (by decide) (by decide) dX9_isOfSort_20 (fun x4 M3 => ?_)
      refine g_goto (tgt := 48) hC dX9_isOfSort_23 (by decide) ?_
      exact g_zret hC rfl (by decide) dX9_isOfSort_48
    · refine g_iload_n hC 1 dX9_isOfSort_26 rfl rfl ?_
      refine g_iconst hC (v := 0) dX9_isOfSort_27 (by decide) ?_
      refine g_iconst hC (v := 2) dX9_isOfSort_28 (by decide) ?_
      refine g_callSi (n := 3) hC [.int a1, .int 0, .int 2] (fun hne => c_X9_within hC.2.2.2.2.2.2.2.1 Z M a1 0 2 hne) lk_X9_148 mw_X9_within.1 mw_X9_within.2.1 mw_X9_within.2.2 ⟨by decide, by decide, by decide +kernel⟩ rfl rfl ⟨by decide, by decide⟩ rfl rfl (Nat.le_of_ble_eq_true rfl) (by decide) (by decide) (by decide) dX9_isOfSort_29 (fun x6 M5 => ?_)
      refine g_if_eq (tgt := 47) hC dX9_isOfSort_32 (by decide) (fun _ => ?_) (fun _ => ?_)
      · refine g_iconst hC (v := 0) dX9_isOfSort_47 (by decide) ?_
        exact g_zret0 hC rfl (by decide) dX9_isOfSort_48
      · refine g_aload_n hC 0 dX9_isOfSort_35 rfl rfl ?_
        refine g_iload_n hC 2 dX9_isOfSort_36 rfl rfl ?_
        refine g_callVi (n := 1) hC [.int a2] 9 9 (by decide) rfl rfl (fun hne => c_X9_isClaim hC.2.2.2.2.2.2.2.1 Z M5 a2 hne) lk_X9_195 mw_X9_isClaim.1 mw_X9_isClaim.2.1 mw_X9_isClaim.2.2.1 mw_X9_isClaim.2.2.2 ⟨rfl, by decide, by decide, by decide +kernel⟩ rfl rfl ⟨by decide, by decide⟩ rfl rfl (Nat.le_of_ble_eq_true rfl) (by decide) (by decide) (by decide) dX9_isOfSort_37 (fun x8 M7 => ?_)
        refine g_if_eq (tgt := 47) hC dX9_isOfSort_40 (by decide) (fun _ => ?_) (fun _ => ?_)
        · refine g_iconst hC (v := 0) dX9_isOfSort_47 (by decide) ?_
          exact g_zret0 hC rfl (by decide) dX9_isOfSort_48
        · refine g_iconst hC (v := 1) dX9_isOfSort_43 (by decide) ?_
          refine g_goto (tgt := 48) hC dX9_isOfSort_44 (by decide) ?_
          exact g_zret1 hC rfl (by decide) dX9_isOfSort_48

-- ===== X9_dueOf =====
def f_X9_dueOf (M : gM) (a1 : Int32) (a2 : Int32) : gR := (if a1 = 0 then (rb (f_X9_answerDue M a2) (fun x2 M1 => (rRet x2 M1))) else (if a1 = 1 then (rb (f_X9_responseDue M a2) (fun x4 M3 => (rRet x4 M3))) else (if a1 = 2 then (rb (f_X9_appealDue M a2) (fun x6 M5 => (rRet x6 M5))) else (rb (f_X9_cureOf M a2) (fun x8 M7 => (rRet x8 M7))))))
abbrev rm_X9_dueOf : Room := { frames := 8, cells := 0, slots := 0, locals := 184 }
set_option maxRecDepth 20000 in
set_option maxHeartbeats 4000000 in
theorem c_X9_dueOf {l : Launch} (hfl : l.stackTraces = false) (Z : gZ) (M : gM) (a1 : Int32) (a2 : Int32) : gMet l yX9_dueOf cX9_dueOf 3 (some .int) rm_X9_dueOf 1 0 Z M [.ref (zad Z 9), .int a1, .int a2] (f_X9_dueOf M a1 a2) := by
  refine g_enter hfl (by decide) (Nat.le_of_ble_eq_true rfl) (fun p e s m args below meth c hC => ?_)
  refine g_eq (F := f_X9_dueOf M a1 a2) rfl ?_
  refine g_lv0 (lv1 := [(0, .ref (zad Z 9)), (1, .int a1), (2, .int a2)]) rfl ?_
  unfold f_X9_dueOf
  refine g_iload_n hC 1 dX9_dueOf_0 rfl rfl ?_
  refine g_if_ne (tgt := 12) hC dX9_dueOf_1 (by decide) (fun _ => ?_) (fun _ => ?_)
  · refine g_aload_n hC 0 dX9_dueOf_4 rfl rfl ?_
    refine g_iload_n hC 2 dX9_dueOf_5 rfl rfl ?_
    refine g_callVi (n := 1) hC [.int a2] 9 9 (by decide) rfl rfl (fun hne => c_X9_answerDue hC.2.2.2.2.2.2.2.1 Z M a2 hne) lk_X9_244 mw_X9_answerDue.1 mw_X9_answerDue.2.1 mw_X9_answerDue.2.2.1 mw_X9_answerDue.2.2.2 ⟨rfl, by decide, by decide, by decide +kernel⟩ rfl rfl ⟨by decide, by decide⟩ rfl rfl (Nat.le_of_ble_eq_true rfl) (by decide) (by decide) (by decide) dX9_dueOf_6 (fun x2 M1 => ?_)
    refine g_goto (tgt := 43) hC dX9_dueOf_9 (by decide) ?_
    exact g_iret hC rfl (by decide) dX9_dueOf_43
  · refine g_iload_n hC 1 dX9_dueOf_12 rfl rfl ?_
    refine g_iconst hC (v := 1) dX9_dueOf_13 (by decide) ?_
    refine g_icmp_ne (tgt := 25) hC dX9_dueOf_14 (by decide) (fun _ => ?_) (fun _ => ?_)
    · refine g_aload_n hC 0 dX9_dueOf_17 rfl rfl ?_
      refine g_iload_n hC 2 dX9_dueOf_18 rfl rfl ?_
      refine g_callVi (n := 1) hC [.int a2] 9 9 (by decide) rfl rfl (fun hne => c_X9_responseDue hC.2.2.2.2.2.2.2.1 Z M a2 hne) lk_X9_256 mw_X9_responseDue.1 mw_X9_responseDue.2.1 mw_X9_responseDue.2.2.1 mw_X9_responseDue.2.2.2 ⟨rfl, by decide, by decide, by decide +kernel⟩ rfl rfl ⟨by decide, by decide⟩ rfl rfl (Nat.le_of_ble_eq_true rfl) (by decide) (by decide) (by decide) dX9_dueOf_19 (fun x4 M3 => ?_)
      refine g_goto (tgt := 43) hC dX9_dueOf_22 (by decide) ?_
      exact g_iret hC rfl (by decide) dX9_dueOf_43
    · refine g_iload_n hC 1 dX9_dueOf_25 rfl rfl ?_
      refine g_iconst hC (v := 2) dX9_dueOf_26 (by decide) ?_
      refine g_icmp_ne (tgt := 38) hC dX9_dueOf_27 (by decide) (fun _ => ?_) (fun _ => ?_)
      · refine g_aload_n hC 0 dX9_dueOf_30 rfl rfl ?_
        refine g_iload_n hC 2 dX9_dueOf_31 rfl rfl ?_
        refine g_callVi (n := 1) hC [.int a2] 9 9 (by decide) rfl rfl (fun hne => c_X9_appealDue hC.2.2.2.2.2.2.2.1 Z M a2 hne) lk_X9_265 mw_X9_appealDue.1 mw_X9_appealDue.2.1 mw_X9_appealDue.2.2.1 mw_X9_appealDue.2.2.2 ⟨rfl, by decide, by decide, by decide +kernel⟩ rfl rfl ⟨by decide, by decide⟩ rfl rfl (Nat.le_of_ble_eq_true rfl) (by decide) (by decide) (by decide) dX9_dueOf_32 (fun x6 M5 => ?_)
        refine g_goto (tgt := 43) hC dX9_dueOf_35 (by decide) ?_
        exact g_iret hC rfl (by decide) dX9_dueOf_43
      · refine g_aload_n hC 0 dX9_dueOf_38 rfl rfl ?_
        refine g_iload_n hC 2 dX9_dueOf_39 rfl rfl ?_
        refine g_callVi (n := 1) hC [.int a2] 9 9 (by decide) rfl rfl (fun hne => c_X9_cureOf hC.2.2.2.2.2.2.2.1 Z M a2 hne) lk_X9_204 mw_X9_cureOf.1 mw_X9_cureOf.2.1 mw_X9_cureOf.2.2.1 mw_X9_cureOf.2.2.2 ⟨rfl, by decide, by decide, by decide +kernel⟩ rfl rfl ⟨by decide, by decide⟩ rfl rfl (Nat.le_of_ble_eq_true rfl) (by decide) (by decide) (by decide) dX9_dueOf_40 (fun x8 M7 => ?_)
        exact g_iret hC rfl (by decide) dX9_dueOf_43

-- ===== X9_extend =====
def f_X9_extend_b203  (M : gM) (a1 : Int32) (a2 : Int32)  : gR := (rb (f_X9_dueOf M a1 a2) (fun x2 M1 => (rRet x2 M1)))
def f_X9_extend_b128  (M : gM) (a1 : Int32) (a2 : Int32) (a6 : Int32) (t1 : Int32) (t2 : Int32) (t3 : Int32) : gR := (gI t1 24 (bM (gset M 116 t1.toNatClampNeg (t2 + t3)) (fun M3 => (gI a2 24 (bM (gset M3 117 a2.toNatClampNeg a6) (fun M4 => (f_X9_extend_b203  M4 a1 a2 )))))))
def f_X9_extend_b193  (M : gM) (a1 : Int32) (a2 : Int32) (a6 : Int32) (t1 : Int32) (t2 : Int32) (t3 : Int32) : gR := (gI t1 24 (bM (gset M 118 t1.toNatClampNeg (t2 + t3)) (fun M5 => (gI a2 24 (bM (gset M5 119 a2.toNatClampNeg a6) (fun M6 => (f_X9_extend_b203  M6 a1 a2 )))))))
def f_X9_extend_b82  (M : gM) (a1 : Int32) (a2 : Int32) (a3 : Int32) (t1 : Int32) : gR := (rb (f_X9_refused M t1) (fun x8 M7 => (if x8 = 0 then (if a1 = 0 then (rb (f_X9_answerFrom M7 a2) (fun x10 M9 => (gI a2 24 (if (M9 117 a2.toNatClampNeg) = x10 then (gI a2 24 (f_X9_extend_b128  M9 a1 a2 x10 a2 a3 (M9 116 a2.toNatClampNeg))) else (f_X9_extend_b128  M9 a1 a2 x10 a2 a3 0))))) else (if a1 = 1 then (gI a2 160 (gI a2 160 (bM (gset M7 131 a2.toNatClampNeg ((M7 131 a2.toNatClampNeg) + a3)) (fun M11 => (f_X9_extend_b203  M11 a1 a2 ))))) else (rb (f_X9_appealFrom M7 a2) (fun x13 M12 => (gI a2 24 (if (M12 119 a2.toNatClampNeg) = x13 then (gI a2 24 (f_X9_extend_b193  M12 a1 a2 x13 a2 a3 (M12 118 a2.toNatClampNeg))) else (f_X9_extend_b193  M12 a1 a2 x13 a2 a3 0))))))) else (rRet 0 M7))))
def f_X9_extend_b77  (M : gM) (a1 : Int32) (a2 : Int32) (a3 : Int32)  : gR := (f_X9_extend_b82  M a1 a2 a3 3)
def f_X9_extend_b36  (M : gM) (a1 : Int32) (a2 : Int32) (a3 : Int32) (a4 : Int32) (t0 : Int32) : gR := (if a4 = 0 then (f_X9_extend_b82  M a1 a2 a3 1) else (rb (f_X9_within M a3 1 60) (fun x15 M14 => (if x15 = 0 then (f_X9_extend_b82  M14 a1 a2 a3 2) else (if t0 = (-1) then (f_X9_extend_b77  M14 a1 a2 a3 ) else (rb (f_X9_isBehind M14 t0) (fun x17 M16 => (if x17 = 0 then (f_X9_extend_b82  M16 a1 a2 a3 0) else (f_X9_extend_b77  M16 a1 a2 a3 )))))))))
def f_X9_extend_b19  (M : gM) (a1 : Int32) (a2 : Int32) (a3 : Int32) (t0 : Int32) : gR := (if t0 = 0 then (f_X9_extend_b36  M a1 a2 a3 t0 (-1)) else (rb (f_X9_dueOf M a1 a2) (fun x19 M18 => (f_X9_extend_b36  M18 a1 a2 a3 t0 x19))))
def f_X9_extend_b18  (M : gM) (a1 : Int32) (a2 : Int32) (a3 : Int32)  : gR := (f_X9_extend_b19  M a1 a2 a3 0)
def f_X9_extend (M : gM) (a1 : Int32) (a2 : Int32) (a3 : Int32) : gR := (if a1 = 3 then (f_X9_extend_b18  M a1 a2 a3 ) else (rb (f_X9_isOfSort M a1 a2) (fun x21 M20 => (if x21 = 0 then (f_X9_extend_b18  M20 a1 a2 a3 ) else (f_X9_extend_b19  M20 a1 a2 a3 1)))))
abbrev rm_X9_extend : Room := { frames := 9, cells := 0, slots := 0, locals := 206 }
set_option maxRecDepth 20000 in
set_option maxHeartbeats 4000000 in
theorem g_X9_extend_b203 {p : Program} {l : Launch} {e : Env} {s : State} {m : MethodId} {args : Array Value} {below : List Frame} {meth : Method} {c : Code} {Z : gZ} (hC : gC p l s m args meth c cX9_extend 7 RX9 (some .int) Z)   (M : gM) (a1 : Int32) (a2 : Int32)  : gW p l e rm_X9_extend s m args below meth c 7 Z 1 0 0 M 203 [(0, .ref (zad Z 9)), (1, .int a1), (2, .int a2)] [] (f_X9_extend_b203  M a1 a2 ) := by
  unfold f_X9_extend_b203
  refine g_aload_n hC 0 dX9_extend_203 rfl rfl ?_
  refine g_iload_n hC 1 dX9_extend_204 rfl rfl ?_
  refine g_iload_n hC 2 dX9_extend_205 rfl rfl ?_
  refine g_callVi (n := 2) hC [.int a1, .int a2] 9 9 (by decide) rfl rfl (fun hne => c_X9_dueOf hC.2.2.2.2.2.2.2.1 Z M a1 a2 hne) lk_X9_275 mw_X9_dueOf.1 mw_X9_dueOf.2.1 mw_X9_dueOf.2.2.1 mw_X9_dueOf.2.2.2 ⟨rfl, by decide, by decide, by decide +kernel⟩ rfl rfl ⟨by decide, by decide⟩ rfl rfl (Nat.le_of_ble_eq_true rfl) (by decide) (by decide) (by decide) dX9_extend_206 (fun x2 M1 => ?_)
  exact g_iret hC rfl (by decide) dX9_extend_209
set_option maxRecDepth 20000 in
set_option maxHeartbeats 4000000 in
theorem g_X9_extend_b128 {p : Program} {l : Launch} {e : Env} {s : State} {m : MethodId} {args : Array Value} {below : List Frame} {meth : Method} {c : Code} {Z : gZ} (hC : gC p l s m args meth c cX9_extend 7 RX9 (some .int) Z)   (M : gM) (a1 : Int32) (a2 : Int32) (a6 : Int32) (t1 : Int32) (t2 : Int32) (t3 : Int32) : gW p l e rm_X9_extend s m args below meth c 7 Z 1 0 0 M 128 [(0, .ref (zad Z 9)), (1, .int a1), (2, .int a2), (6, .int a6)] [.int t3, .int t2, .int t1, .ref (zad Z 116)] (f_X9_extend_b128  M a1 a2 a6 t1 t2 t3) := by
  unfold f_X9_extend_b128
  refine g_iadd hC dX9_extend_128 ?_
  refine g_iast hC 116 (by decide) rfl dX9_extend_129 (fun M3 => ?_)
  refine g_aload_n hC 0 dX9_extend_130 rfl rfl ?_
  refine gf_X9_56 hC dX9_extend_131 ?_
  refine g_iload_n hC 2 dX9_extend_134 rfl rfl ?_
  refine g_iload hC 3 dX9_extend_135 rfl ?_
  refine g_iast hC 117 (by decide) rfl dX9_extend_137 (fun M4 => ?_)
  refine g_goto (tgt := 203) hC dX9_extend_138 (by decide) ?_
  refine g_sub (lv1 := [(0, .ref (zad Z 9)), (1, .int a1), (2, .int a2)]) [0, 1, 2] rfl ?_
  exact g_X9_extend_b203 hC  M4 a1 a2 
set_option maxRecDepth 20000 in
set_option maxHeartbeats 4000000 in
theorem g_X9_extend_b193 {p : Program} {l : Launch} {e : Env} {s : State} {m : MethodId} {args : Array Value} {below : List Frame} {meth : Method} {c : Code} {Z : gZ} (hC : gC p l s m args meth c cX9_extend 7 RX9 (some .int) Z)   (M : gM) (a1 : Int32) (a2 : Int32) (a6 : Int32) (t1 : Int32) (t2 : Int32) (t3 : Int32) : gW p l e rm_X9_extend s m args below meth c 7 Z 1 0 0 M 193 [(0, .ref (zad Z 9)), (1, .int a1), (2, .int a2), (6, .int a6)] [.int t3, .int t2, .int t1, .ref (zad Z 118)] (f_X9_extend_b193  M a1 a2 a6 t1 t2 t3) := by
  unfold f_X9_extend_b193
  refine g_iadd hC dX9_extend_193 ?_
  refine g_iast hC 118 (by decide) rfl dX9_extend_194 (fun M5 => ?_)
  refine g_aload_n hC 0 dX9_extend_195 rfl rfl ?_
  refine gf_X9_62 hC dX9_extend_196 ?_
  refine g_iload_n hC 2 dX9_extend_199 rfl rfl ?_
  refine g_iload hC 3 dX9_extend_200 rfl ?_
  refine g_iast hC 119 (by decide) rfl dX9_extend_202 (fun M6 => ?_)
  refine g_sub (lv1 := [(0, .ref (zad Z 9)), (1, .int a1), (2, .int a2)]) [0, 1, 2] rfl ?_
  exact g_X9_extend_b203 hC  M6 a1 a2 
set_option maxRecDepth 20000 in
set_option maxHeartbeats 4000000 in
theorem g_X9_extend_b82 {p : Program} {l : Launch} {e : Env} {s : State} {m : MethodId} {args : Array Value} {below : List Frame} {meth : Method} {c : Code} {Z : gZ} (hC : gC p l s m args meth c cX9_extend 7 RX9 (some .int) Z)   (M : gM) (a1 : Int32) (a2 : Int32) (a3 : Int32) (t1 : Int32) : gW p l e rm_X9_extend s m args below meth c 7 Z 1 0 0 M 82 [(0, .ref (zad Z 9)), (1, .int a1), (2, .int a2), (3, .int a3)] [.int t1, .ref (zad Z 9)] (f_X9_extend_b82  M a1 a2 a3 t1) := by
  unfold f_X9_extend_b82
  refine g_callVi (n := 1) hC [.int t1] 9 9 (by decide) rfl rfl (fun hne => c_X9_refused hC.2.2.2.2.2.2.2.1 Z M t1 hne) lk_X9_155 mw_X9_refused.1 mw_X9_refused.2.1 mw_X9_refused.2.2.1 mw_X9_refused.2.2.2 ⟨rfl, by decide, by decide, by decide +kernel⟩ rfl rfl ⟨by decide, by decide⟩ rfl rfl (Nat.le_of_ble_eq_true rfl) (by decide) (by decide) (by decide) dX9_extend_82 (fun x8 M7 => ?_)
  refine g_if_eq (tgt := 90) hC dX9_extend_85 (by decide) (fun _ => ?_) (fun _ => ?_)
  · refine g_iload_n hC 1 dX9_extend_90 rfl rfl ?_
    refine g_if_ne (tgt := 141) hC dX9_extend_91 (by decide) (fun _ => ?_) (fun _ => ?_)
    · refine g_aload_n hC 0 dX9_extend_94 rfl rfl ?_
      refine g_iload_n hC 2 dX9_extend_95 rfl rfl ?_
      refine g_callVi (n := 1) hC [.int a2] 9 9 (by decide) rfl rfl (fun hne => c_X9_answerFrom hC.2.2.2.2.2.2.2.1 Z M7 a2 hne) lk_X9_224 mw_X9_answerFrom.1 mw_X9_answerFrom.2.1 mw_X9_answerFrom.2.2.1 mw_X9_answerFrom.2.2.2 ⟨rfl, by decide, by decide, by decide +kernel⟩ rfl rfl ⟨by decide, by decide⟩ rfl rfl (Nat.le_of_ble_eq_true rfl) (by decide) (by decide) (by decide) dX9_extend_96 (fun x10 M9 => ?_)
      refine g_istore hC (lv1 := [(6, .int x10), (0, .ref (zad Z 9)), (1, .int a1), (2, .int a2), (3, .int a3)]) dX9_extend_99 (by decide) rfl ?_
      refine g_aload_n hC 1 dX9_extend_101 rfl rfl ?_
      refine gf_X9_53 hC dX9_extend_102 ?_
      refine g_iload_n hC 3 dX9_extend_105 rfl rfl ?_
      refine g_iload_n hC 4 dX9_extend_106 rfl rfl ?_
      refine g_aload_n hC 1 dX9_extend_107 rfl rfl ?_
      refine gf_X9_56 hC dX9_extend_108 ?_
      refine g_iload_n hC 3 dX9_extend_111 rfl rfl ?_
      refine g_iald hC 117 (by decide) rfl dX9_extend_112 ?_
      refine g_iload hC 0 dX9_extend_113 rfl ?_
      refine g_icmp_ne (tgt := 127) hC dX9_extend_115 (by decide) (fun _ => ?_) (fun _ => ?_)
      · refine g_aload_n hC 1 dX9_extend_118 rfl rfl ?_
        refine gf_X9_53 hC dX9_extend_119 ?_
        refine g_iload_n hC 3 dX9_extend_122 rfl rfl ?_
        refine g_iald hC 116 (by decide) rfl dX9_extend_123 ?_
        refine g_goto (tgt := 128) hC dX9_extend_124 (by decide) ?_
        refine g_sub (lv1 := [(0, .ref (zad Z 9)), (1, .int a1), (2, .int a2), (6, .int x10)]) [1, 2, 3, 0] rfl ?_
        exact g_X9_extend_b128 hC  M9 a1 a2 x10 a2 a3 (M9 116 a2.toNatClampNeg)
      · refine g_iconst hC (v := 0) dX9_extend_127 (by decide) ?_
        refine g_sub (lv1 := [(0, .ref (zad Z 9)), (1, .int a1), (2, .int a2), (6, .int x10)]) [1, 2, 3, 0] rfl ?_
        exact g_X9_extend_b128 hC  M9 a1 a2 x10 a2 a3 0
    · refine g_iload_n hC 1 dX9_extend_141 rfl rfl ?_
      refine g_iconst hC (v := 1) dX9_extend_142 (by decide) ?_
      refine g_icmp_ne (tgt := 159) hC dX9_extend_143 (by decide) (fun _ => ?_) (fun _ => ?_)
      · refine g_aload_n hC 0 dX9_extend_146 rfl rfl ?_
        refine gf_X9_98 hC dX9_extend_147 ?_
        refine g_iload_n hC 2 dX9_extend_150 rfl rfl ?_
        refine g_dup2 hC dX9_extend_151 rfl rfl ?_
        refine g_iald hC 131 (by decide) rfl dX9_extend_152 ?_
        refine g_iload_n hC 3 dX9_extend_153 rfl rfl ?_
        refine g_iadd hC dX9_extend_154 ?_
        refine g_iast hC 131 (by decide) rfl dX9_extend_155 (fun M11 => ?_)
        refine g_goto (tgt := 203) hC dX9_extend_156 (by decide) ?_
        refine g_sub (lv1 := [(0, .ref (zad Z 9)), (1, .int a1), (2, .int a2)]) [0, 1, 2] rfl ?_
        exact g_X9_extend_b203 hC  M11 a1 a2 
      · refine g_aload_n hC 0 dX9_extend_159 rfl rfl ?_
        refine g_iload_n hC 2 dX9_extend_160 rfl rfl ?_
        refine g_callVi (n := 1) hC [.int a2] 9 9 (by decide) rfl rfl (fun hne => c_X9_appealFrom hC.2.2.2.2.2.2.2.1 Z M7 a2 hne) lk_X9_230 mw_X9_appealFrom.1 mw_X9_appealFrom.2.1 mw_X9_appealFrom.2.2.1 mw_X9_appealFrom.2.2.2 ⟨rfl, by decide, by decide, by decide +kernel⟩ rfl rfl ⟨by decide, by decide⟩ rfl rfl (Nat.le_of_ble_eq_true rfl) (by decide) (by decide) (by decide) dX9_extend_161 (fun x13 M12 => ?_)
        refine g_istore hC (lv1 := [(6, .int x13), (0, .ref (zad Z 9)), (1, .int a1), (2, .int a2), (3, .int a3)]) dX9_extend_164 (by decide) rfl ?_
        refine g_aload_n hC 1 dX9_extend_166 rfl rfl ?_
        refine gf_X9_59 hC dX9_extend_167 ?_
        refine g_iload_n hC 3 dX9_extend_170 rfl rfl ?_
        refine g_iload_n hC 4 dX9_extend_171 rfl rfl ?_
        refine g_aload_n hC 1 dX9_extend_172 rfl rfl ?_
        refine gf_X9_62 hC dX9_extend_173 ?_
        refine g_iload_n hC 3 dX9_extend_176 rfl rfl ?_
        refine g_iald hC 119 (by decide) rfl dX9_extend_177 ?_
        refine g_iload hC 0 dX9_extend_178 rfl ?_
        refine g_icmp_ne (tgt := 192) hC dX9_extend_180 (by decide) (fun _ => ?_) (fun _ => ?_)
        · refine g_aload_n hC 1 dX9_extend_183 rfl rfl ?_
          refine gf_X9_59 hC dX9_extend_184 ?_
          refine g_iload_n hC 3 dX9_extend_187 rfl rfl ?_
          refine g_iald hC 118 (by decide) rfl dX9_extend_188 ?_
          refine g_goto (tgt := 193) hC dX9_extend_189 (by decide) ?_
          refine g_sub (lv1 := [(0, .ref (zad Z 9)), (1, .int a1), (2, .int a2), (6, .int x13)]) [1, 2, 3, 0] rfl ?_
          exact g_X9_extend_b193 hC  M12 a1 a2 x13 a2 a3 (M12 118 a2.toNatClampNeg)
        · refine g_iconst hC (v := 0) dX9_extend_192 (by decide) ?_
          refine g_sub (lv1 := [(0, .ref (zad Z 9)), (1, .int a1), (2, .int a2), (6, .int x13)]) [1, 2, 3, 0] rfl ?_
          exact g_X9_extend_b193 hC  M12 a1 a2 x13 a2 a3 0
  · refine g_iconst hC (v := 0) dX9_extend_88 (by decide) ?_
    exact g_iret hC rfl (by decide) dX9_extend_89
set_option maxRecDepth 20000 in
set_option maxHeartbeats 4000000 in
theorem g_X9_extend_b77 {p : Program} {l : Launch} {e : Env} {s : State} {m : MethodId} {args : Array Value} {below : List Frame} {meth : Method} {c : Code} {Z : gZ} (hC : gC p l s m args meth c cX9_extend 7 RX9 (some .int) Z)   (M : gM) (a1 : Int32) (a2 : Int32) (a3 : Int32)  : gW p l e rm_X9_extend s m args below meth c 7 Z 1 0 0 M 77 [(0, .ref (zad Z 9)), (1, .int a1), (2, .int a2), (3, .int a3)] [.ref (zad Z 9)] (f_X9_extend_b77  M a1 a2 a3 ) := by
  unfold f_X9_extend_b77
  refine g_iconst hC (v := 3) dX9_extend_77 (by decide) ?_
  refine g_goto (tgt := 82) hC dX9_extend_78 (by decide) ?_
  exact g_X9_extend_b82 hC  M a1 a2 a3 3
set_option maxRecDepth 20000 in
set_option maxHeartbeats 4000000 in
theorem g_X9_extend_b36 {p : Program} {l : Launch} {e : Env} {s : State} {m : MethodId} {args : Array Value} {below : List Frame} {meth : Method} {c : Code} {Z : gZ} (hC : gC p l s m args meth c cX9_extend 7 RX9 (some .int) Z)   (M : gM) (a1 : Int32) (a2 : Int32) (a3 : Int32) (a4 : Int32) (t0 : Int32) : gW p l e rm_X9_extend s m args below meth c 7 Z 1 0 0 M 36 [(0, .ref (zad Z 9)), (1, .int a1), (2, .int a2), (3, .int a3), (4, .int a4)] [.int t0] (f_X9_extend_b36  M a1 a2 a3 a4 t0) := by
  unfold f_X9_extend_b36
  refine g_istore hC (lv1 := [(5, .int t0), (0, .ref (zad Z 9)), (1, .int a1), (2, .int a2), (3, .int a3), (4, .int a4)]) dX9_extend_36 (by decide) rfl ?_
  refine g_aload_n hC 1 dX9_extend_38 rfl rfl ?_
  refine g_iload hC 5 dX9_extend_39 rfl ?_
  refine g_if_ne (tgt := 48) hC dX9_extend_41 (by decide) (fun _ => ?_) (fun _ => ?_)
  · refine g_iconst hC (v := 1) dX9_extend_44 (by decide) ?_
    refine g_goto (tgt := 82) hC dX9_extend_45 (by decide) ?_
    refine g_sub (lv1 := [(0, .ref (zad Z 9)), (1, .int a1), (2, .int a2), (3, .int a3)]) [1, 2, 3, 4] rfl ?_
    exact g_X9_extend_b82 hC  M a1 a2 a3 1
  · refine g_iload_n hC 4 dX9_extend_48 rfl rfl ?_
    refine g_iconst hC (v := 1) dX9_extend_49 (by decide) ?_
    refine g_bipush hC (v := 60) dX9_extend_50 (by decide) ?_
    refine g_callSi (n := 3) hC [.int a3, .int 1, .int 60] (fun hne => c_X9_within hC.2.2.2.2.2.2.2.1 Z M a3 1 60 hne) lk_X9_148 mw_X9_within.1 mw_X9_within.2.1 mw_X9_within.2.2 ⟨by decide, by decide, by decide +kernel⟩ rfl rfl ⟨by decide, by decide⟩ rfl rfl (Nat.le_of_ble_eq_true rfl) (by decide) (by decide) (by decide) dX9_extend_52 (fun x15 M14 => ?_)
    refine g_if_ne (tgt := 62) hC dX9_extend_55 (by decide) (fun _ => ?_) (fun _ => ?_)
    · refine g_iconst hC (v := 2) dX9_extend_58 (by decide) ?_
      refine g_goto (tgt := 82) hC dX9_extend_59 (by decide) ?_
      refine g_sub (lv1 := [(0, .ref (zad Z 9)), (1, .int a1), (2, .int a2), (3, .int a3)]) [1, 2, 3, 4] rfl ?_
      exact g_X9_extend_b82 hC  M14 a1 a2 a3 2
    · refine g_iload hC 0 dX9_extend_62 rfl ?_
      refine g_iconst hC (v := (-1)) dX9_extend_64 (by decide) ?_
      refine g_icmp_eq (tgt := 77) hC dX9_extend_65 (by decide) (fun _ => ?_) (fun _ => ?_)
      · refine g_sub (lv1 := [(0, .ref (zad Z 9)), (1, .int a1), (2, .int a2), (3, .int a3)]) [1, 2, 3, 4] rfl ?_
        exact g_X9_extend_b77 hC  M14 a1 a2 a3 
      · refine g_aload_n hC 1 dX9_extend_68 rfl rfl ?_
        refine g_iload hC 0 dX9_extend_69 rfl ?_
        refine g_callVi (n := 1) hC [.int t0] 9 9 (by decide) rfl rfl (fun hne => c_X9_isBehind hC.2.2.2.2.2.2.2.1 Z M14 t0 hne) lk_X9_207 mw_X9_isBehind.1 mw_X9_isBehind.2.1 mw_X9_isBehind.2.2.1 mw_X9_isBehind.2.2.2 ⟨rfl, by decide, by decide, by decide +kernel⟩ rfl rfl ⟨by decide, by decide⟩ rfl rfl (Nat.le_of_ble_eq_true rfl) (by decide) (by decide) (by decide) dX9_extend_71 (fun x17 M16 => ?_)
        refine g_if_eq (tgt := 81) hC dX9_extend_74 (by decide) (fun _ => ?_) (fun _ => ?_)
        · refine g_iconst hC (v := 0) dX9_extend_81 (by decide) ?_
          refine g_sub (lv1 := [(0, .ref (zad Z 9)), (1, .int a1), (2, .int a2), (3, .int a3)]) [1, 2, 3, 4] rfl ?_
          exact g_X9_extend_b82 hC  M16 a1 a2 a3 0
        · refine g_sub (lv1 := [(0, .ref (zad Z 9)), (1, .int a1), (2, .int a2), (3, .int a3)]) [1, 2, 3, 4] rfl ?_
          exact g_X9_extend_b77 hC  M16 a1 a2 a3 
set_option maxRecDepth 20000 in
set_option maxHeartbeats 4000000 in
theorem g_X9_extend_b19 {p : Program} {l : Launch} {e : Env} {s : State} {m : MethodId} {args : Array Value} {below : List Frame} {meth : Method} {c : Code} {Z : gZ} (hC : gC p l s m args meth c cX9_extend 7 RX9 (some .int) Z)   (M : gM) (a1 : Int32) (a2 : Int32) (a3 : Int32) (t0 : Int32) : gW p l e rm_X9_extend s m args below meth c 7 Z 1 0 0 M 19 [(0, .ref (zad Z 9)), (1, .int a1), (2, .int a2), (3, .int a3)] [.int t0] (f_X9_extend_b19  M a1 a2 a3 t0) := by
  unfold f_X9_extend_b19
  refine g_istore hC (lv1 := [(4, .int t0), (0, .ref (zad Z 9)), (1, .int a1), (2, .int a2), (3, .int a3)]) dX9_extend_19 (by decide) rfl ?_
  refine g_iload hC 0 dX9_extend_21 rfl ?_
  refine g_if_eq (tgt := 35) hC dX9_extend_23 (by decide) (fun _ => ?_) (fun _ => ?_)
  · refine g_iconst hC (v := (-1)) dX9_extend_35 (by decide) ?_
    refine g_sub (lv1 := [(0, .ref (zad Z 9)), (1, .int a1), (2, .int a2), (3, .int a3), (4, .int t0)]) [1, 2, 3, 4, 0] rfl ?_
    exact g_X9_extend_b36 hC  M a1 a2 a3 t0 (-1)
  · refine g_aload_n hC 1 dX9_extend_26 rfl rfl ?_
    refine g_iload_n hC 2 dX9_extend_27 rfl rfl ?_
    refine g_iload_n hC 3 dX9_extend_28 rfl rfl ?_
    refine g_callVi (n := 2) hC [.int a1, .int a2] 9 9 (by decide) rfl rfl (fun hne => c_X9_dueOf hC.2.2.2.2.2.2.2.1 Z M a1 a2 hne) lk_X9_275 mw_X9_dueOf.1 mw_X9_dueOf.2.1 mw_X9_dueOf.2.2.1 mw_X9_dueOf.2.2.2 ⟨rfl, by decide, by decide, by decide +kernel⟩ rfl rfl ⟨by decide, by decide⟩ rfl rfl (Nat.le_of_ble_eq_true rfl) (by decide) (by decide) (by decide) dX9_extend_29 (fun x19 M18 => ?_)
    refine g_goto (tgt := 36) hC dX9_extend_32 (by decide) ?_
    refine g_sub (lv1 := [(0, .ref (zad Z 9)), (1, .int a1), (2, .int a2), (3, .int a3), (4, .int t0)]) [1, 2, 3, 4, 0] rfl ?_
    exact g_X9_extend_b36 hC  M18 a1 a2 a3 t0 x19
set_option maxRecDepth 20000 in
set_option maxHeartbeats 4000000 in
theorem g_X9_extend_b18 {p : Program} {l : Launch} {e : Env} {s : State} {m : MethodId} {args : Array Value} {below : List Frame} {meth : Method} {c : Code} {Z : gZ} (hC : gC p l s m args meth c cX9_extend 7 RX9 (some .int) Z)   (M : gM) (a1 : Int32) (a2 : Int32) (a3 : Int32)  : gW p l e rm_X9_extend s m args below meth c 7 Z 1 0 0 M 18 [(0, .ref (zad Z 9)), (1, .int a1), (2, .int a2), (3, .int a3)] [] (f_X9_extend_b18  M a1 a2 a3 ) := by
  unfold f_X9_extend_b18
  refine g_iconst hC (v := 0) dX9_extend_18 (by decide) ?_
  exact g_X9_extend_b19 hC  M a1 a2 a3 0
set_option maxRecDepth 20000 in
set_option maxHeartbeats 4000000 in
theorem c_X9_extend {l : Launch} (hfl : l.stackTraces = false) (Z : gZ) (M : gM) (a1 : Int32) (a2 : Int32) (a3 : Int32) : gMet l yX9_extend cX9_extend 7 (some .int) rm_X9_extend 1 0 Z M [.ref (zad Z 9), .int a1, .int a2, .int a3] (f_X9_extend M a1 a2 a3) := by
  refine g_enter hfl (by decide) (Nat.le_of_ble_eq_true rfl) (fun p e s m args below meth c hC => ?_)
  refine g_eq (F := f_X9_extend M a1 a2 a3) rfl ?_
  refine g_lv0 (lv1 := [(0, .ref (zad Z 9)), (1, .int a1), (2, .int a2), (3, .int a3)]) rfl ?_
  unfold f_X9_extend
  refine g_iload_n hC 1 dX9_extend_0 rfl rfl ?_
  refine g_iconst hC (v := 3) dX9_extend_1 (by decide) ?_
  refine g_icmp_eq (tgt := 18) hC dX9_extend_2 (by decide) (fun _ => ?_) (fun _ => ?_)
  · exact g_X9_extend_b18 hC  M a1 a2 a3
  · refine g_aload_n hC 0 dX9_extend_5 rfl rfl ?_
    refine g_iload_n hC 1 dX9_extend_6 rfl rfl ?_
    refine g_iload_n hC 2 dX9_extend_7 rfl rfl ?_
    refine g_callVi (n := 2) hC [.int a1, .int a2] 9 9 (by decide) rfl rfl (fun hne => c_X9_isOfSort hC.2.2.2.2.2.2.2.1 Z M a1 a2 hne) lk_X9_272 mw_X9_isOfSort.1 mw_X9_isOfSort.2.1 mw_X9_isOfSort.2.2.1 mw_X9_isOfSort.2.2.2 ⟨rfl, by decide, by decide, by decide +kernel⟩ rfl rfl ⟨by decide, by decide⟩ rfl rfl (Nat.le_of_ble_eq_true rfl) (by decide) (by decide) (by decide) dX9_extend_8 (fun x21 M20 => ?_)
    refine g_if_eq (tgt := 18) hC dX9_extend_11 (by decide) (fun _ => ?_) (fun _ => ?_)
    · exact g_X9_extend_b18 hC  M20 a1 a2 a3
    · refine g_iconst hC (v := 1) dX9_extend_14 (by decide) ?_
      refine g_goto (tgt := 19) hC dX9_extend_15 (by decide) ?_
      exact g_X9_extend_b19 hC  M20 a1 a2 a3 1

-- ===== X9_judgeOf =====
def f_X9_judgeOf (M : gM) (a1 : Int32) : gR := (gI a1 8 (if (M 106 a1.toNatClampNeg) = (-1) then (gI a1 8 (rRet (M 105 a1.toNatClampNeg) M)) else (gI a1 8 (gI (M 106 a1.toNatClampNeg) 8 (rRet (M 105 (M 106 a1.toNatClampNeg).toNatClampNeg) M)))))
abbrev rm_X9_judgeOf : Room := { frames := 0, cells := 0, slots := 0, locals := 0 }
set_option maxRecDepth 20000 in
set_option maxHeartbeats 4000000 in
theorem c_X9_judgeOf {l : Launch} (hfl : l.stackTraces = false) (Z : gZ) (M : gM) (a1 : Int32) : gMet l yX9_judgeOf cX9_judgeOf 2 (some .int) rm_X9_judgeOf 1 0 Z M [.ref (zad Z 9), .int a1] (f_X9_judgeOf M a1) := by
  refine g_enter hfl (by decide) (Nat.le_of_ble_eq_true rfl) (fun p e s m args below meth c hC => ?_)
  refine g_eq (F := f_X9_judgeOf M a1) rfl ?_
  refine g_lv0 (lv1 := [(0, .ref (zad Z 9)), (1, .int a1)]) rfl ?_
  unfold f_X9_judgeOf
  refine g_aload_n hC 0 dX9_judgeOf_0 rfl rfl ?_
  refine gf_X9_20 hC dX9_judgeOf_1 ?_
  refine g_aload_n hC 0 dX9_judgeOf_4 rfl rfl ?_
  refine gf_X9_23 hC dX9_judgeOf_5 ?_
  refine g_iload_n hC 1 dX9_judgeOf_8 rfl rfl ?_
  refine g_iald hC 106 (by decide) rfl dX9_judgeOf_9 ?_
  refine g_iconst hC (v := (-1)) dX9_judgeOf_10 (by decide) ?_
  refine g_icmp_ne (tgt := 18) hC dX9_judgeOf_11 (by decide) (fun _ => ?_) (fun _ => ?_)
  · refine g_iload_n hC 1 dX9_judgeOf_14 rfl rfl ?_
    refine g_goto (tgt := 24) hC dX9_judgeOf_15 (by decide) ?_
    refine g_iald hC 105 (by decide) rfl dX9_judgeOf_24 ?_
    exact g_iret hC rfl (by decide) dX9_judgeOf_25
  · refine g_aload_n hC 0 dX9_judgeOf_18 rfl rfl ?_
    refine gf_X9_23 hC dX9_judgeOf_19 ?_
    refine g_iload_n hC 1 dX9_judgeOf_22 rfl rfl ?_
    refine g_iald hC 106 (by decide) rfl dX9_judgeOf_23 ?_
    refine g_iald hC 105 (by decide) rfl dX9_judgeOf_24 ?_
    exact g_iret hC rfl (by decide) dX9_judgeOf_25

-- ===== X9_meet =====
def f_X9_meet_b53 (self22 : gM → Int32 → Int32 → Int32 → Int32 → gR) (M : gM) (a1 : Int32) (a2 : Int32) (a4 : Int32)  : gR := (bV (a4 + 1) (fun x1 => (self22 M a1 a2 1 x1)))
def f_X9_meet_lb22  (self22 : gM → Int32 → Int32 → Int32 → Int32 → gR) (M : gM) (a1 : Int32) (a2 : Int32) (a3 : Int32) (a4 : Int32) : gR := (if 16 ≤ a4 then (gZ01 a3 (rRet a3 M)) else (if a3 = 0 then (rb (f_X9_isParty M a1 a4) (fun x3 M2 => (if x3 = 0 then (bV (a4 + 1) (fun x4 => (self22 M2 a1 a2 0 x4))) else (rb (f_X9_isParty M2 a2 a4) (fun x6 M5 => (if x6 = 0 then (bV (a4 + 1) (fun x7 => (self22 M5 a1 a2 0 x7))) else (f_X9_meet_b53 self22 M5 a1 a2 a4 ))))))) else (f_X9_meet_b53 self22 M a1 a2 a4 )))
def f_X9_meet_l22  : Nat → gM → Int32 → Int32 → Int32 → Int32 → gR
  | 0, _, _, _, _, _ => rStuck
  | n + 1, M, a1, a2, a3, a4 => f_X9_meet_lb22  (f_X9_meet_l22  n) M a1 a2 a3 a4
def f_X9_meet_b18  (M : gM) (a1 : Int32) (a2 : Int32) (t0 : Int32) : gR := (f_X9_meet_l22  5000 M a1 a2 t0 0)
def f_X9_meet (M : gM) (a1 : Int32) (a2 : Int32) : gR := (rb (f_X9_judgeOf M a1) (fun x9 M8 => (rb (f_X9_judgeOf M8 a2) (fun x11 M10 => (if x9 = x11 then (f_X9_meet_b18  M10 a1 a2 1) else (f_X9_meet_b18  M10 a1 a2 0))))))
abbrev rm_X9_meet : Room := { frames := 1, cells := 0, slots := 0, locals := 22 }
set_option maxRecDepth 20000 in
set_option maxHeartbeats 4000000 in
theorem g_X9_meet_b53 {p : Program} {l : Launch} {e : Env} {s : State} {m : MethodId} {args : Array Value} {below : List Frame} {meth : Method} {c : Code} {Z : gZ} (hC : gC p l s m args meth c cX9_meet 5 RX9 (some .boolean) Z) {self22 : gM → Int32 → Int32 → Int32 → Int32 → gR} (hs22 : ∀ (M : gM) (a1 : Int32) (a2 : Int32) (a3 : Int32) (a4 : Int32) , gW p l e rm_X9_meet s m args below meth c 5 Z 1 0 0 M 22 [(0, .ref (zad Z 9)), (1, .int a1), (2, .int a2), (3, .int a3), (4, .int a4)] [] (self22 M a1 a2 a3 a4)) (M : gM) (a1 : Int32) (a2 : Int32) (a4 : Int32)  : gW p l e rm_X9_meet s m args below meth c 5 Z 1 0 0 M 53 [(0, .ref (zad Z 9)), (1, .int a1), (2, .int a2), (4, .int a4)] [] (f_X9_meet_b53 self22 M a1 a2 a4 ) := by
  unfold f_X9_meet_b53
  refine g_iconst hC (v := 1) dX9_meet_53 (by decide) ?_
  refine g_goto (tgt := 58) hC dX9_meet_54 (by decide) ?_
  refine g_istore_n hC (lv1 := [(3, .int 1), (0, .ref (zad Z 9)), (1, .int a1), (2, .int a2), (4, .int a4)]) dX9_meet_58 rfl (by decide) rfl ?_
  refine g_iinc hC 4 (v := 1) (fun x1 => [(4, .int x1), (3, .int 1), (0, .ref (zad Z 9)), (1, .int a1), (2, .int a2)]) dX9_meet_59 rfl (by decide) (by decide) (fun _ => rfl) (fun x1 => ?_)
  refine g_goto (tgt := 22) hC dX9_meet_62 (by decide) ?_
  refine g_sub (lv1 := [(0, .ref (zad Z 9)), (1, .int a1), (2, .int a2), (3, .int 1), (4, .int x1)]) [2, 3, 4, 1, 0] rfl ?_
  exact hs22 M a1 a2 1 x1
set_option maxRecDepth 20000 in
set_option maxHeartbeats 4000000 in
theorem g_X9_meet_lb22 {p : Program} {l : Launch} {e : Env} {s : State} {m : MethodId} {args : Array Value} {below : List Frame} {meth : Method} {c : Code} {Z : gZ} (hC : gC p l s m args meth c cX9_meet 5 RX9 (some .boolean) Z)  {self22 : gM → Int32 → Int32 → Int32 → Int32 → gR}  (hs22 : ∀ (M : gM) (a1 : Int32) (a2 : Int32) (a3 : Int32) (a4 : Int32) , gW p l e rm_X9_meet s m args below meth c 5 Z 1 0 0 M 22 [(0, .ref (zad Z 9)), (1, .int a1), (2, .int a2), (3, .int a3), (4, .int a4)] [] (self22 M a1 a2 a3 a4)) (M : gM) (a1 : Int32) (a2 : Int32) (a3 : Int32) (a4 : Int32) : gW p l e rm_X9_meet s m args below meth c 5 Z 1 0 0 M 22 [(0, .ref (zad Z 9)), (1, .int a1), (2, .int a2), (3, .int a3), (4, .int a4)] [] (f_X9_meet_lb22  self22 M a1 a2 a3 a4) := by
  unfold f_X9_meet_lb22
  refine g_iload hC 4 dX9_meet_22 rfl ?_
  refine g_bipush hC (v := 16) dX9_meet_24 (by decide) ?_
  refine g_icmp_ge (tgt := 65) hC dX9_meet_26 (by decide) (fun _ => ?_) (fun _ => ?_)
  · refine g_iload_n hC 3 dX9_meet_65 rfl rfl ?_
    exact g_zret hC rfl (by decide) dX9_meet_66
  · refine g_iload_n hC 3 dX9_meet_29 rfl rfl ?_
    refine g_if_ne (tgt := 53) hC dX9_meet_30 (by decide) (fun _ => ?_) (fun _ => ?_)
    · refine g_aload_n hC 0 dX9_meet_33 rfl rfl ?_
      refine g_iload_n hC 1 dX9_meet_34 rfl rfl ?_
      refine g_iload hC 4 dX9_meet_35 rfl ?_
      refine g_callVi (n := 2) hC [.int a1, .int a4] 9 9 (by decide) rfl rfl (fun hne => c_X9_isParty hC.2.2.2.2.2.2.2.1 Z M a1 a4 hne) lk_X9_187 mw_X9_isParty.1 mw_X9_isParty.2.1 mw_X9_isParty.2.2.1 mw_X9_isParty.2.2.2 ⟨rfl, by decide, by decide, by decide +kernel⟩ rfl rfl ⟨by decide, by decide⟩ rfl rfl (Nat.le_of_ble_eq_true rfl) (by decide) (by decide) (by decide) dX9_meet_37 (fun x3 M2 => ?_)
      refine g_if_eq (tgt := 57) hC dX9_meet_40 (by decide) (fun _ => ?_) (fun _ => ?_)
      · refine g_iconst hC (v := 0) dX9_meet_57 (by decide) ?_
        refine g_istore_n hC (lv1 := [(3, .int 0), (0, .ref (zad Z 9)), (1, .int a1), (2, .int a2), (4, .int a4)]) dX9_meet_58 rfl (by decide) rfl ?_
        refine g_iinc hC 4 (v := 1) (fun x4 => [(4, .int x4), (3, .int 0), (0, .ref (zad Z 9)), (1, .int a1), (2, .int a2)]) dX9_meet_59 rfl (by decide) (by decide) (fun _ => rfl) (fun x4 => ?_)
        refine g_goto (tgt := 22) hC dX9_meet_62 (by decide) ?_
        refine g_sub (lv1 := [(0, .ref (zad Z 9)), (1, .int a1), (2, .int a2), (3, .int 0), (4, .int x4)]) [2, 3, 4, 1, 0] rfl ?_
        exact hs22 M2 a1 a2 0 x4
      · refine g_aload_n hC 0 dX9_meet_43 rfl rfl ?_
        refine g_iload_n hC 2 dX9_meet_44 rfl rfl ?_
        refine g_iload hC 4 dX9_meet_45 rfl ?_
        refine g_callVi (n := 2) hC [.int a2, .int a4] 9 9 (by decide) rfl rfl (fun hne => c_X9_isParty hC.2.2.2.2.2.2.2.1 Z M2 a2 a4 hne) lk_X9_187 mw_X9_isParty.1 mw_X9_isParty.2.1 mw_X9_isParty.2.2.1 mw_X9_isParty.2.2.2 ⟨rfl, by decide, by decide, by decide +kernel⟩ rfl rfl ⟨by decide, by decide⟩ rfl rfl (Nat.le_of_ble_eq_true rfl) (by decide) (by decide) (by decide) dX9_meet_47 (fun x6 M5 => ?_)
        refine g_if_eq (tgt := 57) hC dX9_meet_50 (by decide) (fun _ => ?_) (fun _ => ?_)
        · refine g_iconst hC (v := 0) dX9_meet_57 (by decide) ?_
          refine g_istore_n hC (lv1 := [(3, .int 0), (0, .ref (zad Z 9)), (1, .int a1), (2, .int a2), (4, .int a4)]) dX9_meet_58 rfl (by decide) rfl ?_
          refine g_iinc hC 4 (v := 1) (fun x7 => [(4, .int x7), (3, .int 0), (0, .ref (zad Z 9)), (1, .int a1), (2, .int a2)]) dX9_meet_59 rfl (by decide) (by decide) (fun _ => rfl) (fun x7 => ?_)
          refine g_goto (tgt := 22) hC dX9_meet_62 (by decide) ?_
          refine g_sub (lv1 := [(0, .ref (zad Z 9)), (1, .int a1), (2, .int a2), (3, .int 0), (4, .int x7)]) [2, 3, 4, 1, 0] rfl ?_
          exact hs22 M5 a1 a2 0 x7
        · refine g_sub (lv1 := [(0, .ref (zad Z 9)), (1, .int a1), (2, .int a2), (4, .int a4)]) [0, 1, 2, 4] rfl ?_
          exact g_X9_meet_b53 hC hs22 M5 a1 a2 a4 
    · refine g_sub (lv1 := [(0, .ref (zad Z 9)), (1, .int a1), (2, .int a2), (4, .int a4)]) [0, 1, 2, 4] rfl ?_
      exact g_X9_meet_b53 hC hs22 M a1 a2 a4 
set_option maxRecDepth 20000 in
set_option maxHeartbeats 4000000 in
theorem g_X9_meet_l22 {p : Program} {l : Launch} {e : Env} {s : State} {m : MethodId} {args : Array Value} {below : List Frame} {meth : Method} {c : Code} {Z : gZ} (hC : gC p l s m args meth c cX9_meet 5 RX9 (some .boolean) Z)   : ∀ (n : Nat) (M : gM) (a1 : Int32) (a2 : Int32) (a3 : Int32) (a4 : Int32), gW p l e rm_X9_meet s m args below meth c 5 Z 1 0 0 M 22 [(0, .ref (zad Z 9)), (1, .int a1), (2, .int a2), (3, .int a3), (4, .int a4)] [] (f_X9_meet_l22  n M a1 a2 a3 a4)
  | 0, _, _, _, _, _ => g_stuck
  | n + 1, M, a1, a2, a3, a4 => g_X9_meet_lb22 hC  (g_X9_meet_l22 hC  n) M a1 a2 a3 a4
set_option maxRecDepth 20000 in
set_option maxHeartbeats 4000000 in
theorem g_X9_meet_b18 {p : Program} {l : Launch} {e : Env} {s : State} {m : MethodId} {args : Array Value} {below : List Frame} {meth : Method} {c : Code} {Z : gZ} (hC : gC p l s m args meth c cX9_meet 5 RX9 (some .boolean) Z)   (M : gM) (a1 : Int32) (a2 : Int32) (t0 : Int32) : gW p l e rm_X9_meet s m args below meth c 5 Z 1 0 0 M 18 [(0, .ref (zad Z 9)), (1, .int a1), (2, .int a2)] [.int t0] (f_X9_meet_b18  M a1 a2 t0) := by
  unfold f_X9_meet_b18
  refine g_istore_n hC (lv1 := [(3, .int t0), (0, .ref (zad Z 9)), (1, .int a1), (2, .int a2)]) dX9_meet_18 rfl (by decide) rfl ?_
  refine g_iconst hC (v := 0) dX9_meet_19 (by decide) ?_
  refine g_istore hC (lv1 := [(4, .int 0), (3, .int t0), (0, .ref (zad Z 9)), (1, .int a1), (2, .int a2)]) dX9_meet_20 (by decide) rfl ?_
  refine g_sub (lv1 := [(0, .ref (zad Z 9)), (1, .int a1), (2, .int a2), (3, .int t0), (4, .int 0)]) [2, 3, 4, 1, 0] rfl ?_
  exact g_X9_meet_l22 hC  5000 M a1 a2 t0 0
set_option maxRecDepth 20000 in
set_option maxHeartbeats 4000000 in
theorem c_X9_meet {l : Launch} (hfl : l.stackTraces = false) (Z : gZ) (M : gM) (a1 : Int32) (a2 : Int32) : gMet l yX9_meet cX9_meet 5 (some .boolean) rm_X9_meet 1 0 Z M [.ref (zad Z 9), .int a1, .int a2] (f_X9_meet M a1 a2) := by
  refine g_enter hfl (by decide) (Nat.le_of_ble_eq_true rfl) (fun p e s m args below meth c hC => ?_)
  refine g_eq (F := f_X9_meet M a1 a2) rfl ?_
  refine g_lv0 (lv1 := [(0, .ref (zad Z 9)), (1, .int a1), (2, .int a2)]) rfl ?_
  unfold f_X9_meet
  refine g_aload_n hC 0 dX9_meet_0 rfl rfl ?_
  refine g_iload_n hC 1 dX9_meet_1 rfl rfl ?_
  refine g_callVi (n := 1) hC [.int a1] 9 9 (by decide) rfl rfl (fun hne => c_X9_judgeOf hC.2.2.2.2.2.2.2.1 Z M a1 hne) lk_X9_278 mw_X9_judgeOf.1 mw_X9_judgeOf.2.1 mw_X9_judgeOf.2.2.1 mw_X9_judgeOf.2.2.2 ⟨rfl, by decide, by decide, by decide +kernel⟩ rfl rfl ⟨by decide, by decide⟩ rfl rfl (Nat.le_of_ble_eq_true rfl) (by decide) (by decide) (by decide) dX9_meet_2 (fun x9 M8 => ?_)
  refine g_aload_n hC 0 dX9_meet_5 rfl rfl ?_
  refine g_iload_n hC 2 dX9_meet_6 rfl rfl ?_
  refine g_callVi (n := 1) hC [.int a2] 9 9 (by decide) rfl rfl (fun hne => c_X9_judgeOf hC.2.2.2.2.2.2.2.1 Z M8 a2 hne) lk_X9_278 mw_X9_judgeOf.1 mw_X9_judgeOf.2.1 mw_X9_judgeOf.2.2.1 mw_X9_judgeOf.2.2.2 ⟨rfl, by decide, by decide, by decide +kernel⟩ rfl rfl ⟨by decide, by decide⟩ rfl rfl (Nat.le_of_ble_eq_true rfl) (by decide) (by decide) (by decide) dX9_meet_7 (fun x11 M10 => ?_)
  refine g_icmp_ne (tgt := 17) hC dX9_meet_10 (by decide) (fun _ => ?_) (fun _ => ?_)
  · refine g_iconst hC (v := 1) dX9_meet_13 (by decide) ?_
    refine g_goto (tgt := 18) hC dX9_meet_14 (by decide) ?_
    exact g_X9_meet_b18 hC  M10 a1 a2 1
  · refine g_iconst hC (v := 0) dX9_meet_17 (by decide) ?_
    exact g_X9_meet_b18 hC  M10 a1 a2 0

-- ===== X9_wouldMeet =====
def f_X9_wouldMeet_b64 (self6 : gM → Int32 → Int32 → Int32 → Int32 → Int32 → Int32 → gR) (M : gM) (a1 : Int32) (a2 : Int32) (a3 : Int32) (a4 : Int32) (a6 : Int32)  : gR := (bV (a6 + 1) (fun x1 => (self6 M a1 a2 a3 a4 1 x1)))
def f_X9_wouldMeet_lb6  (self6 : gM → Int32 → Int32 → Int32 → Int32 → Int32 → Int32 → gR) (M : gM) (a1 : Int32) (a2 : Int32) (a3 : Int32) (a4 : Int32) (a5 : Int32) (a6 : Int32) : gR := (if (M 9 41) ≤ a6 then (gZ01 a5 (rRet a5 M)) else (if a5 = 0 then (if a6 = a4 then (bV (a6 + 1) (fun x2 => (self6 M a1 a2 a3 a4 0 x2))) else (gI a6 40 (if (M 138 a6.toNatClampNeg) = a2 then (gI a6 40 (if (M 139 a6.toNatClampNeg) = a3 then (gI a6 40 (rb (f_X9_meet M a1 (M 137 a6.toNatClampNeg)) (fun x4 M3 => (if x4 = 0 then (bV (a6 + 1) (fun x5 => (self6 M3 a1 a2 a3 a4 0 x5))) else (f_X9_wouldMeet_b64 self6 M3 a1 a2 a3 a4 a6 ))))) else (bV (a6 + 1) (fun x6 => (self6 M a1 a2 a3 a4 0 x6))))) else (bV (a6 + 1) (fun x7 => (self6 M a1 a2 a3 a4 0 x7)))))) else (f_X9_wouldMeet_b64 self6 M a1 a2 a3 a4 a6 )))
def f_X9_wouldMeet_l6  : Nat → gM → Int32 → Int32 → Int32 → Int32 → Int32 → Int32 → gR
  | 0, _, _, _, _, _, _, _ => rStuck
  | n + 1, M, a1, a2, a3, a4, a5, a6 => f_X9_wouldMeet_lb6  (f_X9_wouldMeet_l6  n) M a1 a2 a3 a4 a5 a6
def f_X9_wouldMeet (M : gM) (a1 : Int32) (a2 : Int32) (a3 : Int32) (a4 : Int32) : gR := (f_X9_wouldMeet_l6  5000 M a1 a2 a3 a4 0 0)
abbrev rm_X9_wouldMeet : Room := { frames := 2, cells := 0, slots := 0, locals := 46 }
set_option maxRecDepth 20000 in
set_option maxHeartbeats 4000000 in
theorem g_X9_wouldMeet_b64 {p : Program} {l : Launch} {e : Env} {s : State} {m : MethodId} {args : Array Value} {below : List Frame} {meth : Method} {c : Code} {Z : gZ} (hC : gC p l s m args meth c cX9_wouldMeet 7 RX9 (some .boolean) Z) {self6 : gM → Int32 → Int32 → Int32 → Int32 → Int32 → Int32 → gR} (hs6 : ∀ (M : gM) (a1 : Int32) (a2 : Int32) (a3 : Int32) (a4 : Int32) (a5 : Int32) (a6 : Int32) , gW p l e rm_X9_wouldMeet s m args below meth c 7 Z 1 0 0 M 6 [(0, .ref (zad Z 9)), (1, .int a1), (2, .int a2), (3, .int a3), (4, .int a4), (5, .int a5), (6, .int a6)] [] (self6 M a1 a2 a3 a4 a5 a6)) (M : gM) (a1 : Int32) (a2 : Int32) (a3 : Int32) (a4 : Int32) (a6 : Int32)  : gW p l e rm_X9_wouldMeet s m args below meth c 7 Z 1 0 0 M 64 [(0, .ref (zad Z 9)), (1, .int a1), (2, .int a2), (3, .int a3), (4, .int a4), (6, .int a6)] [] (f_X9_wouldMeet_b64 self6 M a1 a2 a3 a4 a6 ) := by
  unfold f_X9_wouldMeet_b64
  refine g_iconst hC (v := 1) dX9_wouldMeet_64 (by decide) ?_
  refine g_goto (tgt := 69) hC dX9_wouldMeet_65 (by decide) ?_
  refine g_istore hC (lv1 := [(5, .int 1), (0, .ref (zad Z 9)), (1, .int a1), (2, .int a2), (3, .int a3), (4, .int a4), (6, .int a6)]) dX9_wouldMeet_69 (by decide) rfl ?_
  refine g_iinc hC 6 (v := 1) (fun x1 => [(6, .int x1), (5, .int 1), (0, .ref (zad Z 9)), (1, .int a1), (2, .int a2), (3, .int a3), (4, .int a4)]) dX9_wouldMeet_71 rfl (by decide) (by decide) (fun _ => rfl) (fun x1 => ?_)
  refine g_goto (tgt := 6) hC dX9_wouldMeet_74 (by decide) ?_
  refine g_sub (lv1 := [(0, .ref (zad Z 9)), (1, .int a1), (2, .int a2), (3, .int a3), (4, .int a4), (5, .int 1), (6, .int x1)]) [2, 3, 4, 5, 6, 1, 0] rfl ?_
  exact hs6 M a1 a2 a3 a4 1 x1
set_option maxRecDepth 20000 in
set_option maxHeartbeats 4000000 in
theorem g_X9_wouldMeet_lb6 {p : Program} {l : Launch} {e : Env} {s : State} {m : MethodId} {args : Array Value} {below : List Frame} {meth : Method} {c : Code} {Z : gZ} (hC : gC p l s m args meth c cX9_wouldMeet 7 RX9 (some .boolean) Z)  {self6 : gM → Int32 → Int32 → Int32 → Int32 → Int32 → Int32 → gR}  (hs6 : ∀ (M : gM) (a1 : Int32) (a2 : Int32) (a3 : Int32) (a4 : Int32) (a5 : Int32) (a6 : Int32) , gW p l e rm_X9_wouldMeet s m args below meth c 7 Z 1 0 0 M 6 [(0, .ref (zad Z 9)), (1, .int a1), (2, .int a2), (3, .int a3), (4, .int a4), (5, .int a5), (6, .int a6)] [] (self6 M a1 a2 a3 a4 a5 a6)) (M : gM) (a1 : Int32) (a2 : Int32) (a3 : Int32) (a4 : Int32) (a5 : Int32) (a6 : Int32) : gW p l e rm_X9_wouldMeet s m args below meth c 7 Z 1 0 0 M 6 [(0, .ref (zad Z 9)), (1, .int a1), (2, .int a2), (3, .int a3), (4, .int a4), (5, .int a5), (6, .int a6)] [] (f_X9_wouldMeet_lb6  self6 M a1 a2 a3 a4 a5 a6) := by
  unfold f_X9_wouldMeet_lb6
  refine g_iload hC 6 dX9_wouldMeet_6 rfl ?_
  refine g_aload_n hC 0 dX9_wouldMeet_8 rfl rfl ?_
  refine gf_X9_281 hC dX9_wouldMeet_9 ?_
  refine g_icmp_ge (tgt := 77) hC dX9_wouldMeet_12 (by decide) (fun _ => ?_) (fun _ => ?_)
  · refine g_iload hC 5 dX9_wouldMeet_77 rfl ?_
    exact g_zret hC rfl (by decide) dX9_wouldMeet_79
  · refine g_iload hC 5 dX9_wouldMeet_15 rfl ?_
    refine g_if_ne (tgt := 64) hC dX9_wouldMeet_17 (by decide) (fun _ => ?_) (fun _ => ?_)
    · refine g_iload hC 6 dX9_wouldMeet_20 rfl ?_
      refine g_iload hC 4 dX9_wouldMeet_22 rfl ?_
      refine g_icmp_eq (tgt := 68) hC dX9_wouldMeet_24 (by decide) (fun _ => ?_) (fun _ => ?_)
      · refine g_iconst hC (v := 0) dX9_wouldMeet_68 (by decide) ?_
        refine g_istore hC (lv1 := [(5, .int 0), (0, .ref (zad Z 9)), (1, .int a1), (2, .int a2), (3, .int a3), (4, .int a4), (6, .int a6)]) dX9_wouldMeet_69 (by decide) rfl ?_
        refine g_iinc hC 6 (v := 1) (fun x2 => [(6, .int x2), (5, .int 0), (0, .ref (zad Z 9)), (1, .int a1), (2, .int a2), (3, .int a3), (4, .int a4)]) dX9_wouldMeet_71 rfl (by decide) (by decide) (fun _ => rfl) (fun x2 => ?_)
        refine g_goto (tgt := 6) hC dX9_wouldMeet_74 (by decide) ?_
        refine g_sub (lv1 := [(0, .ref (zad Z 9)), (1, .int a1), (2, .int a2), (3, .int a3), (4, .int a4), (5, .int 0), (6, .int x2)]) [2, 3, 4, 5, 6, 1, 0] rfl ?_
        exact hs6 M a1 a2 a3 a4 0 x2
      · refine g_aload_n hC 0 dX9_wouldMeet_27 rfl rfl ?_
        refine gf_X9_120 hC dX9_wouldMeet_28 ?_
        refine g_iload hC 6 dX9_wouldMeet_31 rfl ?_
        refine g_iald hC 138 (by decide) rfl dX9_wouldMeet_33 ?_
        refine g_iload_n hC 2 dX9_wouldMeet_34 rfl rfl ?_
        refine g_icmp_ne (tgt := 68) hC dX9_wouldMeet_35 (by decide) (fun _ => ?_) (fun _ => ?_)
        · refine g_aload_n hC 0 dX9_wouldMeet_38 rfl rfl ?_
          refine gf_X9_123 hC dX9_wouldMeet_39 ?_
          refine g_iload hC 6 dX9_wouldMeet_42 rfl ?_
          refine g_iald hC 139 (by decide) rfl dX9_wouldMeet_44 ?_
          refine g_iload_n hC 3 dX9_wouldMeet_45 rfl rfl ?_
          refine g_icmp_ne (tgt := 68) hC dX9_wouldMeet_46 (by decide) (fun _ => ?_) (fun _ => ?_)
          · refine g_aload_n hC 0 dX9_wouldMeet_49 rfl rfl ?_
            refine g_iload_n hC 1 dX9_wouldMeet_50 rfl rfl ?_
            refine g_aload_n hC 0 dX9_wouldMeet_51 rfl rfl ?_
            refine gf_X9_117 hC dX9_wouldMeet_52 ?_
            refine g_iload hC 6 dX9_wouldMeet_55 rfl ?_
            refine g_iald hC 137 (by decide) rfl dX9_wouldMeet_57 ?_
            refine g_callVi (n := 2) hC [.int a1, .int (M 137 a6.toNatClampNeg)] 9 9 (by decide) rfl rfl (fun hne => c_X9_meet hC.2.2.2.2.2.2.2.1 Z M a1 (M 137 a6.toNatClampNeg) hne) lk_X9_284 mw_X9_meet.1 mw_X9_meet.2.1 mw_X9_meet.2.2.1 mw_X9_meet.2.2.2 ⟨rfl, by decide, by decide, by decide +kernel⟩ rfl rfl ⟨by decide, by decide⟩ rfl rfl (Nat.le_of_ble_eq_true rfl) (by decide) (by decide) (by decide) dX9_wouldMeet_58 (fun x4 M3 => ?_)
            refine g_if_eq (tgt := 68) hC dX9_wouldMeet_61 (by decide) (fun _ => ?_) (fun _ => ?_)
            · refine g_iconst hC (v := 0) dX9_wouldMeet_68 (by decide) ?_
              refine g_istore hC (lv1 := [(5, .int 0), (0, .ref (zad Z 9)), (1, .int a1), (2, .int a2), (3, .int a3), (4, .int a4), (6, .int a6)]) dX9_wouldMeet_69 (by decide) rfl ?_
              refine g_iinc hC 6 (v := 1) (fun x5 => [(6, .int x5), (5, .int 0), (0, .ref (zad Z 9)), (1, .int a1), (2, .int a2), (3, .int a3), (4, .int a4)]) dX9_wouldMeet_71 rfl (by decide) (by decide) (fun _ => rfl) (fun x5 => ?_)
              refine g_goto (tgt := 6) hC dX9_wouldMeet_74 (by decide) ?_
              refine g_sub (lv1 := [(0, .ref (zad Z 9)), (1, .int a1), (2, .int a2), (3, .int a3), (4, .int a4), (5, .int 0), (6, .int x5)]) [2, 3, 4, 5, 6, 1, 0] rfl ?_
              exact hs6 M3 a1 a2 a3 a4 0 x5
            · refine g_sub (lv1 := [(0, .ref (zad Z 9)), (1, .int a1), (2, .int a2), (3, .int a3), (4, .int a4), (6, .int a6)]) [0, 1, 2, 3, 4, 6] rfl ?_
              exact g_X9_wouldMeet_b64 hC hs6 M3 a1 a2 a3 a4 a6 
          · refine g_iconst hC (v := 0) dX9_wouldMeet_68 (by decide) ?_
            refine g_istore hC (lv1 := [(5, .int 0), (0, .ref (zad Z 9)), (1, .int a1), (2, .int a2), (3, .int a3), (4, .int a4), (6, .int a6)]) dX9_wouldMeet_69 (by decide) rfl ?_
            refine g_iinc hC 6 (v := 1) (fun x6 => [(6, .int x6), (5, .int 0), (0, .ref (zad Z 9)), (1, .int a1), (2, .int a2), (3, .int a3), (4, .int a4)]) dX9_wouldMeet_71 rfl (by decide) (by decide) (fun _ => rfl) (fun x6 => ?_)
            refine g_goto (tgt := 6) hC dX9_wouldMeet_74 (by decide) ?_
            refine g_sub (lv1 := [(0, .ref (zad Z 9)), (1, .int a1), (2, .int a2), (3, .int a3), (4, .int a4), (5, .int 0), (6, .int x6)]) [2, 3, 4, 5, 6, 1, 0] rfl ?_
            exact hs6 M a1 a2 a3 a4 0 x6
        · refine g_iconst hC (v := 0) dX9_wouldMeet_68 (by decide) ?_
          refine g_istore hC (lv1 := [(5, .int 0), (0, .ref (zad Z 9)), (1, .int a1), (2, .int a2), (3, .int a3), (4, .int a4), (6, .int a6)]) dX9_wouldMeet_69 (by decide) rfl ?_
          refine g_iinc hC 6 (v := 1) (fun x7 => [(6, .int x7), (5, .int 0), (0, .ref (zad Z 9)), (1, .int a1), (2, .int a2), (3, .int a3), (4, .int a4)]) dX9_wouldMeet_71 rfl (by decide) (by decide) (fun _ => rfl) (fun x7 => ?_)
          refine g_goto (tgt := 6) hC dX9_wouldMeet_74 (by decide) ?_
          refine g_sub (lv1 := [(0, .ref (zad Z 9)), (1, .int a1), (2, .int a2), (3, .int a3), (4, .int a4), (5, .int 0), (6, .int x7)]) [2, 3, 4, 5, 6, 1, 0] rfl ?_
          exact hs6 M a1 a2 a3 a4 0 x7
    · refine g_sub (lv1 := [(0, .ref (zad Z 9)), (1, .int a1), (2, .int a2), (3, .int a3), (4, .int a4), (6, .int a6)]) [0, 1, 2, 3, 4, 6] rfl ?_
      exact g_X9_wouldMeet_b64 hC hs6 M a1 a2 a3 a4 a6 
set_option maxRecDepth 20000 in
set_option maxHeartbeats 4000000 in
theorem g_X9_wouldMeet_l6 {p : Program} {l : Launch} {e : Env} {s : State} {m : MethodId} {args : Array Value} {below : List Frame} {meth : Method} {c : Code} {Z : gZ} (hC : gC p l s m args meth c cX9_wouldMeet 7 RX9 (some .boolean) Z)   : ∀ (n : Nat) (M : gM) (a1 : Int32) (a2 : Int32) (a3 : Int32) (a4 : Int32) (a5 : Int32) (a6 : Int32), gW p l e rm_X9_wouldMeet s m args below meth c 7 Z 1 0 0 M 6 [(0, .ref (zad Z 9)), (1, .int a1), (2, .int a2), (3, .int a3), (4, .int a4), (5, .int a5), (6, .int a6)] [] (f_X9_wouldMeet_l6  n M a1 a2 a3 a4 a5 a6)
  | 0, _, _, _, _, _, _, _ => g_stuck
  | n + 1, M, a1, a2, a3, a4, a5, a6 => g_X9_wouldMeet_lb6 hC  (g_X9_wouldMeet_l6 hC  n) M a1 a2 a3 a4 a5 a6
set_option maxRecDepth 20000 in
set_option maxHeartbeats 4000000 in
theorem c_X9_wouldMeet {l : Launch} (hfl : l.stackTraces = false) (Z : gZ) (M : gM) (a1 : Int32) (a2 : Int32) (a3 : Int32) (a4 : Int32) : gMet l yX9_wouldMeet cX9_wouldMeet 7 (some .boolean) rm_X9_wouldMeet 1 0 Z M [.ref (zad Z 9), .int a1, .int a2, .int a3, .int a4] (f_X9_wouldMeet M a1 a2 a3 a4) := by
  refine g_enter hfl (by decide) (Nat.le_of_ble_eq_true rfl) (fun p e s m args below meth c hC => ?_)
  refine g_eq (F := f_X9_wouldMeet M a1 a2 a3 a4) rfl ?_
  refine g_lv0 (lv1 := [(0, .ref (zad Z 9)), (1, .int a1), (2, .int a2), (3, .int a3), (4, .int a4)]) rfl ?_
  unfold f_X9_wouldMeet
  refine g_iconst hC (v := 0) dX9_wouldMeet_0 (by decide) ?_
  refine g_istore hC (lv1 := [(5, .int 0), (0, .ref (zad Z 9)), (1, .int a1), (2, .int a2), (3, .int a3), (4, .int a4)]) dX9_wouldMeet_1 (by decide) rfl ?_
  refine g_iconst hC (v := 0) dX9_wouldMeet_3 (by decide) ?_
  refine g_istore hC (lv1 := [(6, .int 0), (5, .int 0), (0, .ref (zad Z 9)), (1, .int a1), (2, .int a2), (3, .int a3), (4, .int a4)]) dX9_wouldMeet_4 (by decide) rfl ?_
  refine g_sub (lv1 := [(0, .ref (zad Z 9)), (1, .int a1), (2, .int a2), (3, .int a3), (4, .int a4), (5, .int 0), (6, .int 0)]) [2, 3, 4, 5, 6, 1, 0] rfl ?_
  exact g_X9_wouldMeet_l6 hC  5000 M a1 a2 a3 a4 0 0
