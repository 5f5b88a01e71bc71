-- ===== X9_hearing =====
def f_X9_hearing_b98  (M : gM) (a1 : Int32) (a2 : Int32) (a3 : Int32) (t1 : Int32) : gR := (rb (f_X9_refused M t1) (fun x2 M1 => (if x2 = 0 then (gI (M1 9 41) 40 (bM (gset M1 137 (M1 9 41).toNatClampNeg a1) (fun M3 => (gI (M3 9 41) 40 (bM (gset M3 138 (M3 9 41).toNatClampNeg a2) (fun M4 => (gI (M4 9 41) 40 (bM (gset M4 139 (M4 9 41).toNatClampNeg a3) (fun M5 => (bM (gset M5 9 41 ((M5 9 41) + 1)) (fun M6 => (rRet ((M6 9 41) - 1) M6)))))))))))) else (rRet 0 M1))))
def f_X9_hearing_b93  (M : gM) (a1 : Int32) (a2 : Int32) (a3 : Int32)  : gR := (f_X9_hearing_b98  M a1 a2 a3 3)
def f_X9_hearing_b44  (M : gM) (a1 : Int32) (a2 : Int32) (a3 : Int32) (a4 : Int32) (t0 : Int32) : gR := (if a4 = 0 then (f_X9_hearing_b98  M a1 a2 a3 1) else (if t0 = 0 then (f_X9_hearing_b98  M a1 a2 a3 2) else (rb (f_X9_isFree M a2) (fun x8 M7 => (if x8 = 0 then (if (M7 9 41) = 40 then (f_X9_hearing_b93  M7 a1 a2 a3 ) else (rb (f_X9_wouldMeet M7 a1 a2 a3 (-1)) (fun x10 M9 => (if x10 = 0 then (f_X9_hearing_b98  M9 a1 a2 a3 0) else (f_X9_hearing_b93  M9 a1 a2 a3 ))))) else (f_X9_hearing_b93  M7 a1 a2 a3 ))))))
def f_X9_hearing_b43  (M : gM) (a1 : Int32) (a2 : Int32) (a3 : Int32) (a4 : Int32)  : gR := (f_X9_hearing_b44  M a1 a2 a3 a4 0)
def f_X9_hearing_b22  (M : gM) (a1 : Int32) (a2 : Int32) (a3 : Int32) (t0 : Int32) : gR := (if a2 ≤ (M 9 1) then (f_X9_hearing_b43  M a1 a2 a3 t0 ) else (if 990 < a2 then (f_X9_hearing_b43  M a1 a2 a3 t0 ) else (f_X9_hearing_b44  M a1 a2 a3 t0 1)))
def f_X9_hearing_b21  (M : gM) (a1 : Int32) (a2 : Int32) (a3 : Int32)  : gR := (f_X9_hearing_b22  M a1 a2 a3 0)
def f_X9_hearing (M : gM) (a1 : Int32) (a2 : Int32) (a3 : Int32) : gR := (rb (f_X9_isCase M a1) (fun x12 M11 => (if x12 = 0 then (f_X9_hearing_b21  M11 a1 a2 a3 ) else (rb (f_X9_within M11 a3 0 3) (fun x14 M13 => (if x14 = 0 then (f_X9_hearing_b21  M13 a1 a2 a3 ) else (f_X9_hearing_b22  M13 a1 a2 a3 1)))))))
abbrev rm_X9_hearing : Room := { frames := 3, cells := 0, slots := 0, locals := 72 }
set_option maxRecDepth 20000 in
set_option maxHeartbeats 4000000 in
theorem g_X9_hearing_b98 {p : Program} {l : Launch} {e : Env} {s : State} {m : MethodId} {args : Array Value} {below : List Frame} {meth : Method} {c : Code} {Z : gZ} (hC : gC p l s m args meth c cX9_hearing 6 RX9 (some .int) Z)   (M : gM) (a1 : Int32) (a2 : Int32) (a3 : Int32) (t1 : Int32) : gW p l e rm_X9_hearing s m args below meth c 6 Z 1 0 0 M 98 [(0, .ref (zad Z 9)), (1, .int a1), (2, .int a2), (3, .int a3)] [.int t1, .ref (zad Z 9)] (f_X9_hearing_b98  M a1 a2 a3 t1) := by
  unfold f_X9_hearing_b98
  refine g_callVi (n := 1) hC [.int t1] 9 9 (by decide) rfl rfl (fun hne => c_X9_refused hC.2.2.2.2.2.2.2.1 Z M t1 hne) lk_X9_155 mw_X9_refused.1 mw_X9_refused.2.1 mw_X9_refused.2.2.1 mw_X9_refused.2.2.2 ⟨rfl, by decide, by decide, by decide +kernel⟩ rfl rfl ⟨by decide, by decide⟩ rfl rfl (Nat.le_of_ble_eq_true rfl) (by decide) (by decide) (by decide) dX9_hearing_98 (fun x2 M1 => ?_)
  refine g_if_eq (tgt := 106) hC dX9_hearing_101 (by decide) (fun _ => ?_) (fun _ => ?_)
  · refine g_aload_n hC 0 dX9_hearing_106 rfl rfl ?_
    refine gf_X9_117 hC dX9_hearing_107 ?_
    refine g_aload_n hC 0 dX9_hearing_110 rfl rfl ?_
    refine gf_X9_281 hC dX9_hearing_111 ?_
    refine g_iload_n hC 1 dX9_hearing_114 rfl rfl ?_
    refine g_iast hC 137 (by decide) rfl dX9_hearing_115 (fun M3 => ?_)
    refine g_aload_n hC 0 dX9_hearing_116 rfl rfl ?_
    refine gf_X9_120 hC dX9_hearing_117 ?_
    refine g_aload_n hC 0 dX9_hearing_120 rfl rfl ?_
    refine gf_X9_281 hC dX9_hearing_121 ?_
    refine g_iload_n hC 2 dX9_hearing_124 rfl rfl ?_
    refine g_iast hC 138 (by decide) rfl dX9_hearing_125 (fun M4 => ?_)
    refine g_aload_n hC 0 dX9_hearing_126 rfl rfl ?_
    refine gf_X9_123 hC dX9_hearing_127 ?_
    refine g_aload_n hC 0 dX9_hearing_130 rfl rfl ?_
    refine gf_X9_281 hC dX9_hearing_131 ?_
    refine g_iload_n hC 3 dX9_hearing_134 rfl rfl ?_
    refine g_iast hC 139 (by decide) rfl dX9_hearing_135 (fun M5 => ?_)
    refine g_aload_n hC 0 dX9_hearing_136 rfl rfl ?_
    refine g_dup hC dX9_hearing_137 rfl ?_
    refine gf_X9_281 hC dX9_hearing_138 ?_
    refine g_iconst hC (v := 1) dX9_hearing_141 (by decide) ?_
    refine g_iadd hC dX9_hearing_142 ?_
    refine gp_X9_281 hC dX9_hearing_143 (fun M6 => ?_)
    refine g_aload_n hC 0 dX9_hearing_146 rfl rfl ?_
    refine gf_X9_281 hC dX9_hearing_147 ?_
    refine g_iconst hC (v := 1) dX9_hearing_150 (by decide) ?_
    refine g_isub hC dX9_hearing_151 ?_
    exact g_iret hC rfl (by decide) dX9_hearing_152
  · refine g_iconst hC (v := 0) dX9_hearing_104 (by decide) ?_
    exact g_iret hC rfl (by decide) dX9_hearing_105
set_option maxRecDepth 20000 in
set_option maxHeartbeats 4000000 in
theorem g_X9_hearing_b93 {p : Program} {l : Launch} {e : Env} {s : State} {m : MethodId} {args : Array Value} {below : List Frame} {meth : Method} {c : Code} {Z : gZ} (hC : gC p l s m args meth c cX9_hearing 6 RX9 (some .int) Z)   (M : gM) (a1 : Int32) (a2 : Int32) (a3 : Int32)  : gW p l e rm_X9_hearing s m args below meth c 6 Z 1 0 0 M 93 [(0, .ref (zad Z 9)), (1, .int a1), (2, .int a2), (3, .int a3)] [.ref (zad Z 9)] (f_X9_hearing_b93  M a1 a2 a3 ) := by
  unfold f_X9_hearing_b93
  refine g_iconst hC (v := 3) dX9_hearing_93 (by decide) ?_
  refine g_goto (tgt := 98) hC dX9_hearing_94 (by decide) ?_
  exact g_X9_hearing_b98 hC  M a1 a2 a3 3
set_option maxRecDepth 20000 in
set_option maxHeartbeats 4000000 in
theorem g_X9_hearing_b44 {p : Program} {l : Launch} {e : Env} {s : State} {m : MethodId} {args : Array Value} {below : List Frame} {meth : Method} {c : Code} {Z : gZ} (hC : gC p l s m args meth c cX9_hearing 6 RX9 (some .int) Z)   (M : gM) (a1 : Int32) (a2 : Int32) (a3 : Int32) (a4 : Int32) (t0 : Int32) : gW p l e rm_X9_hearing s m args below meth c 6 Z 1 0 0 M 44 [(0, .ref (zad Z 9)), (1, .int a1), (2, .int a2), (3, .int a3), (4, .int a4)] [.int t0] (f_X9_hearing_b44  M a1 a2 a3 a4 t0) := by
  unfold f_X9_hearing_b44
  refine g_istore hC (lv1 := [(5, .int t0), (0, .ref (zad Z 9)), (1, .int a1), (2, .int a2), (3, .int a3), (4, .int a4)]) dX9_hearing_44 (by decide) rfl ?_
  refine g_aload_n hC 1 dX9_hearing_46 rfl rfl ?_
  refine g_iload hC 5 dX9_hearing_47 rfl ?_
  refine g_if_ne (tgt := 56) hC dX9_hearing_49 (by decide) (fun _ => ?_) (fun _ => ?_)
  · refine g_iconst hC (v := 1) dX9_hearing_52 (by decide) ?_
    refine g_goto (tgt := 98) hC dX9_hearing_53 (by decide) ?_
    refine g_sub (lv1 := [(0, .ref (zad Z 9)), (1, .int a1), (2, .int a2), (3, .int a3)]) [1, 2, 3, 4] rfl ?_
    exact g_X9_hearing_b98 hC  M a1 a2 a3 1
  · refine g_iload hC 0 dX9_hearing_56 rfl ?_
    refine g_if_ne (tgt := 65) hC dX9_hearing_58 (by decide) (fun _ => ?_) (fun _ => ?_)
    · refine g_iconst hC (v := 2) dX9_hearing_61 (by decide) ?_
      refine g_goto (tgt := 98) hC dX9_hearing_62 (by decide) ?_
      refine g_sub (lv1 := [(0, .ref (zad Z 9)), (1, .int a1), (2, .int a2), (3, .int a3)]) [1, 2, 3, 4] rfl ?_
      exact g_X9_hearing_b98 hC  M a1 a2 a3 2
    · refine g_aload_n hC 1 dX9_hearing_65 rfl rfl ?_
      refine g_iload_n hC 3 dX9_hearing_66 rfl rfl ?_
      refine g_callVi (n := 1) hC [.int a2] 9 9 (by decide) rfl rfl (fun hne => c_X9_isFree hC.2.2.2.2.2.2.2.1 Z M a2 hne) lk_X9_162 mw_X9_isFree.1 mw_X9_isFree.2.1 mw_X9_isFree.2.2.1 mw_X9_isFree.2.2.2 ⟨rfl, by decide, by decide, by decide +kernel⟩ rfl rfl ⟨by decide, by decide⟩ rfl rfl (Nat.le_of_ble_eq_true rfl) (by decide) (by decide) (by decide) dX9_hearing_67 (fun x8 M7 => ?_)
      refine g_if_ne (tgt := 93) hC dX9_hearing_70 (by decide) (fun _ => ?_) (fun _ => ?_)
      · refine g_aload_n hC 1 dX9_hearing_73 rfl rfl ?_
        refine gf_X9_281 hC dX9_hearing_74 ?_
        refine g_bipush hC (v := 40) dX9_hearing_77 (by decide) ?_
        refine g_icmp_eq (tgt := 93) hC dX9_hearing_79 (by decide) (fun _ => ?_) (fun _ => ?_)
        · refine g_sub (lv1 := [(0, .ref (zad Z 9)), (1, .int a1), (2, .int a2), (3, .int a3)]) [1, 2, 3, 4] rfl ?_
          exact g_X9_hearing_b93 hC  M7 a1 a2 a3 
        · refine g_aload_n hC 1 dX9_hearing_82 rfl rfl ?_
          refine g_iload_n hC 2 dX9_hearing_83 rfl rfl ?_
          refine g_iload_n hC 3 dX9_hearing_84 rfl rfl ?_
          refine g_iload_n hC 4 dX9_hearing_85 rfl rfl ?_
          refine g_iconst hC (v := (-1)) dX9_hearing_86 (by decide) ?_
          refine g_callVi (n := 4) hC [.int a1, .int a2, .int a3, .int (-1)] 9 9 (by decide) rfl rfl (fun hne => c_X9_wouldMeet hC.2.2.2.2.2.2.2.1 Z M7 a1 a2 a3 (-1) hne) lk_X9_287 mw_X9_wouldMeet.1 mw_X9_wouldMeet.2.1 mw_X9_wouldMeet.2.2.1 mw_X9_wouldMeet.2.2.2 ⟨rfl, by decide, by decide, by decide +kernel⟩ rfl rfl ⟨by decide, by decide⟩ rfl rfl (Nat.le_of_ble_eq_true rfl) (by decide) (by decide) (by decide) dX9_hearing_87 (fun x10 M9 => ?_)
          refine g_if_eq (tgt := 97) hC dX9_hearing_90 (by decide) (fun _ => ?_) (fun _ => ?_)
          · refine g_iconst hC (v := 0) dX9_hearing_97 (by decide) ?_
            refine g_sub (lv1 := [(0, .ref (zad Z 9)), (1, .int a1), (2, .int a2), (3, .int a3)]) [1, 2, 3, 4] rfl ?_
            exact g_X9_hearing_b98 hC  M9 a1 a2 a3 0
          · refine g_sub (lv1 := [(0, .ref (zad Z 9)), (1, .int a1), (2, .int a2), (3, .int a3)]) [1, 2, 3, 4] rfl ?_
            exact g_X9_hearing_b93 hC  M9 a1 a2 a3 
      · refine g_sub (lv1 := [(0, .ref (zad Z 9)), (1, .int a1), (2, .int a2), (3, .int a3)]) [1, 2, 3, 4] rfl ?_
        exact g_X9_hearing_b93 hC  M7 a1 a2 a3 
set_option maxRecDepth 20000 in
set_option maxHeartbeats 4000000 in
theorem g_X9_hearing_b43 {p : Program} {l : Launch} {e : Env} {s : State} {m : MethodId} {args : Array Value} {below : List Frame} {meth : Method} {c : Code} {Z : gZ} (hC : gC p l s m args meth c cX9_hearing 6 RX9 (some .int) Z)   (M : gM) (a1 : Int32) (a2 : Int32) (a3 : Int32) (a4 : Int32)  : gW p l e rm_X9_hearing s m args below meth c 6 Z 1 0 0 M 43 [(0, .ref (zad Z 9)), (1, .int a1), (2, .int a2), (3, .int a3), (4, .int a4)] [] (f_X9_hearing_b43  M a1 a2 a3 a4 ) := by
  unfold f_X9_hearing_b43
  refine g_iconst hC (v := 0) dX9_hearing_43 (by decide) ?_
  exact g_X9_hearing_b44 hC  M a1 a2 a3 a4 0
set_option maxRecDepth 20000 in
set_option maxHeartbeats 4000000 in
theorem g_X9_hearing_b22 {p : Program} {l : Launch} {e : Env} {s : State} {m : MethodId} {args : Array Value} {below : List Frame} {meth : Method} {c : Code} {Z : gZ} (hC : gC p l s m args meth c cX9_hearing 6 RX9 (some .int) Z)   (M : gM) (a1 : Int32) (a2 : Int32) (a3 : Int32) (t0 : Int32) : gW p l e rm_X9_hearing s m args below meth c 6 Z 1 0 0 M 22 [(0, .ref (zad Z 9)), (1, .int a1), (2, .int a2), (3, .int a3)] [.int t0] (f_X9_hearing_b22  M a1 a2 a3 t0) := by
  unfold f_X9_hearing_b22
  refine g_istore hC (lv1 := [(4, .int t0), (0, .ref (zad Z 9)), (1, .int a1), (2, .int a2), (3, .int a3)]) dX9_hearing_22 (by decide) rfl ?_
  refine g_iload_n hC 3 dX9_hearing_24 rfl rfl ?_
  refine g_aload_n hC 1 dX9_hearing_25 rfl rfl ?_
  refine gf_X9_152 hC dX9_hearing_26 ?_
  refine g_icmp_le (tgt := 43) hC dX9_hearing_29 (by decide) (fun _ => ?_) (fun _ => ?_)
  · refine g_sub (lv1 := [(0, .ref (zad Z 9)), (1, .int a1), (2, .int a2), (3, .int a3), (4, .int t0)]) [1, 2, 3, 4, 0] rfl ?_
    exact g_X9_hearing_b43 hC  M a1 a2 a3 t0 
  · refine g_iload_n hC 3 dX9_hearing_32 rfl rfl ?_
    refine g_sipush hC (v := 990) dX9_hearing_33 (by decide) ?_
    refine g_icmp_gt (tgt := 43) hC dX9_hearing_36 (by decide) (fun _ => ?_) (fun _ => ?_)
    · refine g_sub (lv1 := [(0, .ref (zad Z 9)), (1, .int a1), (2, .int a2), (3, .int a3), (4, .int t0)]) [1, 2, 3, 4, 0] rfl ?_
      exact g_X9_hearing_b43 hC  M a1 a2 a3 t0 
    · refine g_iconst hC (v := 1) dX9_hearing_39 (by decide) ?_
      refine g_goto (tgt := 44) hC dX9_hearing_40 (by decide) ?_
      refine g_sub (lv1 := [(0, .ref (zad Z 9)), (1, .int a1), (2, .int a2), (3, .int a3), (4, .int t0)]) [1, 2, 3, 4, 0] rfl ?_
      exact g_X9_hearing_b44 hC  M a1 a2 a3 t0 1
set_option maxRecDepth 20000 in
set_option maxHeartbeats 4000000 in
theorem g_X9_hearing_b21 {p : Program} {l : Launch} {e : Env} {s : State} {m : MethodId} {args : Array Value} {below : List Frame} {meth : Method} {c : Code} {Z : gZ} (hC : gC p l s m args meth c cX9_hearing 6 RX9 (some .int) Z)   (M : gM) (a1 : Int32) (a2 : Int32) (a3 : Int32)  : gW p l e rm_X9_hearing s m args below meth c 6 Z 1 0 0 M 21 [(0, .ref (zad Z 9)), (1, .int a1), (2, .int a2), (3, .int a3)] [] (f_X9_hearing_b21  M a1 a2 a3 ) := by
  unfold f_X9_hearing_b21
  refine g_iconst hC (v := 0) dX9_hearing_21 (by decide) ?_
  exact g_X9_hearing_b22 hC  M a1 a2 a3 0
set_option maxRecDepth 20000 in
set_option maxHeartbeats 4000000 in
theorem c_X9_hearing {l : Launch} (hfl : l.stackTraces = false) (Z : gZ) (M : gM) (a1 : Int32) (a2 : Int32) (a3 : Int32) : gMet l yX9_hearing cX9_hearing 6 (some .int) rm_X9_hearing 1 0 Z M [.ref (zad Z 9), .int a1, .int a2, .int a3] (f_X9_hearing M a1 a2 a3) := by
  refine g_enter hfl (by decide) (Nat.le_of_ble_eq_true rfl) (fun p e s m args below meth c hC => ?_)
  refine g_eq (F := f_X9_hearing M a1 a2 a3) rfl ?_
  refine g_lv0 (lv1 := [(0, .ref (zad Z 9)), (1, .int a1), (2, .int a2), (3, .int a3)]) rfl ?_
  unfold f_X9_hearing
  refine g_aload_n hC 0 dX9_hearing_0 rfl rfl ?_
  refine g_iload_n hC 1 dX9_hearing_1 rfl rfl ?_
  refine g_callVi (n := 1) hC [.int a1] 9 9 (by decide) rfl rfl (fun hne => c_X9_isCase hC.2.2.2.2.2.2.2.1 Z M a1 hne) lk_X9_181 mw_X9_isCase.1 mw_X9_isCase.2.1 mw_X9_isCase.2.2.1 mw_X9_isCase.2.2.2 ⟨rfl, by decide, by decide, by decide +kernel⟩ rfl rfl ⟨by decide, by decide⟩ rfl rfl (Nat.le_of_ble_eq_true rfl) (by decide) (by decide) (by decide) dX9_hearing_2 (fun x12 M11 => ?_)
  refine g_if_eq (tgt := 21) hC dX9_hearing_5 (by decide) (fun _ => ?_) (fun _ => ?_)
  · exact g_X9_hearing_b21 hC  M11 a1 a2 a3
  · refine g_iload_n hC 3 dX9_hearing_8 rfl rfl ?_
    refine g_iconst hC (v := 0) dX9_hearing_9 (by decide) ?_
    refine g_iconst hC (v := 3) dX9_hearing_10 (by decide) ?_
    refine g_callSi (n := 3) hC [.int a3, .int 0, .int 3] (fun hne => c_X9_within hC.2.2.2.2.2.2.2.1 Z M11 a3 0 3 hne) lk_X9_148 mw_X9_within.1 mw_X9_within.2.1 mw_X9_within.2.2 ⟨by decide, by decide, by decide +kernel⟩ rfl rfl ⟨by decide, by decide⟩ rfl rfl (Nat.le_of_ble_eq_true rfl) (by decide) (by decide) (by decide) dX9_hearing_11 (fun x14 M13 => ?_)
    refine g_if_eq (tgt := 21) hC dX9_hearing_14 (by decide) (fun _ => ?_) (fun _ => ?_)
    · exact g_X9_hearing_b21 hC  M13 a1 a2 a3
    · refine g_iconst hC (v := 1) dX9_hearing_17 (by decide) ?_
      refine g_goto (tgt := 22) hC dX9_hearing_18 (by decide) ?_
      exact g_X9_hearing_b22 hC  M13 a1 a2 a3 1

-- ===== X9_continueHearing =====
def f_X9_continueHearing_lb50 (self34 : gM → Int32 → Int32 → Int32 → Int32 → gR) (self50 : gM → Int32 → Int32 → Int32 → Int32 → Int32 → gR) (M : gM) (a1 : Int32) (a2 : Int32) (a3 : Int32) (a4 : Int32) (a5 : Int32) : gR := (if 4 ≤ a5 then (bV (a4 + 1) (fun x1 => (self34 M a1 a2 a3 x1))) else (if a3 = (-1) then (rb (f_X9_isFree M a4) (fun x3 M2 => (if x3 = 0 then (gI a1 40 (rb (f_X9_wouldMeet M2 (M2 137 a1.toNatClampNeg) a4 a5 a1) (fun x5 M4 => (if x5 = 0 then (bV ((10 * a4) + a5) (fun x6 => (bV (a5 + 1) (fun x7 => (self50 M4 a1 a2 x6 a4 x7))))) else (bV (a5 + 1) (fun x8 => (self50 M4 a1 a2 (-1) a4 x8))))))) else (bV (a5 + 1) (fun x9 => (self50 M2 a1 a2 (-1) a4 x9)))))) else (bV (a4 + 1) (fun x10 => (self34 M a1 a2 a3 x10)))))
def f_X9_continueHearing_l50 (self34 : gM → Int32 → Int32 → Int32 → Int32 → gR) : Nat → gM → Int32 → Int32 → Int32 → Int32 → Int32 → gR
  | 0, _, _, _, _, _, _ => rStuck
  | n + 1, M, a1, a2, a3, a4, a5 => f_X9_continueHearing_lb50 self34 (f_X9_continueHearing_l50 self34 n) M a1 a2 a3 a4 a5
def f_X9_continueHearing_b145  (M : gM) (a1 : Int32) (a3 : Int32) (t1 : Int32) : gR := (rb (f_X9_refused M t1) (fun x12 M11 => (if x12 = 0 then (gNz 10 (gI a1 40 (bM (gset M11 138 a1.toNatClampNeg (a3 / 10)) (fun M13 => (gNz 10 (gI a1 40 (bM (gset M13 139 a1.toNatClampNeg (a3 - a3 / 10 * 10)) (fun M14 => (rRet a3 M14))))))))) else (rRet 0 M11))))
def f_X9_continueHearing_b140  (M : gM) (a1 : Int32) (a3 : Int32)  : gR := (f_X9_continueHearing_b145  M a1 a3 2)
def f_X9_continueHearing_b113  (M : gM) (a1 : Int32) (a2 : Int32) (a3 : Int32)  : gR := (if a2 = 0 then (f_X9_continueHearing_b145  M a1 a3 1) else (gI a1 40 (if (M 138 a1.toNatClampNeg) ≤ (M 9 1) then (f_X9_continueHearing_b140  M a1 a3 ) else (if a3 = (-1) then (f_X9_continueHearing_b140  M a1 a3 ) else (f_X9_continueHearing_b145  M a1 a3 0)))))
def f_X9_continueHearing_lb34  (self34 : gM → Int32 → Int32 → Int32 → Int32 → gR) (M : gM) (a1 : Int32) (a2 : Int32) (a3 : Int32) (a4 : Int32) : gR := (if 1000 < a4 then (f_X9_continueHearing_b113  M a1 a2 a3 ) else (if a3 = (-1) then (f_X9_continueHearing_l50 self34 5000 M a1 a2 a3 a4 0) else (f_X9_continueHearing_b113  M a1 a2 a3 )))
def f_X9_continueHearing_l34  : Nat → gM → Int32 → Int32 → Int32 → Int32 → gR
  | 0, _, _, _, _, _ => rStuck
  | n + 1, M, a1, a2, a3, a4 => f_X9_continueHearing_lb34  (f_X9_continueHearing_l34  n) M a1 a2 a3 a4
def f_X9_continueHearing_b32  (M : gM) (a1 : Int32) (a2 : Int32) (a3 : Int32) (t0 : Int32) : gR := (f_X9_continueHearing_l34  5000 M a1 a2 a3 t0)
def f_X9_continueHearing (M : gM) (a1 : Int32) : gR := (rb (f_X9_within M a1 0 ((M 9 41) - 1)) (fun x16 M15 => (if x16 = 0 then (f_X9_continueHearing_b32  M15 a1 x16 (-1) 1001) else (gI a1 40 (f_X9_continueHearing_b32  M15 a1 x16 (-1) ((M15 138 a1.toNatClampNeg) + 1))))))
abbrev rm_X9_continueHearing : Room := { frames := 3, cells := 0, slots := 0, locals := 72 }
set_option maxRecDepth 20000 in
set_option maxHeartbeats 4000000 in
theorem g_X9_continueHearing_lb50 {p : Program} {l : Launch} {e : Env} {s : State} {m : MethodId} {args : Array Value} {below : List Frame} {meth : Method} {c : Code} {Z : gZ} (hC : gC p l s m args meth c cX9_continueHearing 6 RX9 (some .int) Z) {self34 : gM → Int32 → Int32 → Int32 → Int32 → gR} {self50 : gM → Int32 → Int32 → Int32 → Int32 → Int32 → gR} (hs34 : ∀ (M : gM) (a1 : Int32) (a2 : Int32) (a3 : Int32) (a4 : Int32) , gW p l e rm_X9_continueHearing s m args below meth c 6 Z 1 0 0 M 34 [(0, .ref (zad Z 9)), (1, .int a1), (2, .int a2), (3, .int a3), (4, .int a4)] [] (self34 M a1 a2 a3 a4)) (hs50 : ∀ (M : gM) (a1 : Int32) (a2 : Int32) (a3 : Int32) (a4 : Int32) (a5 : Int32) , gW p l e rm_X9_continueHearing s m args below meth c 6 Z 1 0 0 M 50 [(0, .ref (zad Z 9)), (1, .int a1), (2, .int a2), (3, .int a3), (4, .int a4), (5, .int a5)] [] (self50 M a1 a2 a3 a4 a5)) (M : gM) (a1 : Int32) (a2 : Int32) (a3 : Int32) (a4 : Int32) (a5 : Int32) : gW p l e rm_X9_continueHearing s m args below meth c 6 Z 1 0 0 M 50 [(0, .ref (zad Z 9)), (1, .int a1), (2, .int a2), (3, .int a3), (4, .int a4), (5, .int a5)] [] (f_X9_continueHearing_lb50 self34 self50 M a1 a2 a3 a4 a5) := by
  unfold f_X9_continueHearing_lb50
  refine g_iload hC 5 dX9_continueHearing_50 rfl ?_
  refine g_iconst hC (v := 4) dX9_continueHearing_52 (by decide) ?_
  refine g_icmp_ge (tgt := 107) hC dX9_continueHearing_53 (by decide) (fun _ => ?_) (fun _ => ?_)
  · refine g_iinc hC 4 (v := 1) (fun x1 => [(4, .int x1), (0, .ref (zad Z 9)), (1, .int a1), (2, .int a2), (3, .int a3), (5, .int a5)]) dX9_continueHearing_107 rfl (by decide) (by decide) (fun _ => rfl) (fun x1 => ?_)
    refine g_goto (tgt := 34) hC dX9_continueHearing_110 (by decide) ?_
    refine g_sub (lv1 := [(0, .ref (zad Z 9)), (1, .int a1), (2, .int a2), (3, .int a3), (4, .int x1)]) [1, 2, 3, 4, 0] rfl ?_
    exact hs34 M a1 a2 a3 x1
  · refine g_iload_n hC 3 dX9_continueHearing_56 rfl rfl ?_
    refine g_iconst hC (v := (-1)) dX9_continueHearing_57 (by decide) ?_
    refine g_icmp_ne (tgt := 107) hC dX9_continueHearing_58 (by decide) (fun _ => ?_) (fun _ => ?_)
    · refine g_aload_n hC 0 dX9_continueHearing_61 rfl rfl ?_
      refine g_iload hC 4 dX9_continueHearing_62 rfl ?_
      refine g_callVi (n := 1) hC [.int a4] 9 9 (by decide) rfl rfl (fun hne => c_X9_isFree hC.2.2.2.2.2.2.2.1 Z M a4 hne) lk_X9_162 mw_X9_isFree.1 mw_X9_isFree.2.1 mw_X9_isFree.2.2.1 mw_X9_isFree.2.2.2 ⟨rfl, by decide, by decide, by decide +kernel⟩ rfl rfl ⟨by decide, by decide⟩ rfl rfl (Nat.le_of_ble_eq_true rfl) (by decide) (by decide) (by decide) dX9_continueHearing_64 (fun x3 M2 => ?_)
      refine g_if_ne (tgt := 99) hC dX9_continueHearing_67 (by decide) (fun _ => ?_) (fun _ => ?_)
      · refine g_aload_n hC 0 dX9_continueHearing_70 rfl rfl ?_
        refine g_aload_n hC 0 dX9_continueHearing_71 rfl rfl ?_
        refine gf_X9_117 hC dX9_continueHearing_72 ?_
        refine g_iload_n hC 1 dX9_continueHearing_75 rfl rfl ?_
        refine g_iald hC 137 (by decide) rfl dX9_continueHearing_76 ?_
        refine g_iload hC 4 dX9_continueHearing_77 rfl ?_
        refine g_iload hC 5 dX9_continueHearing_79 rfl ?_
        refine g_iload_n hC 1 dX9_continueHearing_81 rfl rfl ?_
        refine g_callVi (n := 4) hC [.int (M2 137 a1.toNatClampNeg), .int a4, .int a5, .int a1] 9 9 (by decide) rfl rfl (fun hne => c_X9_wouldMeet hC.2.2.2.2.2.2.2.1 Z M2 (M2 137 a1.toNatClampNeg) a4 a5 a1 hne) lk_X9_287 mw_X9_wouldMeet.1 mw_X9_wouldMeet.2.1 mw_X9_wouldMeet.2.2.1 mw_X9_wouldMeet.2.2.2 ⟨rfl, by decide, by decide, by decide +kernel⟩ rfl rfl ⟨by decide, by decide⟩ rfl rfl (Nat.le_of_ble_eq_true rfl) (by decide) (by decide) (by decide) dX9_continueHearing_82 (fun x5 M4 => ?_)
        refine g_if_ne (tgt := 99) hC dX9_continueHearing_85 (by decide) (fun _ => ?_) (fun _ => ?_)
        · refine g_bipush hC (v := 10) dX9_continueHearing_88 (by decide) ?_
          refine g_iload hC 4 dX9_continueHearing_90 rfl ?_
          refine g_imul hC dX9_continueHearing_92 ?_
          refine g_iload hC 5 dX9_continueHearing_93 rfl ?_
          refine g_iadd hC dX9_continueHearing_95 ?_
          refine g_goto (tgt := 100) hC dX9_continueHearing_96 (by decide) ?_
          refine g_bv (fun x6 => ?_)
          refine g_istore_n hC (lv1 := [(3, .int x6), (0, .ref (zad Z 9)), (1, .int a1), (2, .int a2), (4, .int a4), (5, .int a5)]) dX9_continueHearing_100 rfl (by decide) rfl ?_
          refine g_iinc hC 5 (v := 1) (fun x7 => [(5, .int x7), (3, .int x6), (0, .ref (zad Z 9)), (1, .int a1), (2, .int a2), (4, .int a4)]) dX9_continueHearing_101 rfl (by decide) (by decide) (fun _ => rfl) (fun x7 => ?_)
          refine g_goto (tgt := 50) hC dX9_continueHearing_104 (by decide) ?_
          refine g_sub (lv1 := [(0, .ref (zad Z 9)), (1, .int a1), (2, .int a2), (3, .int x6), (4, .int a4), (5, .int x7)]) [2, 3, 4, 1, 5, 0] rfl ?_
          exact hs50 M4 a1 a2 x6 a4 x7
        · refine g_iconst hC (v := (-1)) dX9_continueHearing_99 (by decide) ?_
          refine g_istore_n hC (lv1 := [(3, .int (-1)), (0, .ref (zad Z 9)), (1, .int a1), (2, .int a2), (4, .int a4), (5, .int a5)]) dX9_continueHearing_100 rfl (by decide) rfl ?_
          refine g_iinc hC 5 (v := 1) (fun x8 => [(5, .int x8), (3, .int (-1)), (0, .ref (zad Z 9)), (1, .int a1), (2, .int a2), (4, .int a4)]) dX9_continueHearing_101 rfl (by decide) (by decide) (fun _ => rfl) (fun x8 => ?_)
          refine g_goto (tgt := 50) hC dX9_continueHearing_104 (by decide) ?_
          refine g_sub (lv1 := [(0, .ref (zad Z 9)), (1, .int a1), (2, .int a2), (3, .int (-1)), (4, .int a4), (5, .int x8)]) [2, 3, 4, 1, 5, 0] rfl ?_
          exact hs50 M4 a1 a2 (-1) a4 x8
      · refine g_iconst hC (v := (-1)) dX9_continueHearing_99 (by decide) ?_
        refine g_istore_n hC (lv1 := [(3, .int (-1)), (0, .ref (zad Z 9)), (1, .int a1), (2, .int a2), (4, .int a4), (5, .int a5)]) dX9_continueHearing_100 rfl (by decide) rfl ?_
        refine g_iinc hC 5 (v := 1) (fun x9 => [(5, .int x9), (3, .int (-1)), (0, .ref (zad Z 9)), (1, .int a1), (2, .int a2), (4, .int a4)]) dX9_continueHearing_101 rfl (by decide) (by decide) (fun _ => rfl) (fun x9 => ?_)
        refine g_goto (tgt := 50) hC dX9_continueHearing_104 (by decide) ?_
        refine g_sub (lv1 := [(0, .ref (zad Z 9)), (1, .int a1), (2, .int a2), (3, .int (-1)), (4, .int a4), (5, .int x9)]) [2, 3, 4, 1, 5, 0] rfl ?_
        exact hs50 M2 a1 a2 (-1) a4 x9
    · refine g_iinc hC 4 (v := 1) (fun x10 => [(4, .int x10), (0, .ref (zad Z 9)), (1, .int a1), (2, .int a2), (3, .int a3), (5, .int a5)]) dX9_continueHearing_107 rfl (by decide) (by decide) (fun _ => rfl) (fun x10 => ?_)
      refine g_goto (tgt := 34) hC dX9_continueHearing_110 (by decide) ?_
      refine g_sub (lv1 := [(0, .ref (zad Z 9)), (1, .int a1), (2, .int a2), (3, .int a3), (4, .int x10)]) [1, 2, 3, 4, 0] rfl ?_
      exact hs34 M a1 a2 a3 x10
set_option maxRecDepth 20000 in
set_option maxHeartbeats 4000000 in
theorem g_X9_continueHearing_l50 {p : Program} {l : Launch} {e : Env} {s : State} {m : MethodId} {args : Array Value} {below : List Frame} {meth : Method} {c : Code} {Z : gZ} (hC : gC p l s m args meth c cX9_continueHearing 6 RX9 (some .int) Z) {self34 : gM → Int32 → Int32 → Int32 → Int32 → gR} (hs34 : ∀ (M : gM) (a1 : Int32) (a2 : Int32) (a3 : Int32) (a4 : Int32) , gW p l e rm_X9_continueHearing s m args below meth c 6 Z 1 0 0 M 34 [(0, .ref (zad Z 9)), (1, .int a1), (2, .int a2), (3, .int a3), (4, .int a4)] [] (self34 M a1 a2 a3 a4)) : ∀ (n : Nat) (M : gM) (a1 : Int32) (a2 : Int32) (a3 : Int32) (a4 : Int32) (a5 : Int32), gW p l e rm_X9_continueHearing s m args below meth c 6 Z 1 0 0 M 50 [(0, .ref (zad Z 9)), (1, .int a1), (2, .int a2), (3, .int a3), (4, .int a4), (5, .int a5)] [] (f_X9_continueHearing_l50 self34 n M a1 a2 a3 a4 a5)
  | 0, _, _, _, _, _, _ => g_stuck
  | n + 1, M, a1, a2, a3, a4, a5 => g_X9_continueHearing_lb50 hC hs34 (g_X9_continueHearing_l50 hC hs34 n) M a1 a2 a3 a4 a5
set_option maxRecDepth 20000 in
set_option maxHeartbeats 4000000 in
theorem g_X9_continueHearing_b145 {p : Program} {l : Launch} {e : Env} {s : State} {m : MethodId} {args : Array Value} {below : List Frame} {meth : Method} {c : Code} {Z : gZ} (hC : gC p l s m args meth c cX9_continueHearing 6 RX9 (some .int) Z)   (M : gM) (a1 : Int32) (a3 : Int32) (t1 : Int32) : gW p l e rm_X9_continueHearing s m args below meth c 6 Z 1 0 0 M 145 [(0, .ref (zad Z 9)), (1, .int a1), (3, .int a3)] [.int t1, .ref (zad Z 9)] (f_X9_continueHearing_b145  M a1 a3 t1) := by
  unfold f_X9_continueHearing_b145
  refine g_callVi (n := 1) hC [.int t1] 9 9 (by decide) rfl rfl (fun hne => c_X9_refused hC.2.2.2.2.2.2.2.1 Z M t1 hne) lk_X9_155 mw_X9_refused.1 mw_X9_refused.2.1 mw_X9_refused.2.2.1 mw_X9_refused.2.2.2 ⟨rfl, by decide, by decide, by decide +kernel⟩ rfl rfl ⟨by decide, by decide⟩ rfl rfl (Nat.le_of_ble_eq_true rfl) (by decide) (by decide) (by decide) dX9_continueHearing_145 (fun x12 M11 => ?_)
  refine g_if_eq (tgt := 153) hC dX9_continueHearing_148 (by decide) (fun _ => ?_) (fun _ => ?_)
  · refine g_aload_n hC 0 dX9_continueHearing_153 rfl rfl ?_
    refine gf_X9_120 hC dX9_continueHearing_154 ?_
    refine g_iload_n hC 1 dX9_continueHearing_157 rfl rfl ?_
    refine g_iload_n hC 2 dX9_continueHearing_158 rfl rfl ?_
    refine g_bipush hC (v := 10) dX9_continueHearing_159 (by decide) ?_
    refine g_idiv hC dX9_continueHearing_161 ?_
    refine g_iast hC 138 (by decide) rfl dX9_continueHearing_162 (fun M13 => ?_)
    refine g_aload_n hC 0 dX9_continueHearing_163 rfl rfl ?_
    refine gf_X9_123 hC dX9_continueHearing_164 ?_
    refine g_iload_n hC 1 dX9_continueHearing_167 rfl rfl ?_
    refine g_iload_n hC 2 dX9_continueHearing_168 rfl rfl ?_
    refine g_bipush hC (v := 10) dX9_continueHearing_169 (by decide) ?_
    refine g_irem hC dX9_continueHearing_171 ?_
    refine g_iast hC 139 (by decide) rfl dX9_continueHearing_172 (fun M14 => ?_)
    refine g_iload_n hC 2 dX9_continueHearing_173 rfl rfl ?_
    exact g_iret hC rfl (by decide) dX9_continueHearing_174
  · refine g_iconst hC (v := 0) dX9_continueHearing_151 (by decide) ?_
    exact g_iret hC rfl (by decide) dX9_continueHearing_152
set_option maxRecDepth 20000 in
set_option maxHeartbeats 4000000 in
theorem g_X9_continueHearing_b140 {p : Program} {l : Launch} {e : Env} {s : State} {m : MethodId} {args : Array Value} {below : List Frame} {meth : Method} {c : Code} {Z : gZ} (hC : gC p l s m args meth c cX9_continueHearing 6 RX9 (some .int) Z)   (M : gM) (a1 : Int32) (a3 : Int32)  : gW p l e rm_X9_continueHearing s m args below meth c 6 Z 1 0 0 M 140 [(0, .ref (zad Z 9)), (1, .int a1), (3, .int a3)] [.ref (zad Z 9)] (f_X9_continueHearing_b140  M a1 a3 ) := by
  unfold f_X9_continueHearing_b140
  refine g_iconst hC (v := 2) dX9_continueHearing_140 (by decide) ?_
  refine g_goto (tgt := 145) hC dX9_continueHearing_141 (by decide) ?_
  exact g_X9_continueHearing_b145 hC  M a1 a3 2
set_option maxRecDepth 20000 in
set_option maxHeartbeats 4000000 in
theorem g_X9_continueHearing_b113 {p : Program} {l : Launch} {e : Env} {s : State} {m : MethodId} {args : Array Value} {below : List Frame} {meth : Method} {c : Code} {Z : gZ} (hC : gC p l s m args meth c cX9_continueHearing 6 RX9 (some .int) Z)   (M : gM) (a1 : Int32) (a2 : Int32) (a3 : Int32)  : gW p l e rm_X9_continueHearing s m args below meth c 6 Z 1 0 0 M 113 [(0, .ref (zad Z 9)), (1, .int a1), (2, .int a2), (3, .int a3)] [] (f_X9_continueHearing_b113  M a1 a2 a3 ) := by
  unfold f_X9_continueHearing_b113
  refine g_aload_n hC 0 dX9_continueHearing_113 rfl rfl ?_
  refine g_iload_n hC 2 dX9_continueHearing_114 rfl rfl ?_
  refine g_if_ne (tgt := 122) hC dX9_continueHearing_115 (by decide) (fun _ => ?_) (fun _ => ?_)
  · refine g_iconst hC (v := 1) dX9_continueHearing_118 (by decide) ?_
    refine g_goto (tgt := 145) hC dX9_continueHearing_119 (by decide) ?_
    refine g_sub (lv1 := [(0, .ref (zad Z 9)), (1, .int a1), (3, .int a3)]) [0, 1, 3] rfl ?_
    exact g_X9_continueHearing_b145 hC  M a1 a3 1
  · refine g_aload_n hC 0 dX9_continueHearing_122 rfl rfl ?_
    refine gf_X9_120 hC dX9_continueHearing_123 ?_
    refine g_iload_n hC 1 dX9_continueHearing_126 rfl rfl ?_
    refine g_iald hC 138 (by decide) rfl dX9_continueHearing_127 ?_
    refine g_aload_n hC 0 dX9_continueHearing_128 rfl rfl ?_
    refine gf_X9_152 hC dX9_continueHearing_129 ?_
    refine g_icmp_le (tgt := 140) hC dX9_continueHearing_132 (by decide) (fun _ => ?_) (fun _ => ?_)
    · refine g_sub (lv1 := [(0, .ref (zad Z 9)), (1, .int a1), (3, .int a3)]) [0, 1, 3] rfl ?_
      exact g_X9_continueHearing_b140 hC  M a1 a3 
    · refine g_iload_n hC 3 dX9_continueHearing_135 rfl rfl ?_
      refine g_iconst hC (v := (-1)) dX9_continueHearing_136 (by decide) ?_
      refine g_icmp_ne (tgt := 144) hC dX9_continueHearing_137 (by decide) (fun _ => ?_) (fun _ => ?_)
      · refine g_sub (lv1 := [(0, .ref (zad Z 9)), (1, .int a1), (3, .int a3)]) [0, 1, 3] rfl ?_
        exact g_X9_continueHearing_b140 hC  M a1 a3 
      · refine g_iconst hC (v := 0) dX9_continueHearing_144 (by decide) ?_
        refine g_sub (lv1 := [(0, .ref (zad Z 9)), (1, .int a1), (3, .int a3)]) [0, 1, 3] rfl ?_
        exact g_X9_continueHearing_b145 hC  M a1 a3 0
set_option maxRecDepth 20000 in
set_option maxHeartbeats 4000000 in
theorem g_X9_continueHearing_lb34 {p : Program} {l : Launch} {e : Env} {s : State} {m : MethodId} {args : Array Value} {below : List Frame} {meth : Method} {c : Code} {Z : gZ} (hC : gC p l s m args meth c cX9_continueHearing 6 RX9 (some .int) Z)  {self34 : gM → Int32 → Int32 → Int32 → Int32 → gR}  (hs34 : ∀ (M : gM) (a1 : Int32) (a2 : Int32) (a3 : Int32) (a4 : Int32) , gW p l e rm_X9_continueHearing s m args below meth c 6 Z 1 0 0 M 34 [(0, .ref (zad Z 9)), (1, .int a1), (2, .int a2), (3, .int a3), (4, .int a4)] [] (self34 M a1 a2 a3 a4)) (M : gM) (a1 : Int32) (a2 : Int32) (a3 : Int32) (a4 : Int32) : gW p l e rm_X9_continueHearing s m args below meth c 6 Z 1 0 0 M 34 [(0, .ref (zad Z 9)), (1, .int a1), (2, .int a2), (3, .int a3), (4, .int a4)] [] (f_X9_continueHearing_lb34  self34 M a1 a2 a3 a4) := by
  unfold f_X9_continueHearing_lb34
  refine g_iload hC 4 dX9_continueHearing_34 rfl ?_
  refine g_sipush hC (v := 1000) dX9_continueHearing_36 (by decide) ?_
  refine g_icmp_gt (tgt := 113) hC dX9_continueHearing_39 (by decide) (fun _ => ?_) (fun _ => ?_)
  · refine g_sub (lv1 := [(0, .ref (zad Z 9)), (1, .int a1), (2, .int a2), (3, .int a3)]) [0, 1, 2, 3] rfl ?_
    exact g_X9_continueHearing_b113 hC  M a1 a2 a3 
  · refine g_iload_n hC 3 dX9_continueHearing_42 rfl rfl ?_
    refine g_iconst hC (v := (-1)) dX9_continueHearing_43 (by decide) ?_
    refine g_icmp_ne (tgt := 113) hC dX9_continueHearing_44 (by decide) (fun _ => ?_) (fun _ => ?_)
    · refine g_iconst hC (v := 0) dX9_continueHearing_47 (by decide) ?_
      refine g_istore hC (lv1 := [(5, .int 0), (0, .ref (zad Z 9)), (1, .int a1), (2, .int a2), (3, .int a3), (4, .int a4)]) dX9_continueHearing_48 (by decide) rfl ?_
      refine g_sub (lv1 := [(0, .ref (zad Z 9)), (1, .int a1), (2, .int a2), (3, .int a3), (4, .int a4), (5, .int 0)]) [1, 2, 3, 4, 5, 0] rfl ?_
      exact g_X9_continueHearing_l50 hC hs34 5000 M a1 a2 a3 a4 0
    · refine g_sub (lv1 := [(0, .ref (zad Z 9)), (1, .int a1), (2, .int a2), (3, .int a3)]) [0, 1, 2, 3] rfl ?_
      exact g_X9_continueHearing_b113 hC  M a1 a2 a3 
set_option maxRecDepth 20000 in
set_option maxHeartbeats 4000000 in
theorem g_X9_continueHearing_l34 {p : Program} {l : Launch} {e : Env} {s : State} {m : MethodId} {args : Array Value} {below : List Frame} {meth : Method} {c : Code} {Z : gZ} (hC : gC p l s m args meth c cX9_continueHearing 6 RX9 (some .int) Z)   : ∀ (n : Nat) (M : gM) (a1 : Int32) (a2 : Int32) (a3 : Int32) (a4 : Int32), gW p l e rm_X9_continueHearing s m args below meth c 6 Z 1 0 0 M 34 [(0, .ref (zad Z 9)), (1, .int a1), (2, .int a2), (3, .int a3), (4, .int a4)] [] (f_X9_continueHearing_l34  n M a1 a2 a3 a4)
  | 0, _, _, _, _, _ => g_stuck
  | n + 1, M, a1, a2, a3, a4 => g_X9_continueHearing_lb34 hC  (g_X9_continueHearing_l34 hC  n) M a1 a2 a3 a4
set_option maxRecDepth 20000 in
set_option maxHeartbeats 4000000 in
theorem g_X9_continueHearing_b32 {p : Program} {l : Launch} {e : Env} {s : State} {m : MethodId} {args : Array Value} {below : List Frame} {meth : Method} {c : Code} {Z : gZ} (hC : gC p l s m args meth c cX9_continueHearing 6 RX9 (some .int) Z)   (M : gM) (a1 : Int32) (a2 : Int32) (a3 : Int32) (t0 : Int32) : gW p l e rm_X9_continueHearing s m args below meth c 6 Z 1 0 0 M 32 [(0, .ref (zad Z 9)), (1, .int a1), (2, .int a2), (3, .int a3)] [.int t0] (f_X9_continueHearing_b32  M a1 a2 a3 t0) := by
  unfold f_X9_continueHearing_b32
  refine g_istore hC (lv1 := [(4, .int t0), (0, .ref (zad Z 9)), (1, .int a1), (2, .int a2), (3, .int a3)]) dX9_continueHearing_32 (by decide) rfl ?_
  refine g_sub (lv1 := [(0, .ref (zad Z 9)), (1, .int a1), (2, .int a2), (3, .int a3), (4, .int t0)]) [1, 2, 3, 4, 0] rfl ?_
  exact g_X9_continueHearing_l34 hC  5000 M a1 a2 a3 t0
set_option maxRecDepth 20000 in
set_option maxHeartbeats 4000000 in
theorem c_X9_continueHearing {l : Launch} (hfl : l.stackTraces = false) (Z : gZ) (M : gM) (a1 : Int32) : gMet l yX9_continueHearing cX9_continueHearing 6 (some .int) rm_X9_continueHearing 1 0 Z M [.ref (zad Z 9), .int a1] (f_X9_continueHearing M a1) := by
  refine g_enter hfl (by decide) (Nat.le_of_ble_eq_true rfl) (fun p e s m args below meth c hC => ?_)
  refine g_eq (F := f_X9_continueHearing M a1) rfl ?_
  refine g_lv0 (lv1 := [(0, .ref (zad Z 9)), (1, .int a1)]) rfl ?_
  unfold f_X9_continueHearing
  refine g_iload_n hC 1 dX9_continueHearing_0 rfl rfl ?_
  refine g_iconst hC (v := 0) dX9_continueHearing_1 (by decide) ?_
  refine g_aload_n hC 0 dX9_continueHearing_2 rfl rfl ?_
  refine gf_X9_281 hC dX9_continueHearing_3 ?_
  refine g_iconst hC (v := 1) dX9_continueHearing_6 (by decide) ?_
  refine g_isub hC dX9_continueHearing_7 ?_
  refine g_callSi (n := 3) hC [.int a1, .int 0, .int ((M 9 41) - 1)] (fun hne => c_X9_within hC.2.2.2.2.2.2.2.1 Z M a1 0 ((M 9 41) - 1) hne) lk_X9_148 mw_X9_within.1 mw_X9_within.2.1 mw_X9_within.2.2 ⟨by decide, by decide, by decide +kernel⟩ rfl rfl ⟨by decide, by decide⟩ rfl rfl (Nat.le_of_ble_eq_true rfl) (by decide) (by decide) (by decide) dX9_continueHearing_8 (fun x16 M15 => ?_)
  refine g_istore_n hC (lv1 := [(2, .int x16), (0, .ref (zad Z 9)), (1, .int a1)]) dX9_continueHearing_11 rfl (by decide) rfl ?_
  refine g_iconst hC (v := (-1)) dX9_continueHearing_12 (by decide) ?_
  refine g_istore_n hC (lv1 := [(3, .int (-1)), (2, .int x16), (0, .ref (zad Z 9)), (1, .int a1)]) dX9_continueHearing_13 rfl (by decide) rfl ?_
  refine g_iload_n hC 1 dX9_continueHearing_14 rfl rfl ?_
  refine g_if_eq (tgt := 29) hC dX9_continueHearing_15 (by decide) (fun _ => ?_) (fun _ => ?_)
  · refine g_sipush hC (v := 1001) dX9_continueHearing_29 (by decide) ?_
    refine g_sub (lv1 := [(0, .ref (zad Z 9)), (1, .int a1), (2, .int x16), (3, .int (-1))]) [2, 3, 1, 0] rfl ?_
    exact g_X9_continueHearing_b32 hC  M15 a1 x16 (-1) 1001
  · refine g_aload_n hC 2 dX9_continueHearing_18 rfl rfl ?_
    refine gf_X9_120 hC dX9_continueHearing_19 ?_
    refine g_iload_n hC 3 dX9_continueHearing_22 rfl rfl ?_
    refine g_iald hC 138 (by decide) rfl dX9_continueHearing_23 ?_
    refine g_iconst hC (v := 1) dX9_continueHearing_24 (by decide) ?_
    refine g_iadd hC dX9_continueHearing_25 ?_
    refine g_goto (tgt := 32) hC dX9_continueHearing_26 (by decide) ?_
    refine g_sub (lv1 := [(0, .ref (zad Z 9)), (1, .int a1), (2, .int x16), (3, .int (-1))]) [2, 3, 1, 0] rfl ?_
    exact g_X9_continueHearing_b32 hC  M15 a1 x16 (-1) ((M15 138 a1.toNatClampNeg) + 1)

-- ===== X9_hearingAt =====
def f_X9_hearingAt_b20  (M : gM) (a1 : Int32) (t1 : Int32) : gR := (rb (f_X9_refused M t1) (fun x2 M1 => (if x2 = 0 then (gI a1 40 (gI a1 40 (rRet ((10 * (M1 138 a1.toNatClampNeg)) + (M1 139 a1.toNatClampNeg)) M1))) else (rRet 0 M1))))
def f_X9_hearingAt (M : gM) (a1 : Int32) : gR := (rb (f_X9_within M a1 0 ((M 9 41) - 1)) (fun x4 M3 => (if x4 = 0 then (f_X9_hearingAt_b20  M3 a1 1) else (f_X9_hearingAt_b20  M3 a1 0))))
abbrev rm_X9_hearingAt : Room := { frames := 1, cells := 0, slots := 0, locals := 22 }
set_option maxRecDepth 20000 in
set_option maxHeartbeats 4000000 in
theorem g_X9_hearingAt_b20 {p : Program} {l : Launch} {e : Env} {s : State} {m : MethodId} {args : Array Value} {below : List Frame} {meth : Method} {c : Code} {Z : gZ} (hC : gC p l s m args meth c cX9_hearingAt 2 RX9 (some .int) Z)   (M : gM) (a1 : Int32) (t1 : Int32) : gW p l e rm_X9_hearingAt s m args below meth c 2 Z 1 0 0 M 20 [(0, .ref (zad Z 9)), (1, .int a1)] [.int t1, .ref (zad Z 9)] (f_X9_hearingAt_b20  M a1 t1) := by
  unfold f_X9_hearingAt_b20
  refine g_callVi (n := 1) hC [.int t1] 9 9 (by decide) rfl rfl (fun hne => c_X9_refused hC.2.2.2.2.2.2.2.1 Z M t1 hne) lk_X9_155 mw_X9_refused.1 mw_X9_refused.2.1 mw_X9_refused.2.2.1 mw_X9_refused.2.2.2 ⟨rfl, by decide, by decide, by decide +kernel⟩ rfl rfl ⟨by decide, by decide⟩ rfl rfl (Nat.le_of_ble_eq_true rfl) (by decide) (by decide) (by decide) dX9_hearingAt_20 (fun x2 M1 => ?_)
  refine g_if_eq (tgt := 30) hC dX9_hearingAt_23 (by decide) (fun _ => ?_) (fun _ => ?_)
  · refine g_bipush hC (v := 10) dX9_hearingAt_30 (by decide) ?_
    refine g_aload_n hC 0 dX9_hearingAt_32 rfl rfl ?_
    refine gf_X9_120 hC dX9_hearingAt_33 ?_
    refine g_iload_n hC 1 dX9_hearingAt_36 rfl rfl ?_
    refine g_iald hC 138 (by decide) rfl dX9_hearingAt_37 ?_
    refine g_imul hC dX9_hearingAt_38 ?_
    refine g_aload_n hC 0 dX9_hearingAt_39 rfl rfl ?_
    refine gf_X9_123 hC dX9_hearingAt_40 ?_
    refine g_iload_n hC 1 dX9_hearingAt_43 rfl rfl ?_
    refine g_iald hC 139 (by decide) rfl dX9_hearingAt_44 ?_
    refine g_iadd hC dX9_hearingAt_45 ?_
    exact g_iret hC rfl (by decide) dX9_hearingAt_46
  · refine g_iconst hC (v := 0) dX9_hearingAt_26 (by decide) ?_
    refine g_goto (tgt := 46) hC dX9_hearingAt_27 (by decide) ?_
    exact g_iret hC rfl (by decide) dX9_hearingAt_46
set_option maxRecDepth 20000 in
set_option maxHeartbeats 4000000 in
theorem c_X9_hearingAt {l : Launch} (hfl : l.stackTraces = false) (Z : gZ) (M : gM) (a1 : Int32) : gMet l yX9_hearingAt cX9_hearingAt 2 (some .int) rm_X9_hearingAt 1 0 Z M [.ref (zad Z 9), .int a1] (f_X9_hearingAt M a1) := by
  refine g_enter hfl (by decide) (Nat.le_of_ble_eq_true rfl) (fun p e s m args below meth c hC => ?_)
  refine g_eq (F := f_X9_hearingAt M a1) rfl ?_
  refine g_lv0 (lv1 := [(0, .ref (zad Z 9)), (1, .int a1)]) rfl ?_
  unfold f_X9_hearingAt
  refine g_aload_n hC 0 dX9_hearingAt_0 rfl rfl ?_
  refine g_iload_n hC 1 dX9_hearingAt_1 rfl rfl ?_
  refine g_iconst hC (v := 0) dX9_hearingAt_2 (by decide) ?_
  refine g_aload_n hC 0 dX9_hearingAt_3 rfl rfl ?_
  refine gf_X9_281 hC dX9_hearingAt_4 ?_
  refine g_iconst hC (v := 1) dX9_hearingAt_7 (by decide) ?_
  refine g_isub hC dX9_hearingAt_8 ?_
  refine g_callSi (n := 3) hC [.int a1, .int 0, .int ((M 9 41) - 1)] (fun hne => c_X9_within hC.2.2.2.2.2.2.2.1 Z M a1 0 ((M 9 41) - 1) hne) lk_X9_148 mw_X9_within.1 mw_X9_within.2.1 mw_X9_within.2.2 ⟨by decide, by decide, by decide +kernel⟩ rfl rfl ⟨by decide, by decide⟩ rfl rfl (Nat.le_of_ble_eq_true rfl) (by decide) (by decide) (by decide) dX9_hearingAt_9 (fun x4 M3 => ?_)
  refine g_if_eq (tgt := 19) hC dX9_hearingAt_12 (by decide) (fun _ => ?_) (fun _ => ?_)
  · refine g_iconst hC (v := 1) dX9_hearingAt_19 (by decide) ?_
    exact g_X9_hearingAt_b20 hC  M3 a1 1
  · refine g_iconst hC (v := 0) dX9_hearingAt_15 (by decide) ?_
    refine g_goto (tgt := 20) hC dX9_hearingAt_16 (by decide) ?_
    exact g_X9_hearingAt_b20 hC  M3 a1 0

-- ===== X9_strike =====
def f_X9_strike_b178  (M : gM) (a1 : Int32)  : gR := (gI a1 8 (rRet (M 140 a1.toNatClampNeg) M))
def f_X9_strike_lb133  (self133 : gM → Int32 → Int32 → Int32 → gR) (M : gM) (a1 : Int32) (a5 : Int32) (a6 : Int32) : gR := (if 14 ≤ a6 then (f_X9_strike_b178  M a1 ) else (gI ((14 * a1) + a6) 112 (if (M 141 ((14 * a1) + a6).toNatClampNeg) = 0 then (gI ((8 * a1) + a5) 64 (bM (gset M 142 ((8 * a1) + a5).toNatClampNeg a6) (fun M1 => (bV (a5 + 1) (fun x2 => (bV (a6 + 1) (fun x3 => (self133 M1 a1 x2 x3)))))))) else (bV (a6 + 1) (fun x4 => (self133 M a1 a5 x4))))))
def f_X9_strike_l133  : Nat → gM → Int32 → Int32 → Int32 → gR
  | 0, _, _, _, _ => rStuck
  | n + 1, M, a1, a5, a6 => f_X9_strike_lb133  (f_X9_strike_l133  n) M a1 a5 a6
def f_X9_strike_b86  (M : gM) (a1 : Int32) (a3 : Int32) (t1 : Int32) : gR := (rb (f_X9_refused M t1) (fun x6 M5 => (if x6 = 0 then (gZ01 1 (gI ((14 * a1) + a3) 112 (bM (gset M5 141 ((14 * a1) + a3).toNatClampNeg 1) (fun M7 => (gI a1 8 (gI a1 8 (bM (gset M7 140 a1.toNatClampNeg ((M7 140 a1.toNatClampNeg) + 1)) (fun M8 => (gI a1 8 (if (M8 140 a1.toNatClampNeg) = 6 then (f_X9_strike_l133  5000 M8 a1 0 0) else (f_X9_strike_b178  M8 a1 ))))))))))) else (rRet 0 M5))))
def f_X9_strike_b81  (M : gM) (a1 : Int32) (a3 : Int32)  : gR := (f_X9_strike_b86  M a1 a3 2)
def f_X9_strike_b32  (M : gM) (a1 : Int32) (a2 : Int32) (a3 : Int32) (t0 : Int32) : gR := (if t0 = 0 then (f_X9_strike_b86  M a1 a3 1) else (gI a1 8 (if (M 140 a1.toNatClampNeg) = 6 then (f_X9_strike_b81  M a1 a3 ) else (gI a1 8 (gNz 2 (if ((M 140 a1.toNatClampNeg) - (M 140 a1.toNatClampNeg) / 2 * 2) = a2 then (gI ((14 * a1) + a3) 112 (if (M 141 ((14 * a1) + a3).toNatClampNeg) = 0 then (f_X9_strike_b86  M a1 a3 0) else (f_X9_strike_b81  M a1 a3 ))) else (f_X9_strike_b81  M a1 a3 )))))))
def f_X9_strike_b31  (M : gM) (a1 : Int32) (a2 : Int32) (a3 : Int32)  : gR := (f_X9_strike_b32  M a1 a2 a3 0)
def f_X9_strike (M : gM) (a1 : Int32) (a2 : Int32) (a3 : Int32) : gR := (rb (f_X9_isCase M a1) (fun x10 M9 => (if x10 = 0 then (f_X9_strike_b31  M9 a1 a2 a3 ) else (rb (f_X9_within M9 a2 0 1) (fun x12 M11 => (if x12 = 0 then (f_X9_strike_b31  M11 a1 a2 a3 ) else (rb (f_X9_within M11 a3 0 13) (fun x14 M13 => (if x14 = 0 then (f_X9_strike_b31  M13 a1 a2 a3 ) else (f_X9_strike_b32  M13 a1 a2 a3 1))))))))))
abbrev rm_X9_strike : Room := { frames := 2, cells := 0, slots := 0, locals := 43 }
set_option maxRecDepth 20000 in
set_option maxHeartbeats 4000000 in
theorem g_X9_strike_b178 {p : Program} {l : Launch} {e : Env} {s : State} {m : MethodId} {args : Array Value} {below : List Frame} {meth : Method} {c : Code} {Z : gZ} (hC : gC p l s m args meth c cX9_strike 7 RX9 (some .int) Z)   (M : gM) (a1 : Int32)  : gW p l e rm_X9_strike s m args below meth c 7 Z 1 0 0 M 178 [(0, .ref (zad Z 9)), (1, .int a1)] [] (f_X9_strike_b178  M a1 ) := by
  unfold f_X9_strike_b178
  refine g_aload_n hC 0 dX9_strike_178 rfl rfl ?_
  refine gf_X9_126 hC dX9_strike_179 ?_
  refine g_iload_n hC 1 dX9_strike_182 rfl rfl ?_
  refine g_iald hC 140 (by decide) rfl dX9_strike_183 ?_
  exact g_iret hC rfl (by decide) dX9_strike_184
set_option maxRecDepth 20000 in
set_option maxHeartbeats 4000000 in
theorem g_X9_strike_lb133 {p : Program} {l : Launch} {e : Env} {s : State} {m : MethodId} {args : Array Value} {below : List Frame} {meth : Method} {c : Code} {Z : gZ} (hC : gC p l s m args meth c cX9_strike 7 RX9 (some .int) Z)  {self133 : gM → Int32 → Int32 → Int32 → gR}  (hs133 : ∀ (M : gM) (a1 : Int32) (a5 : Int32) (a6 : Int32) , gW p l e rm_X9_strike s m args below meth c 7 Z 1 0 0 M 133 [(0, .ref (zad Z 9)), (1, .int a1), (5, .int a5), (6, .int a6)] [] (self133 M a1 a5 a6)) (M : gM) (a1 : Int32) (a5 : Int32) (a6 : Int32) : gW p l e rm_X9_strike s m args below meth c 7 Z 1 0 0 M 133 [(0, .ref (zad Z 9)), (1, .int a1), (5, .int a5), (6, .int a6)] [] (f_X9_strike_lb133  self133 M a1 a5 a6) := by
  unfold f_X9_strike_lb133
  refine g_iload hC 3 dX9_strike_133 rfl ?_
  refine g_bipush hC (v := 14) dX9_strike_135 (by decide) ?_
  refine g_icmp_ge (tgt := 178) hC dX9_strike_137 (by decide) (fun _ => ?_) (fun _ => ?_)
  · refine g_sub (lv1 := [(0, .ref (zad Z 9)), (1, .int a1)]) [0, 1] rfl ?_
    exact g_X9_strike_b178 hC  M a1 
  · refine g_aload_n hC 0 dX9_strike_140 rfl rfl ?_
    refine gf_X9_129 hC dX9_strike_141 ?_
    refine g_bipush hC (v := 14) dX9_strike_144 (by decide) ?_
    refine g_iload_n hC 1 dX9_strike_146 rfl rfl ?_
    refine g_imul hC dX9_strike_147 ?_
    refine g_iload hC 3 dX9_strike_148 rfl ?_
    refine g_iadd hC dX9_strike_150 ?_
    refine g_zald hC 141 (by decide) rfl dX9_strike_151 ?_
    refine g_if_ne (tgt := 172) hC dX9_strike_152 (by decide) (fun _ => ?_) (fun _ => ?_)
    · refine g_aload_n hC 0 dX9_strike_155 rfl rfl ?_
      refine gf_X9_132 hC dX9_strike_156 ?_
      refine g_bipush hC (v := 8) dX9_strike_159 (by decide) ?_
      refine g_iload_n hC 1 dX9_strike_161 rfl rfl ?_
      refine g_imul hC dX9_strike_162 ?_
      refine g_iload hC 2 dX9_strike_163 rfl ?_
      refine g_iadd hC dX9_strike_165 ?_
      refine g_iload hC 3 dX9_strike_166 rfl ?_
      refine g_iast hC 142 (by decide) rfl dX9_strike_168 (fun M1 => ?_)
      refine g_iinc hC 2 (v := 1) (fun x2 => [(5, .int x2), (0, .ref (zad Z 9)), (1, .int a1), (6, .int a6)]) dX9_strike_169 rfl (by decide) (by decide) (fun _ => rfl) (fun x2 => ?_)
      refine g_iinc hC 3 (v := 1) (fun x3 => [(6, .int x3), (5, .int x2), (0, .ref (zad Z 9)), (1, .int a1)]) dX9_strike_172 rfl (by decide) (by decide) (fun _ => rfl) (fun x3 => ?_)
      refine g_goto (tgt := 133) hC dX9_strike_175 (by decide) ?_
      refine g_sub (lv1 := [(0, .ref (zad Z 9)), (1, .int a1), (5, .int x2), (6, .int x3)]) [2, 3, 1, 0] rfl ?_
      exact hs133 M1 a1 x2 x3
    · refine g_iinc hC 3 (v := 1) (fun x4 => [(6, .int x4), (0, .ref (zad Z 9)), (1, .int a1), (5, .int a5)]) dX9_strike_172 rfl (by decide) (by decide) (fun _ => rfl) (fun x4 => ?_)
      refine g_goto (tgt := 133) hC dX9_strike_175 (by decide) ?_
      refine g_sub (lv1 := [(0, .ref (zad Z 9)), (1, .int a1), (5, .int a5), (6, .int x4)]) [1, 2, 3, 0] rfl ?_
      exact hs133 M a1 a5 x4
set_option maxRecDepth 20000 in
set_option maxHeartbeats 4000000 in
theorem g_X9_strike_l133 {p : Program} {l : Launch} {e : Env} {s : State} {m : MethodId} {args : Array Value} {below : List Frame} {meth : Method} {c : Code} {Z : gZ} (hC : gC p l s m args meth c cX9_strike 7 RX9 (some .int) Z)   : ∀ (n : Nat) (M : gM) (a1 : Int32) (a5 : Int32) (a6 : Int32), gW p l e rm_X9_strike s m args below meth c 7 Z 1 0 0 M 133 [(0, .ref (zad Z 9)), (1, .int a1), (5, .int a5), (6, .int a6)] [] (f_X9_strike_l133  n M a1 a5 a6)
  | 0, _, _, _, _ => g_stuck
  | n + 1, M, a1, a5, a6 => g_X9_strike_lb133 hC  (g_X9_strike_l133 hC  n) M a1 a5 a6
set_option maxRecDepth 20000 in
set_option maxHeartbeats 4000000 in
theorem g_X9_strike_b86 {p : Program} {l : Launch} {e : Env} {s : State} {m : MethodId} {args : Array Value} {below : List Frame} {meth : Method} {c : Code} {Z : gZ} (hC : gC p l s m args meth c cX9_strike 7 RX9 (some .int) Z)   (M : gM) (a1 : Int32) (a3 : Int32) (t1 : Int32) : gW p l e rm_X9_strike s m args below meth c 7 Z 1 0 0 M 86 [(0, .ref (zad Z 9)), (1, .int a1), (3, .int a3)] [.int t1, .ref (zad Z 9)] (f_X9_strike_b86  M a1 a3 t1) := by
  unfold f_X9_strike_b86
  refine g_callVi (n := 1) hC [.int t1] 9 9 (by decide) rfl rfl (fun hne => c_X9_refused hC.2.2.2.2.2.2.2.1 Z M t1 hne) lk_X9_155 mw_X9_refused.1 mw_X9_refused.2.1 mw_X9_refused.2.2.1 mw_X9_refused.2.2.2 ⟨rfl, by decide, by decide, by decide +kernel⟩ rfl rfl ⟨by decide, by decide⟩ rfl rfl (Nat.le_of_ble_eq_true rfl) (by decide) (by decide) (by decide) dX9_strike_86 (fun x6 M5 => ?_)
  refine g_if_eq (tgt := 94) hC dX9_strike_89 (by decide) (fun _ => ?_) (fun _ => ?_)
  · refine g_aload_n hC 0 dX9_strike_94 rfl rfl ?_
    refine gf_X9_129 hC dX9_strike_95 ?_
    refine g_bipush hC (v := 14) dX9_strike_98 (by decide) ?_
    refine g_iload_n hC 1 dX9_strike_100 rfl rfl ?_
    refine g_imul hC dX9_strike_101 ?_
    refine g_iload_n hC 2 dX9_strike_102 rfl rfl ?_
    refine g_iadd hC dX9_strike_103 ?_
    refine g_iconst hC (v := 1) dX9_strike_104 (by decide) ?_
    refine g_zast hC 141 (by decide) rfl dX9_strike_105 (fun M7 => ?_)
    refine g_aload_n hC 0 dX9_strike_106 rfl rfl ?_
    refine gf_X9_126 hC dX9_strike_107 ?_
    refine g_iload_n hC 1 dX9_strike_110 rfl rfl ?_
    refine g_dup2 hC dX9_strike_111 rfl rfl ?_
    refine g_iald hC 140 (by decide) rfl dX9_strike_112 ?_
    refine g_iconst hC (v := 1) dX9_strike_113 (by decide) ?_
    refine g_iadd hC dX9_strike_114 ?_
    refine g_iast hC 140 (by decide) rfl dX9_strike_115 (fun M8 => ?_)
    refine g_aload_n hC 0 dX9_strike_116 rfl rfl ?_
    refine gf_X9_126 hC dX9_strike_117 ?_
    refine g_iload_n hC 1 dX9_strike_120 rfl rfl ?_
    refine g_iald hC 140 (by decide) rfl dX9_strike_121 ?_
    refine g_bipush hC (v := 6) dX9_strike_122 (by decide) ?_
    refine g_icmp_ne (tgt := 178) hC dX9_strike_124 (by decide) (fun _ => ?_) (fun _ => ?_)
    · refine g_iconst hC (v := 0) dX9_strike_127 (by decide) ?_
      refine g_istore hC (lv1 := [(5, .int 0), (0, .ref (zad Z 9)), (1, .int a1), (3, .int a3)]) dX9_strike_128 (by decide) rfl ?_
      refine g_iconst hC (v := 0) dX9_strike_130 (by decide) ?_
      refine g_istore hC (lv1 := [(6, .int 0), (5, .int 0), (0, .ref (zad Z 9)), (1, .int a1), (3, .int a3)]) dX9_strike_131 (by decide) rfl ?_
      refine g_sub (lv1 := [(0, .ref (zad Z 9)), (1, .int a1), (5, .int 0), (6, .int 0)]) [2, 3, 1, 0] rfl ?_
      exact g_X9_strike_l133 hC  5000 M8 a1 0 0
    · refine g_sub (lv1 := [(0, .ref (zad Z 9)), (1, .int a1)]) [0, 1] rfl ?_
      exact g_X9_strike_b178 hC  M8 a1 
  · refine g_iconst hC (v := 0) dX9_strike_92 (by decide) ?_
    exact g_iret hC rfl (by decide) dX9_strike_93
set_option maxRecDepth 20000 in
set_option maxHeartbeats 4000000 in
theorem g_X9_strike_b81 {p : Program} {l : Launch} {e : Env} {s : State} {m : MethodId} {args : Array Value} {below : List Frame} {meth : Method} {c : Code} {Z : gZ} (hC : gC p l s m args meth c cX9_strike 7 RX9 (some .int) Z)   (M : gM) (a1 : Int32) (a3 : Int32)  : gW p l e rm_X9_strike s m args below meth c 7 Z 1 0 0 M 81 [(0, .ref (zad Z 9)), (1, .int a1), (3, .int a3)] [.ref (zad Z 9)] (f_X9_strike_b81  M a1 a3 ) := by
  unfold f_X9_strike_b81
  refine g_iconst hC (v := 2) dX9_strike_81 (by decide) ?_
  refine g_goto (tgt := 86) hC dX9_strike_82 (by decide) ?_
  exact g_X9_strike_b86 hC  M a1 a3 2
set_option maxRecDepth 20000 in
set_option maxHeartbeats 4000000 in
theorem g_X9_strike_b32 {p : Program} {l : Launch} {e : Env} {s : State} {m : MethodId} {args : Array Value} {below : List Frame} {meth : Method} {c : Code} {Z : gZ} (hC : gC p l s m args meth c cX9_strike 7 RX9 (some .int) Z)   (M : gM) (a1 : Int32) (a2 : Int32) (a3 : Int32) (t0 : Int32) : gW p l e rm_X9_strike s m args below meth c 7 Z 1 0 0 M 32 [(0, .ref (zad Z 9)), (1, .int a1), (2, .int a2), (3, .int a3)] [.int t0] (f_X9_strike_b32  M a1 a2 a3 t0) := by
  unfold f_X9_strike_b32
  refine g_istore hC (lv1 := [(4, .int t0), (0, .ref (zad Z 9)), (1, .int a1), (2, .int a2), (3, .int a3)]) dX9_strike_32 (by decide) rfl ?_
  refine g_aload_n hC 1 dX9_strike_34 rfl rfl ?_
  refine g_iload hC 0 dX9_strike_35 rfl ?_
  refine g_if_ne (tgt := 44) hC dX9_strike_37 (by decide) (fun _ => ?_) (fun _ => ?_)
  · refine g_iconst hC (v := 1) dX9_strike_40 (by decide) ?_
    refine g_goto (tgt := 86) hC dX9_strike_41 (by decide) ?_
    refine g_sub (lv1 := [(0, .ref (zad Z 9)), (1, .int a1), (3, .int a3)]) [1, 2, 4] rfl ?_
    exact g_X9_strike_b86 hC  M a1 a3 1
  · refine g_aload_n hC 1 dX9_strike_44 rfl rfl ?_
    refine gf_X9_126 hC dX9_strike_45 ?_
    refine g_iload_n hC 2 dX9_strike_48 rfl rfl ?_
    refine g_iald hC 140 (by decide) rfl dX9_strike_49 ?_
    refine g_bipush hC (v := 6) dX9_strike_50 (by decide) ?_
    refine g_icmp_eq (tgt := 81) hC dX9_strike_52 (by decide) (fun _ => ?_) (fun _ => ?_)
    · refine g_sub (lv1 := [(0, .ref (zad Z 9)), (1, .int a1), (3, .int a3)]) [1, 2, 4] rfl ?_
      exact g_X9_strike_b81 hC  M a1 a3 
    · refine g_aload_n hC 1 dX9_strike_55 rfl rfl ?_
      refine gf_X9_126 hC dX9_strike_56 ?_
      refine g_iload_n hC 2 dX9_strike_59 rfl rfl ?_
      refine g_iald hC 140 (by decide) rfl dX9_strike_60 ?_
      refine g_iconst hC (v := 2) dX9_strike_61 (by decide) ?_
      refine g_irem hC dX9_strike_62 ?_
      refine g_iload_n hC 3 dX9_strike_63 rfl rfl ?_
      refine g_icmp_ne (tgt := 81) hC dX9_strike_64 (by decide) (fun _ => ?_) (fun _ => ?_)
      · refine g_aload_n hC 1 dX9_strike_67 rfl rfl ?_
        refine gf_X9_129 hC dX9_strike_68 ?_
        refine g_bipush hC (v := 14) dX9_strike_71 (by decide) ?_
        refine g_iload_n hC 2 dX9_strike_73 rfl rfl ?_
        refine g_imul hC dX9_strike_74 ?_
        refine g_iload_n hC 4 dX9_strike_75 rfl rfl ?_
        refine g_iadd hC dX9_strike_76 ?_
        refine g_zald hC 141 (by decide) rfl dX9_strike_77 ?_
        refine g_if_eq (tgt := 85) hC dX9_strike_78 (by decide) (fun _ => ?_) (fun _ => ?_)
        · refine g_iconst hC (v := 0) dX9_strike_85 (by decide) ?_
          refine g_sub (lv1 := [(0, .ref (zad Z 9)), (1, .int a1), (3, .int a3)]) [1, 2, 4] rfl ?_
          exact g_X9_strike_b86 hC  M a1 a3 0
        · refine g_sub (lv1 := [(0, .ref (zad Z 9)), (1, .int a1), (3, .int a3)]) [1, 2, 4] rfl ?_
          exact g_X9_strike_b81 hC  M a1 a3 
      · refine g_sub (lv1 := [(0, .ref (zad Z 9)), (1, .int a1), (3, .int a3)]) [1, 2, 4] rfl ?_
        exact g_X9_strike_b81 hC  M a1 a3 
set_option maxRecDepth 20000 in
set_option maxHeartbeats 4000000 in
theorem g_X9_strike_b31 {p : Program} {l : Launch} {e : Env} {s : State} {m : MethodId} {args : Array Value} {below : List Frame} {meth : Method} {c : Code} {Z : gZ} (hC : gC p l s m args meth c cX9_strike 7 RX9 (some .int) Z)   (M : gM) (a1 : Int32) (a2 : Int32) (a3 : Int32)  : gW p l e rm_X9_strike s m args below meth c 7 Z 1 0 0 M 31 [(0, .ref (zad Z 9)), (1, .int a1), (2, .int a2), (3, .int a3)] [] (f_X9_strike_b31  M a1 a2 a3 ) := by
  unfold f_X9_strike_b31
  refine g_iconst hC (v := 0) dX9_strike_31 (by decide) ?_
  exact g_X9_strike_b32 hC  M a1 a2 a3 0
set_option maxRecDepth 20000 in
set_option maxHeartbeats 4000000 in
theorem c_X9_strike {l : Launch} (hfl : l.stackTraces = false) (Z : gZ) (M : gM) (a1 : Int32) (a2 : Int32) (a3 : Int32) : gMet l yX9_strike cX9_strike 7 (some .int) rm_X9_strike 1 0 Z M [.ref (zad Z 9), .int a1, .int a2, .int a3] (f_X9_strike M a1 a2 a3) := by
  refine g_enter hfl (by decide) (Nat.le_of_ble_eq_true rfl) (fun p e s m args below meth c hC => ?_)
  refine g_eq (F := f_X9_strike M a1 a2 a3) rfl ?_
  refine g_lv0 (lv1 := [(0, .ref (zad Z 9)), (1, .int a1), (2, .int a2), (3, .int a3)]) rfl ?_
  unfold f_X9_strike
  refine g_aload_n hC 0 dX9_strike_0 rfl rfl ?_
  refine g_iload_n hC 1 dX9_strike_1 rfl rfl ?_
  refine g_callVi (n := 1) hC [.int a1] 9 9 (by decide) rfl rfl (fun hne => c_X9_isCase hC.2.2.2.2.2.2.2.1 Z M a1 hne) lk_X9_181 mw_X9_isCase.1 mw_X9_isCase.2.1 mw_X9_isCase.2.2.1 mw_X9_isCase.2.2.2 ⟨rfl, by decide, by decide, by decide +kernel⟩ rfl rfl ⟨by decide, by decide⟩ rfl rfl (Nat.le_of_ble_eq_true rfl) (by decide) (by decide) (by decide) dX9_strike_2 (fun x10 M9 => ?_)
  refine g_if_eq (tgt := 31) hC dX9_strike_5 (by decide) (fun _ => ?_) (fun _ => ?_)
  · exact g_X9_strike_b31 hC  M9 a1 a2 a3
  · refine g_iload_n hC 2 dX9_strike_8 rfl rfl ?_
    refine g_iconst hC (v := 0) dX9_strike_9 (by decide) ?_
    refine g_iconst hC (v := 1) dX9_strike_10 (by decide) ?_
    refine g_callSi (n := 3) hC [.int a2, .int 0, .int 1] (fun hne => c_X9_within hC.2.2.2.2.2.2.2.1 Z M9 a2 0 1 hne) lk_X9_148 mw_X9_within.1 mw_X9_within.2.1 mw_X9_within.2.2 ⟨by decide, by decide, by decide +kernel⟩ rfl rfl ⟨by decide, by decide⟩ rfl rfl (Nat.le_of_ble_eq_true rfl) (by decide) (by decide) (by decide) dX9_strike_11 (fun x12 M11 => ?_)
    refine g_if_eq (tgt := 31) hC dX9_strike_14 (by decide) (fun _ => ?_) (fun _ => ?_)
    · exact g_X9_strike_b31 hC  M11 a1 a2 a3
    · refine g_iload_n hC 3 dX9_strike_17 rfl rfl ?_
      refine g_iconst hC (v := 0) dX9_strike_18 (by decide) ?_
      refine g_bipush hC (v := 13) dX9_strike_19 (by decide) ?_
      refine g_callSi (n := 3) hC [.int a3, .int 0, .int 13] (fun hne => c_X9_within hC.2.2.2.2.2.2.2.1 Z M11 a3 0 13 hne) lk_X9_148 mw_X9_within.1 mw_X9_within.2.1 mw_X9_within.2.2 ⟨by decide, by decide, by decide +kernel⟩ rfl rfl ⟨by decide, by decide⟩ rfl rfl (Nat.le_of_ble_eq_true rfl) (by decide) (by decide) (by decide) dX9_strike_21 (fun x14 M13 => ?_)
      refine g_if_eq (tgt := 31) hC dX9_strike_24 (by decide) (fun _ => ?_) (fun _ => ?_)
      · exact g_X9_strike_b31 hC  M13 a1 a2 a3
      · refine g_iconst hC (v := 1) dX9_strike_27 (by decide) ?_
        refine g_goto (tgt := 32) hC dX9_strike_28 (by decide) ?_
        exact g_X9_strike_b32 hC  M13 a1 a2 a3 1

-- ===== X9_alternate =====
def f_X9_alternate (M : gM) (a1 : Int32) : gR := (gI ((8 * a1) + 6) 64 (if (M 142 ((8 * a1) + 6).toNatClampNeg) = (-1) then (gI ((8 * a1) + 7) 64 (if (M 142 ((8 * a1) + 7).toNatClampNeg) = (-1) then (rRet (-1) M) else (rRet 7 M))) else (rRet 6 M)))
abbrev rm_X9_alternate : Room := { frames := 0, cells := 0, slots := 0, locals := 0 }
set_option maxRecDepth 20000 in
set_option maxHeartbeats 4000000 in
theorem c_X9_alternate {l : Launch} (hfl : l.stackTraces = false) (Z : gZ) (M : gM) (a1 : Int32) : gMet l yX9_alternate cX9_alternate 2 (some .int) rm_X9_alternate 1 0 Z M [.ref (zad Z 9), .int a1] (f_X9_alternate M a1) := by
  refine g_enter hfl (by decide) (Nat.le_of_ble_eq_true rfl) (fun p e s m args below meth c hC => ?_)
  refine g_eq (F := f_X9_alternate M a1) rfl ?_
  refine g_lv0 (lv1 := [(0, .ref (zad Z 9)), (1, .int a1)]) rfl ?_
  unfold f_X9_alternate
  refine g_aload_n hC 0 dX9_alternate_0 rfl rfl ?_
  refine gf_X9_132 hC dX9_alternate_1 ?_
  refine g_bipush hC (v := 8) dX9_alternate_4 (by decide) ?_
  refine g_iload_n hC 1 dX9_alternate_6 rfl rfl ?_
  refine g_imul hC dX9_alternate_7 ?_
  refine g_bipush hC (v := 6) dX9_alternate_8 (by decide) ?_
  refine g_iadd hC dX9_alternate_10 ?_
  refine g_iald hC 142 (by decide) rfl dX9_alternate_11 ?_
  refine g_iconst hC (v := (-1)) dX9_alternate_12 (by decide) ?_
  refine g_icmp_eq (tgt := 21) hC dX9_alternate_13 (by decide) (fun _ => ?_) (fun _ => ?_)
  · refine g_aload_n hC 0 dX9_alternate_21 rfl rfl ?_
    refine gf_X9_132 hC dX9_alternate_22 ?_
    refine g_bipush hC (v := 8) dX9_alternate_25 (by decide) ?_
    refine g_iload_n hC 1 dX9_alternate_27 rfl rfl ?_
    refine g_imul hC dX9_alternate_28 ?_
    refine g_bipush hC (v := 7) dX9_alternate_29 (by decide) ?_
    refine g_iadd hC dX9_alternate_31 ?_
    refine g_iald hC 142 (by decide) rfl dX9_alternate_32 ?_
    refine g_iconst hC (v := (-1)) dX9_alternate_33 (by decide) ?_
    refine g_icmp_eq (tgt := 42) hC dX9_alternate_34 (by decide) (fun _ => ?_) (fun _ => ?_)
    · refine g_iconst hC (v := (-1)) dX9_alternate_42 (by decide) ?_
      exact g_iret hC rfl (by decide) dX9_alternate_43
    · refine g_bipush hC (v := 7) dX9_alternate_37 (by decide) ?_
      refine g_goto (tgt := 43) hC dX9_alternate_39 (by decide) ?_
      exact g_iret hC rfl (by decide) dX9_alternate_43
  · refine g_bipush hC (v := 6) dX9_alternate_16 (by decide) ?_
    refine g_goto (tgt := 43) hC dX9_alternate_18 (by decide) ?_
    exact g_iret hC rfl (by decide) dX9_alternate_43

-- ===== X9_dismiss =====
def f_X9_dismiss_b113  (M : gM) (a1 : Int32) (a4 : Int32) (a5 : Int32) (t1 : Int32) : gR := (rb (f_X9_refused M t1) (fun x2 M1 => (if x2 = 0 then (gI ((8 * a1) + a5) 64 (gI ((8 * a1) + a4) 64 (bM (gset M1 142 ((8 * a1) + a4).toNatClampNeg (M1 142 ((8 * a1) + a5).toNatClampNeg)) (fun M3 => (gI ((8 * a1) + a5) 64 (bM (gset M3 142 ((8 * a1) + a5).toNatClampNeg (-1)) (fun M4 => (gI ((8 * a1) + a4) 64 (rRet (M4 142 ((8 * a1) + a4).toNatClampNeg) M4))))))))) else (rRet 0 M1))))
def f_X9_dismiss_b108  (M : gM) (a1 : Int32) (a4 : Int32) (a5 : Int32)  : gR := (f_X9_dismiss_b113  M a1 a4 a5 2)
def f_X9_dismiss_b85  (M : gM) (a1 : Int32) (a3 : Int32) (a4 : Int32) (t0 : Int32) : gR := (if a3 = 0 then (f_X9_dismiss_b113  M a1 a4 t0 1) else (if a4 = (-1) then (f_X9_dismiss_b108  M a1 a4 t0 ) else (if t0 = (-1) then (f_X9_dismiss_b108  M a1 a4 t0 ) else (f_X9_dismiss_b113  M a1 a4 t0 0))))
def f_X9_dismiss_b72  (M : gM) (a1 : Int32) (a3 : Int32) (a4 : Int32)  : gR := (if a3 = 0 then (f_X9_dismiss_b85  M a1 a3 a4 (-1)) else (rb (f_X9_alternate M a1) (fun x6 M5 => (f_X9_dismiss_b85  M5 a1 a3 a4 x6))))
def f_X9_dismiss_lb30  (self30 : gM → Int32 → Int32 → Int32 → Int32 → Int32 → gR) (M : gM) (a1 : Int32) (a2 : Int32) (a3 : Int32) (a4 : Int32) (a5 : Int32) : gR := (if 6 ≤ a5 then (f_X9_dismiss_b72  M a1 a3 a4 ) else (if a3 = 0 then (f_X9_dismiss_b72  M a1 a3 a4 ) else (gI ((8 * a1) + a5) 64 (if (M 142 ((8 * a1) + a5).toNatClampNeg) = a2 then (bV (a5 + 1) (fun x7 => (self30 M a1 a2 a3 a5 x7))) else (bV (a5 + 1) (fun x8 => (self30 M a1 a2 a3 a4 x8)))))))
def f_X9_dismiss_l30  : Nat → gM → Int32 → Int32 → Int32 → Int32 → Int32 → gR
  | 0, _, _, _, _, _, _ => rStuck
  | n + 1, M, a1, a2, a3, a4, a5 => f_X9_dismiss_lb30  (f_X9_dismiss_l30  n) M a1 a2 a3 a4 a5
def f_X9_dismiss_b23  (M : gM) (a1 : Int32) (a2 : Int32) (t0 : Int32) : gR := (f_X9_dismiss_l30  5000 M a1 a2 t0 (-1) 0)
def f_X9_dismiss_b22  (M : gM) (a1 : Int32) (a2 : Int32)  : gR := (f_X9_dismiss_b23  M a1 a2 0)
def f_X9_dismiss (M : gM) (a1 : Int32) (a2 : Int32) : gR := (rb (f_X9_isCase M a1) (fun x10 M9 => (if x10 = 0 then (f_X9_dismiss_b22  M9 a1 a2 ) else (rb (f_X9_within M9 a2 0 13) (fun x12 M11 => (if x12 = 0 then (f_X9_dismiss_b22  M11 a1 a2 ) else (f_X9_dismiss_b23  M11 a1 a2 1)))))))
abbrev rm_X9_dismiss : Room := { frames := 2, cells := 0, slots := 0, locals := 43 }
set_option maxRecDepth 20000 in
set_option maxHeartbeats 4000000 in
theorem g_X9_dismiss_b113 {p : Program} {l : Launch} {e : Env} {s : State} {m : MethodId} {args : Array Value} {below : List Frame} {meth : Method} {c : Code} {Z : gZ} (hC : gC p l s m args meth c cX9_dismiss 6 RX9 (some .int) Z)   (M : gM) (a1 : Int32) (a4 : Int32) (a5 : Int32) (t1 : Int32) : gW p l e rm_X9_dismiss s m args below meth c 6 Z 1 0 0 M 113 [(0, .ref (zad Z 9)), (1, .int a1), (4, .int a4), (5, .int a5)] [.int t1, .ref (zad Z 9)] (f_X9_dismiss_b113  M a1 a4 a5 t1) := by
  unfold f_X9_dismiss_b113
  refine g_callVi (n := 1) hC [.int t1] 9 9 (by decide) rfl rfl (fun hne => c_X9_refused hC.2.2.2.2.2.2.2.1 Z M t1 hne) lk_X9_155 mw_X9_refused.1 mw_X9_refused.2.1 mw_X9_refused.2.2.1 mw_X9_refused.2.2.2 ⟨rfl, by decide, by decide, by decide +kernel⟩ rfl rfl ⟨by decide, by decide⟩ rfl rfl (Nat.le_of_ble_eq_true rfl) (by decide) (by decide) (by decide) dX9_dismiss_113 (fun x2 M1 => ?_)
  refine g_if_eq (tgt := 121) hC dX9_dismiss_116 (by decide) (fun _ => ?_) (fun _ => ?_)
  · refine g_aload_n hC 0 dX9_dismiss_121 rfl rfl ?_
    refine gf_X9_132 hC dX9_dismiss_122 ?_
    refine g_bipush hC (v := 8) dX9_dismiss_125 (by decide) ?_
    refine g_iload_n hC 1 dX9_dismiss_127 rfl rfl ?_
    refine g_imul hC dX9_dismiss_128 ?_
    refine g_iload hC 2 dX9_dismiss_129 rfl ?_
    refine g_iadd hC dX9_dismiss_131 ?_
    refine g_aload_n hC 0 dX9_dismiss_132 rfl rfl ?_
    refine gf_X9_132 hC dX9_dismiss_133 ?_
    refine g_bipush hC (v := 8) dX9_dismiss_136 (by decide) ?_
    refine g_iload_n hC 1 dX9_dismiss_138 rfl rfl ?_
    refine g_imul hC dX9_dismiss_139 ?_
    refine g_iload hC 3 dX9_dismiss_140 rfl ?_
    refine g_iadd hC dX9_dismiss_142 ?_
    refine g_iald hC 142 (by decide) rfl dX9_dismiss_143 ?_
    refine g_iast hC 142 (by decide) rfl dX9_dismiss_144 (fun M3 => ?_)
    refine g_aload_n hC 0 dX9_dismiss_145 rfl rfl ?_
    refine gf_X9_132 hC dX9_dismiss_146 ?_
    refine g_bipush hC (v := 8) dX9_dismiss_149 (by decide) ?_
    refine g_iload_n hC 1 dX9_dismiss_151 rfl rfl ?_
    refine g_imul hC dX9_dismiss_152 ?_
    refine g_iload hC 3 dX9_dismiss_153 rfl ?_
    refine g_iadd hC dX9_dismiss_155 ?_
    refine g_iconst hC (v := (-1)) dX9_dismiss_156 (by decide) ?_
    refine g_iast hC 142 (by decide) rfl dX9_dismiss_157 (fun M4 => ?_)
    refine g_aload_n hC 0 dX9_dismiss_158 rfl rfl ?_
    refine gf_X9_132 hC dX9_dismiss_159 ?_
    refine g_bipush hC (v := 8) dX9_dismiss_162 (by decide) ?_
    refine g_iload_n hC 1 dX9_dismiss_164 rfl rfl ?_
    refine g_imul hC dX9_dismiss_165 ?_
    refine g_iload hC 2 dX9_dismiss_166 rfl ?_
    refine g_iadd hC dX9_dismiss_168 ?_
    refine g_iald hC 142 (by decide) rfl dX9_dismiss_169 ?_
    exact g_iret hC rfl (by decide) dX9_dismiss_170
  · refine g_iconst hC (v := 0) dX9_dismiss_119 (by decide) ?_
    exact g_iret hC rfl (by decide) dX9_dismiss_120
set_option maxRecDepth 20000 in
set_option maxHeartbeats 4000000 in
theorem g_X9_dismiss_b108 {p : Program} {l : Launch} {e : Env} {s : State} {m : MethodId} {args : Array Value} {below : List Frame} {meth : Method} {c : Code} {Z : gZ} (hC : gC p l s m args meth c cX9_dismiss 6 RX9 (some .int) Z)   (M : gM) (a1 : Int32) (a4 : Int32) (a5 : Int32)  : gW p l e rm_X9_dismiss s m args below meth c 6 Z 1 0 0 M 108 [(0, .ref (zad Z 9)), (1, .int a1), (4, .int a4), (5, .int a5)] [.ref (zad Z 9)] (f_X9_dismiss_b108  M a1 a4 a5 ) := by
  unfold f_X9_dismiss_b108
  refine g_iconst hC (v := 2) dX9_dismiss_108 (by decide) ?_
  refine g_goto (tgt := 113) hC dX9_dismiss_109 (by decide) ?_
  exact g_X9_dismiss_b113 hC  M a1 a4 a5 2
set_option maxRecDepth 20000 in
set_option maxHeartbeats 4000000 in
theorem g_X9_dismiss_b85 {p : Program} {l : Launch} {e : Env} {s : State} {m : MethodId} {args : Array Value} {below : List Frame} {meth : Method} {c : Code} {Z : gZ} (hC : gC p l s m args meth c cX9_dismiss 6 RX9 (some .int) Z)   (M : gM) (a1 : Int32) (a3 : Int32) (a4 : Int32) (t0 : Int32) : gW p l e rm_X9_dismiss s m args below meth c 6 Z 1 0 0 M 85 [(0, .ref (zad Z 9)), (1, .int a1), (3, .int a3), (4, .int a4)] [.int t0] (f_X9_dismiss_b85  M a1 a3 a4 t0) := by
  unfold f_X9_dismiss_b85
  refine g_istore hC (lv1 := [(5, .int t0), (0, .ref (zad Z 9)), (1, .int a1), (3, .int a3), (4, .int a4)]) dX9_dismiss_85 (by decide) rfl ?_
  refine g_aload_n hC 1 dX9_dismiss_87 rfl rfl ?_
  refine g_iload_n hC 3 dX9_dismiss_88 rfl rfl ?_
  refine g_if_ne (tgt := 96) hC dX9_dismiss_89 (by decide) (fun _ => ?_) (fun _ => ?_)
  · refine g_iconst hC (v := 1) dX9_dismiss_92 (by decide) ?_
    refine g_goto (tgt := 113) hC dX9_dismiss_93 (by decide) ?_
    refine g_sub (lv1 := [(0, .ref (zad Z 9)), (1, .int a1), (4, .int a4), (5, .int t0)]) [1, 2, 4, 0] rfl ?_
    exact g_X9_dismiss_b113 hC  M a1 a4 t0 1
  · refine g_iload hC 4 dX9_dismiss_96 rfl ?_
    refine g_iconst hC (v := (-1)) dX9_dismiss_98 (by decide) ?_
    refine g_icmp_eq (tgt := 108) hC dX9_dismiss_99 (by decide) (fun _ => ?_) (fun _ => ?_)
    · refine g_sub (lv1 := [(0, .ref (zad Z 9)), (1, .int a1), (4, .int a4), (5, .int t0)]) [1, 2, 4, 0] rfl ?_
      exact g_X9_dismiss_b108 hC  M a1 a4 t0 
    · refine g_iload hC 0 dX9_dismiss_102 rfl ?_
      refine g_iconst hC (v := (-1)) dX9_dismiss_104 (by decide) ?_
      refine g_icmp_ne (tgt := 112) hC dX9_dismiss_105 (by decide) (fun _ => ?_) (fun _ => ?_)
      · refine g_sub (lv1 := [(0, .ref (zad Z 9)), (1, .int a1), (4, .int a4), (5, .int t0)]) [1, 2, 4, 0] rfl ?_
        exact g_X9_dismiss_b108 hC  M a1 a4 t0 
      · refine g_iconst hC (v := 0) dX9_dismiss_112 (by decide) ?_
        refine g_sub (lv1 := [(0, .ref (zad Z 9)), (1, .int a1), (4, .int a4), (5, .int t0)]) [1, 2, 4, 0] rfl ?_
        exact g_X9_dismiss_b113 hC  M a1 a4 t0 0
set_option maxRecDepth 20000 in
set_option maxHeartbeats 4000000 in
theorem g_X9_dismiss_b72 {p : Program} {l : Launch} {e : Env} {s : State} {m : MethodId} {args : Array Value} {below : List Frame} {meth : Method} {c : Code} {Z : gZ} (hC : gC p l s m args meth c cX9_dismiss 6 RX9 (some .int) Z)   (M : gM) (a1 : Int32) (a3 : Int32) (a4 : Int32)  : gW p l e rm_X9_dismiss s m args below meth c 6 Z 1 0 0 M 72 [(0, .ref (zad Z 9)), (1, .int a1), (3, .int a3), (4, .int a4)] [] (f_X9_dismiss_b72  M a1 a3 a4 ) := by
  unfold f_X9_dismiss_b72
  refine g_iload_n hC 2 dX9_dismiss_72 rfl rfl ?_
  refine g_if_eq (tgt := 84) hC dX9_dismiss_73 (by decide) (fun _ => ?_) (fun _ => ?_)
  · refine g_iconst hC (v := (-1)) dX9_dismiss_84 (by decide) ?_
    exact g_X9_dismiss_b85 hC  M a1 a3 a4 (-1)
  · refine g_aload_n hC 0 dX9_dismiss_76 rfl rfl ?_
    refine g_iload_n hC 1 dX9_dismiss_77 rfl rfl ?_
    refine g_callVi (n := 1) hC [.int a1] 9 9 (by decide) rfl rfl (fun hne => c_X9_alternate hC.2.2.2.2.2.2.2.1 Z M a1 hne) lk_X9_291 mw_X9_alternate.1 mw_X9_alternate.2.1 mw_X9_alternate.2.2.1 mw_X9_alternate.2.2.2 ⟨rfl, by decide, by decide, by decide +kernel⟩ rfl rfl ⟨by decide, by decide⟩ rfl rfl (Nat.le_of_ble_eq_true rfl) (by decide) (by decide) (by decide) dX9_dismiss_78 (fun x6 M5 => ?_)
    refine g_goto (tgt := 85) hC dX9_dismiss_81 (by decide) ?_
    exact g_X9_dismiss_b85 hC  M5 a1 a3 a4 x6
set_option maxRecDepth 20000 in
set_option maxHeartbeats 4000000 in
theorem g_X9_dismiss_lb30 {p : Program} {l : Launch} {e : Env} {s : State} {m : MethodId} {args : Array Value} {below : List Frame} {meth : Method} {c : Code} {Z : gZ} (hC : gC p l s m args meth c cX9_dismiss 6 RX9 (some .int) Z)  {self30 : gM → Int32 → Int32 → Int32 → Int32 → Int32 → gR}  (hs30 : ∀ (M : gM) (a1 : Int32) (a2 : Int32) (a3 : Int32) (a4 : Int32) (a5 : Int32) , gW p l e rm_X9_dismiss s m args below meth c 6 Z 1 0 0 M 30 [(0, .ref (zad Z 9)), (1, .int a1), (2, .int a2), (3, .int a3), (4, .int a4), (5, .int a5)] [] (self30 M a1 a2 a3 a4 a5)) (M : gM) (a1 : Int32) (a2 : Int32) (a3 : Int32) (a4 : Int32) (a5 : Int32) : gW p l e rm_X9_dismiss s m args below meth c 6 Z 1 0 0 M 30 [(0, .ref (zad Z 9)), (1, .int a1), (2, .int a2), (3, .int a3), (4, .int a4), (5, .int a5)] [] (f_X9_dismiss_lb30  self30 M a1 a2 a3 a4 a5) := by
  unfold f_X9_dismiss_lb30
  refine g_iload hC 5 dX9_dismiss_30 rfl ?_
  refine g_bipush hC (v := 6) dX9_dismiss_32 (by decide) ?_
  refine g_icmp_ge (tgt := 72) hC dX9_dismiss_34 (by decide) (fun _ => ?_) (fun _ => ?_)
  · refine g_sub (lv1 := [(0, .ref (zad Z 9)), (1, .int a1), (3, .int a3), (4, .int a4)]) [0, 1, 3, 4] rfl ?_
    exact g_X9_dismiss_b72 hC  M a1 a3 a4 
  · refine g_iload_n hC 3 dX9_dismiss_37 rfl rfl ?_
    refine g_if_eq (tgt := 72) hC dX9_dismiss_38 (by decide) (fun _ => ?_) (fun _ => ?_)
    · refine g_sub (lv1 := [(0, .ref (zad Z 9)), (1, .int a1), (3, .int a3), (4, .int a4)]) [0, 1, 3, 4] rfl ?_
      exact g_X9_dismiss_b72 hC  M a1 a3 a4 
    · refine g_aload_n hC 0 dX9_dismiss_41 rfl rfl ?_
      refine gf_X9_132 hC dX9_dismiss_42 ?_
      refine g_bipush hC (v := 8) dX9_dismiss_45 (by decide) ?_
      refine g_iload_n hC 1 dX9_dismiss_47 rfl rfl ?_
      refine g_imul hC dX9_dismiss_48 ?_
      refine g_iload hC 5 dX9_dismiss_49 rfl ?_
      refine g_iadd hC dX9_dismiss_51 ?_
      refine g_iald hC 142 (by decide) rfl dX9_dismiss_52 ?_
      refine g_iload_n hC 2 dX9_dismiss_53 rfl rfl ?_
      refine g_icmp_ne (tgt := 62) hC dX9_dismiss_54 (by decide) (fun _ => ?_) (fun _ => ?_)
      · refine g_iload hC 5 dX9_dismiss_57 rfl ?_
        refine g_goto (tgt := 64) hC dX9_dismiss_59 (by decide) ?_
        refine g_istore hC (lv1 := [(4, .int a5), (0, .ref (zad Z 9)), (1, .int a1), (2, .int a2), (3, .int a3), (5, .int a5)]) dX9_dismiss_64 (by decide) rfl ?_
        refine g_iinc hC 5 (v := 1) (fun x7 => [(5, .int x7), (4, .int a5), (0, .ref (zad Z 9)), (1, .int a1), (2, .int a2), (3, .int a3)]) dX9_dismiss_66 rfl (by decide) (by decide) (fun _ => rfl) (fun x7 => ?_)
        refine g_goto (tgt := 30) hC dX9_dismiss_69 (by decide) ?_
        refine g_sub (lv1 := [(0, .ref (zad Z 9)), (1, .int a1), (2, .int a2), (3, .int a3), (4, .int a5), (5, .int x7)]) [2, 3, 4, 5, 1, 0] rfl ?_
        exact hs30 M a1 a2 a3 a5 x7
      · refine g_iload hC 4 dX9_dismiss_62 rfl ?_
        refine g_istore hC (lv1 := [(4, .int a4), (0, .ref (zad Z 9)), (1, .int a1), (2, .int a2), (3, .int a3), (5, .int a5)]) dX9_dismiss_64 (by decide) rfl ?_
        refine g_iinc hC 5 (v := 1) (fun x8 => [(5, .int x8), (4, .int a4), (0, .ref (zad Z 9)), (1, .int a1), (2, .int a2), (3, .int a3)]) dX9_dismiss_66 rfl (by decide) (by decide) (fun _ => rfl) (fun x8 => ?_)
        refine g_goto (tgt := 30) hC dX9_dismiss_69 (by decide) ?_
        refine g_sub (lv1 := [(0, .ref (zad Z 9)), (1, .int a1), (2, .int a2), (3, .int a3), (4, .int a4), (5, .int x8)]) [2, 3, 4, 5, 1, 0] rfl ?_
        exact hs30 M a1 a2 a3 a4 x8
set_option maxRecDepth 20000 in
set_option maxHeartbeats 4000000 in
theorem g_X9_dismiss_l30 {p : Program} {l : Launch} {e : Env} {s : State} {m : MethodId} {args : Array Value} {below : List Frame} {meth : Method} {c : Code} {Z : gZ} (hC : gC p l s m args meth c cX9_dismiss 6 RX9 (some .int) Z)   : ∀ (n : Nat) (M : gM) (a1 : Int32) (a2 : Int32) (a3 : Int32) (a4 : Int32) (a5 : Int32), gW p l e rm_X9_dismiss s m args below meth c 6 Z 1 0 0 M 30 [(0, .ref (zad Z 9)), (1, .int a1), (2, .int a2), (3, .int a3), (4, .int a4), (5, .int a5)] [] (f_X9_dismiss_l30  n M a1 a2 a3 a4 a5)
  | 0, _, _, _, _, _, _ => g_stuck
  | n + 1, M, a1, a2, a3, a4, a5 => g_X9_dismiss_lb30 hC  (g_X9_dismiss_l30 hC  n) M a1 a2 a3 a4 a5
set_option maxRecDepth 20000 in
set_option maxHeartbeats 4000000 in
theorem g_X9_dismiss_b23 {p : Program} {l : Launch} {e : Env} {s : State} {m : MethodId} {args : Array Value} {below : List Frame} {meth : Method} {c : Code} {Z : gZ} (hC : gC p l s m args meth c cX9_dismiss 6 RX9 (some .int) Z)   (M : gM) (a1 : Int32) (a2 : Int32) (t0 : Int32) : gW p l e rm_X9_dismiss s m args below meth c 6 Z 1 0 0 M 23 [(0, .ref (zad Z 9)), (1, .int a1), (2, .int a2)] [.int t0] (f_X9_dismiss_b23  M a1 a2 t0) := by
  unfold f_X9_dismiss_b23
  refine g_istore_n hC (lv1 := [(3, .int t0), (0, .ref (zad Z 9)), (1, .int a1), (2, .int a2)]) dX9_dismiss_23 rfl (by decide) rfl ?_
  refine g_iconst hC (v := (-1)) dX9_dismiss_24 (by decide) ?_
  refine g_istore hC (lv1 := [(4, .int (-1)), (3, .int t0), (0, .ref (zad Z 9)), (1, .int a1), (2, .int a2)]) dX9_dismiss_25 (by decide) rfl ?_
  refine g_iconst hC (v := 0) dX9_dismiss_27 (by decide) ?_
  refine g_istore hC (lv1 := [(5, .int 0), (4, .int (-1)), (3, .int t0), (0, .ref (zad Z 9)), (1, .int a1), (2, .int a2)]) dX9_dismiss_28 (by decide) rfl ?_
  refine g_sub (lv1 := [(0, .ref (zad Z 9)), (1, .int a1), (2, .int a2), (3, .int t0), (4, .int (-1)), (5, .int 0)]) [3, 4, 5, 2, 1, 0] rfl ?_
  exact g_X9_dismiss_l30 hC  5000 M a1 a2 t0 (-1) 0
set_option maxRecDepth 20000 in
set_option maxHeartbeats 4000000 in
theorem g_X9_dismiss_b22 {p : Program} {l : Launch} {e : Env} {s : State} {m : MethodId} {args : Array Value} {below : List Frame} {meth : Method} {c : Code} {Z : gZ} (hC : gC p l s m args meth c cX9_dismiss 6 RX9 (some .int) Z)   (M : gM) (a1 : Int32) (a2 : Int32)  : gW p l e rm_X9_dismiss s m args below meth c 6 Z 1 0 0 M 22 [(0, .ref (zad Z 9)), (1, .int a1), (2, .int a2)] [] (f_X9_dismiss_b22  M a1 a2 ) := by
  unfold f_X9_dismiss_b22
  refine g_iconst hC (v := 0) dX9_dismiss_22 (by decide) ?_
  exact g_X9_dismiss_b23 hC  M a1 a2 0
set_option maxRecDepth 20000 in
set_option maxHeartbeats 4000000 in
theorem c_X9_dismiss {l : Launch} (hfl : l.stackTraces = false) (Z : gZ) (M : gM) (a1 : Int32) (a2 : Int32) : gMet l yX9_dismiss cX9_dismiss 6 (some .int) rm_X9_dismiss 1 0 Z M [.ref (zad Z 9), .int a1, .int a2] (f_X9_dismiss M a1 a2) := by
  refine g_enter hfl (by decide) (Nat.le_of_ble_eq_true rfl) (fun p e s m args below meth c hC => ?_)
  refine g_eq (F := f_X9_dismiss M a1 a2) rfl ?_
  refine g_lv0 (lv1 := [(0, .ref (zad Z 9)), (1, .int a1), (2, .int a2)]) rfl ?_
  unfold f_X9_dismiss
  refine g_aload_n hC 0 dX9_dismiss_0 rfl rfl ?_
  refine g_iload_n hC 1 dX9_dismiss_1 rfl rfl ?_
  refine g_callVi (n := 1) hC [.int a1] 9 9 (by decide) rfl rfl (fun hne => c_X9_isCase hC.2.2.2.2.2.2.2.1 Z M a1 hne) lk_X9_181 mw_X9_isCase.1 mw_X9_isCase.2.1 mw_X9_isCase.2.2.1 mw_X9_isCase.2.2.2 ⟨rfl, by decide, by decide, by decide +kernel⟩ rfl rfl ⟨by decide, by decide⟩ rfl rfl (Nat.le_of_ble_eq_true rfl) (by decide) (by decide) (by decide) dX9_dismiss_2 (fun x10 M9 => ?_)
  refine g_if_eq (tgt := 22) hC dX9_dismiss_5 (by decide) (fun _ => ?_) (fun _ => ?_)
  · exact g_X9_dismiss_b22 hC  M9 a1 a2
  · refine g_iload_n hC 2 dX9_dismiss_8 rfl rfl ?_
    refine g_iconst hC (v := 0) dX9_dismiss_9 (by decide) ?_
    refine g_bipush hC (v := 13) dX9_dismiss_10 (by decide) ?_
    refine g_callSi (n := 3) hC [.int a2, .int 0, .int 13] (fun hne => c_X9_within hC.2.2.2.2.2.2.2.1 Z M9 a2 0 13 hne) lk_X9_148 mw_X9_within.1 mw_X9_within.2.1 mw_X9_within.2.2 ⟨by decide, by decide, by decide +kernel⟩ rfl rfl ⟨by decide, by decide⟩ rfl rfl (Nat.le_of_ble_eq_true rfl) (by decide) (by decide) (by decide) dX9_dismiss_12 (fun x12 M11 => ?_)
    refine g_if_eq (tgt := 22) hC dX9_dismiss_15 (by decide) (fun _ => ?_) (fun _ => ?_)
    · exact g_X9_dismiss_b22 hC  M11 a1 a2
    · refine g_iconst hC (v := 1) dX9_dismiss_18 (by decide) ?_
      refine g_goto (tgt := 23) hC dX9_dismiss_19 (by decide) ?_
      exact g_X9_dismiss_b23 hC  M11 a1 a2 1

-- ===== X9_seat =====
def f_X9_seat_b47  (M : gM) (a1 : Int32) (t0 : Int32) : gR := (if t0 = (-1) then (rRet (-1) M) else (gI ((8 * a1) + t0) 64 (rRet (M 142 ((8 * a1) + t0).toNatClampNeg) M)))
def f_X9_seat_b24  (M : gM) (a1 : Int32) (a2 : Int32) (t1 : Int32) : gR := (rb (f_X9_refused M t1) (fun x2 M1 => (if x2 = 0 then (if 6 ≤ a2 then (rb (f_X9_alternate M1 a1) (fun x4 M3 => (f_X9_seat_b47  M3 a1 x4))) else (f_X9_seat_b47  M1 a1 a2)) else (rRet 0 M1))))
def f_X9_seat_b23  (M : gM) (a1 : Int32) (a2 : Int32)  : gR := (f_X9_seat_b24  M a1 a2 1)
def f_X9_seat (M : gM) (a1 : Int32) (a2 : Int32) : gR := (rb (f_X9_isCase M a1) (fun x6 M5 => (if x6 = 0 then (f_X9_seat_b23  M5 a1 a2 ) else (rb (f_X9_within M5 a2 0 6) (fun x8 M7 => (if x8 = 0 then (f_X9_seat_b23  M7 a1 a2 ) else (f_X9_seat_b24  M7 a1 a2 0)))))))
abbrev rm_X9_seat : Room := { frames := 2, cells := 0, slots := 0, locals := 43 }
set_option maxRecDepth 20000 in
set_option maxHeartbeats 4000000 in
theorem g_X9_seat_b47 {p : Program} {l : Launch} {e : Env} {s : State} {m : MethodId} {args : Array Value} {below : List Frame} {meth : Method} {c : Code} {Z : gZ} (hC : gC p l s m args meth c cX9_seat 4 RX9 (some .int) Z)   (M : gM) (a1 : Int32) (t0 : Int32) : gW p l e rm_X9_seat s m args below meth c 4 Z 1 0 0 M 47 [(0, .ref (zad Z 9)), (1, .int a1)] [.int t0] (f_X9_seat_b47  M a1 t0) := by
  unfold f_X9_seat_b47
  refine g_istore_n hC (lv1 := [(3, .int t0), (0, .ref (zad Z 9)), (1, .int a1)]) dX9_seat_47 rfl (by decide) rfl ?_
  refine g_iload_n hC 0 dX9_seat_48 rfl rfl ?_
  refine g_iconst hC (v := (-1)) dX9_seat_49 (by decide) ?_
  refine g_icmp_ne (tgt := 57) hC dX9_seat_50 (by decide) (fun _ => ?_) (fun _ => ?_)
  · refine g_iconst hC (v := (-1)) dX9_seat_53 (by decide) ?_
    refine g_goto (tgt := 68) hC dX9_seat_54 (by decide) ?_
    exact g_iret hC rfl (by decide) dX9_seat_68
  · refine g_aload_n hC 1 dX9_seat_57 rfl rfl ?_
    refine gf_X9_132 hC dX9_seat_58 ?_
    refine g_bipush hC (v := 8) dX9_seat_61 (by decide) ?_
    refine g_iload_n hC 2 dX9_seat_63 rfl rfl ?_
    refine g_imul hC dX9_seat_64 ?_
    refine g_iload_n hC 0 dX9_seat_65 rfl rfl ?_
    refine g_iadd hC dX9_seat_66 ?_
    refine g_iald hC 142 (by decide) rfl dX9_seat_67 ?_
    exact g_iret hC rfl (by decide) dX9_seat_68
set_option maxRecDepth 20000 in
set_option maxHeartbeats 4000000 in
theorem g_X9_seat_b24 {p : Program} {l : Launch} {e : Env} {s : State} {m : MethodId} {args : Array Value} {below : List Frame} {meth : Method} {c : Code} {Z : gZ} (hC : gC p l s m args meth c cX9_seat 4 RX9 (some .int) Z)   (M : gM) (a1 : Int32) (a2 : Int32) (t1 : Int32) : gW p l e rm_X9_seat s m args below meth c 4 Z 1 0 0 M 24 [(0, .ref (zad Z 9)), (1, .int a1), (2, .int a2)] [.int t1, .ref (zad Z 9)] (f_X9_seat_b24  M a1 a2 t1) := by
  unfold f_X9_seat_b24
  refine g_callVi (n := 1) hC [.int t1] 9 9 (by decide) rfl rfl (fun hne => c_X9_refused hC.2.2.2.2.2.2.2.1 Z M t1 hne) lk_X9_155 mw_X9_refused.1 mw_X9_refused.2.1 mw_X9_refused.2.2.1 mw_X9_refused.2.2.2 ⟨rfl, by decide, by decide, by decide +kernel⟩ rfl rfl ⟨by decide, by decide⟩ rfl rfl (Nat.le_of_ble_eq_true rfl) (by decide) (by decide) (by decide) dX9_seat_24 (fun x2 M1 => ?_)
  refine g_if_eq (tgt := 32) hC dX9_seat_27 (by decide) (fun _ => ?_) (fun _ => ?_)
  · refine g_iload_n hC 2 dX9_seat_32 rfl rfl ?_
    refine g_bipush hC (v := 6) dX9_seat_33 (by decide) ?_
    refine g_icmp_ge (tgt := 42) hC dX9_seat_35 (by decide) (fun _ => ?_) (fun _ => ?_)
    · refine g_aload_n hC 0 dX9_seat_42 rfl rfl ?_
      refine g_iload_n hC 1 dX9_seat_43 rfl rfl ?_
      refine g_callVi (n := 1) hC [.int a1] 9 9 (by decide) rfl rfl (fun hne => c_X9_alternate hC.2.2.2.2.2.2.2.1 Z M1 a1 hne) lk_X9_291 mw_X9_alternate.1 mw_X9_alternate.2.1 mw_X9_alternate.2.2.1 mw_X9_alternate.2.2.2 ⟨rfl, by decide, by decide, by decide +kernel⟩ rfl rfl ⟨by decide, by decide⟩ rfl rfl (Nat.le_of_ble_eq_true rfl) (by decide) (by decide) (by decide) dX9_seat_44 (fun x4 M3 => ?_)
      refine g_sub (lv1 := [(0, .ref (zad Z 9)), (1, .int a1)]) [0, 1] rfl ?_
      exact g_X9_seat_b47 hC  M3 a1 x4
    · refine g_iload_n hC 2 dX9_seat_38 rfl rfl ?_
      refine g_goto (tgt := 47) hC dX9_seat_39 (by decide) ?_
      refine g_sub (lv1 := [(0, .ref (zad Z 9)), (1, .int a1)]) [0, 1] rfl ?_
      exact g_X9_seat_b47 hC  M1 a1 a2
  · refine g_iconst hC (v := 0) dX9_seat_30 (by decide) ?_
    exact g_iret hC rfl (by decide) dX9_seat_31
set_option maxRecDepth 20000 in
set_option maxHeartbeats 4000000 in
theorem g_X9_seat_b23 {p : Program} {l : Launch} {e : Env} {s : State} {m : MethodId} {args : Array Value} {below : List Frame} {meth : Method} {c : Code} {Z : gZ} (hC : gC p l s m args meth c cX9_seat 4 RX9 (some .int) Z)   (M : gM) (a1 : Int32) (a2 : Int32)  : gW p l e rm_X9_seat s m args below meth c 4 Z 1 0 0 M 23 [(0, .ref (zad Z 9)), (1, .int a1), (2, .int a2)] [.ref (zad Z 9)] (f_X9_seat_b23  M a1 a2 ) := by
  unfold f_X9_seat_b23
  refine g_iconst hC (v := 1) dX9_seat_23 (by decide) ?_
  exact g_X9_seat_b24 hC  M a1 a2 1
set_option maxRecDepth 20000 in
set_option maxHeartbeats 4000000 in
theorem c_X9_seat {l : Launch} (hfl : l.stackTraces = false) (Z : gZ) (M : gM) (a1 : Int32) (a2 : Int32) : gMet l yX9_seat cX9_seat 4 (some .int) rm_X9_seat 1 0 Z M [.ref (zad Z 9), .int a1, .int a2] (f_X9_seat M a1 a2) := by
  refine g_enter hfl (by decide) (Nat.le_of_ble_eq_true rfl) (fun p e s m args below meth c hC => ?_)
  refine g_eq (F := f_X9_seat M a1 a2) rfl ?_
  refine g_lv0 (lv1 := [(0, .ref (zad Z 9)), (1, .int a1), (2, .int a2)]) rfl ?_
  unfold f_X9_seat
  refine g_aload_n hC 0 dX9_seat_0 rfl rfl ?_
  refine g_aload_n hC 0 dX9_seat_1 rfl rfl ?_
  refine g_iload_n hC 1 dX9_seat_2 rfl rfl ?_
  refine g_callVi (n := 1) hC [.int a1] 9 9 (by decide) rfl rfl (fun hne => c_X9_isCase hC.2.2.2.2.2.2.2.1 Z M a1 hne) lk_X9_181 mw_X9_isCase.1 mw_X9_isCase.2.1 mw_X9_isCase.2.2.1 mw_X9_isCase.2.2.2 ⟨rfl, by decide, by decide, by decide +kernel⟩ rfl rfl ⟨by decide, by decide⟩ rfl rfl (Nat.le_of_ble_eq_true rfl) (by decide) (by decide) (by decide) dX9_seat_3 (fun x6 M5 => ?_)
  refine g_if_eq (tgt := 23) hC dX9_seat_6 (by decide) (fun _ => ?_) (fun _ => ?_)
  · exact g_X9_seat_b23 hC  M5 a1 a2
  · refine g_iload_n hC 2 dX9_seat_9 rfl rfl ?_
    refine g_iconst hC (v := 0) dX9_seat_10 (by decide) ?_
    refine g_bipush hC (v := 6) dX9_seat_11 (by decide) ?_
    refine g_callSi (n := 3) hC [.int a2, .int 0, .int 6] (fun hne => c_X9_within hC.2.2.2.2.2.2.2.1 Z M5 a2 0 6 hne) lk_X9_148 mw_X9_within.1 mw_X9_within.2.1 mw_X9_within.2.2 ⟨by decide, by decide, by decide +kernel⟩ rfl rfl ⟨by decide, by decide⟩ rfl rfl (Nat.le_of_ble_eq_true rfl) (by decide) (by decide) (by decide) dX9_seat_13 (fun x8 M7 => ?_)
    refine g_if_eq (tgt := 23) hC dX9_seat_16 (by decide) (fun _ => ?_) (fun _ => ?_)
    · exact g_X9_seat_b23 hC  M7 a1 a2
    · refine g_iconst hC (v := 0) dX9_seat_19 (by decide) ?_
      refine g_goto (tgt := 24) hC dX9_seat_20 (by decide) ?_
      exact g_X9_seat_b24 hC  M7 a1 a2 0

-- ===== X9_isExhibit =====
def f_X9_isExhibit (M : gM) (a1 : Int32) : gR := (rb (f_X9_within M a1 0 ((M 9 48) - 1)) (fun x2 M1 => (gZ01 x2 (rRet x2 M1))))
abbrev rm_X9_isExhibit : Room := { frames := 1, cells := 0, slots := 0, locals := 22 }
set_option maxRecDepth 20000 in
set_option maxHeartbeats 4000000 in
theorem c_X9_isExhibit {l : Launch} (hfl : l.stackTraces = false) (Z : gZ) (M : gM) (a1 : Int32) : gMet l yX9_isExhibit cX9_isExhibit 2 (some .boolean) rm_X9_isExhibit 1 0 Z M [.ref (zad Z 9), .int a1] (f_X9_isExhibit M a1) := by
  refine g_enter hfl (by decide) (Nat.le_of_ble_eq_true rfl) (fun p e s m args below meth c hC => ?_)
  refine g_eq (F := f_X9_isExhibit M a1) rfl ?_
  refine g_lv0 (lv1 := [(0, .ref (zad Z 9)), (1, .int a1)]) rfl ?_
  unfold f_X9_isExhibit
  refine g_iload_n hC 1 dX9_isExhibit_0 rfl rfl ?_
  refine g_iconst hC (v := 0) dX9_isExhibit_1 (by decide) ?_
  refine g_aload_n hC 0 dX9_isExhibit_2 rfl rfl ?_
  refine gf_X9_294 hC dX9_isExhibit_3 ?_
  refine g_iconst hC (v := 1) dX9_isExhibit_6 (by decide) ?_
  refine g_isub hC dX9_isExhibit_7 ?_
  refine g_callSi (n := 3) hC [.int a1, .int 0, .int ((M 9 48) - 1)] (fun hne => c_X9_within hC.2.2.2.2.2.2.2.1 Z M a1 0 ((M 9 48) - 1) hne) lk_X9_148 mw_X9_within.1 mw_X9_within.2.1 mw_X9_within.2.2 ⟨by decide, by decide, by decide +kernel⟩ rfl rfl ⟨by decide, by decide⟩ rfl rfl (Nat.le_of_ble_eq_true rfl) (by decide) (by decide) (by decide) dX9_isExhibit_8 (fun x2 M1 => ?_)
  exact g_zret hC rfl (by decide) dX9_isExhibit_11

-- ===== X9_exhibit =====
def f_X9_exhibit_b34  (M : gM) (a2 : Int32) (t1 : Int32) : gR := (rb (f_X9_refused M t1) (fun x2 M1 => (if x2 = 0 then (gI (M1 9 48) 12 (bM (gset M1 143 (M1 9 48).toNatClampNeg a2) (fun M3 => (bM (gset M3 9 48 ((M3 9 48) + 1)) (fun M4 => (rRet ((M4 9 48) - 1) M4)))))) else (rRet 0 M1))))
def f_X9_exhibit_b16  (M : gM) (a2 : Int32)  : gR := (f_X9_exhibit_b34  M a2 1)
def f_X9_exhibit (M : gM) (a1 : Int32) (a2 : Int32) : gR := (rb (f_X9_isCase M a1) (fun x6 M5 => (if x6 = 0 then (f_X9_exhibit_b16  M5 a2 ) else (rb (f_X9_isPerson M5 a2) (fun x8 M7 => (if x8 = 0 then (f_X9_exhibit_b16  M7 a2 ) else (if (M7 9 48) = 12 then (f_X9_exhibit_b34  M7 a2 2) else (f_X9_exhibit_b34  M7 a2 0))))))))
abbrev rm_X9_exhibit : Room := { frames := 2, cells := 0, slots := 0, locals := 43 }
set_option maxRecDepth 20000 in
set_option maxHeartbeats 4000000 in
theorem g_X9_exhibit_b34 {p : Program} {l : Launch} {e : Env} {s : State} {m : MethodId} {args : Array Value} {below : List Frame} {meth : Method} {c : Code} {Z : gZ} (hC : gC p l s m args meth c cX9_exhibit 3 RX9 (some .int) Z)   (M : gM) (a2 : Int32) (t1 : Int32) : gW p l e rm_X9_exhibit s m args below meth c 3 Z 1 0 0 M 34 [(0, .ref (zad Z 9)), (2, .int a2)] [.int t1, .ref (zad Z 9)] (f_X9_exhibit_b34  M a2 t1) := by
  unfold f_X9_exhibit_b34
  refine g_callVi (n := 1) hC [.int t1] 9 9 (by decide) rfl rfl (fun hne => c_X9_refused hC.2.2.2.2.2.2.2.1 Z M t1 hne) lk_X9_155 mw_X9_refused.1 mw_X9_refused.2.1 mw_X9_refused.2.2.1 mw_X9_refused.2.2.2 ⟨rfl, by decide, by decide, by decide +kernel⟩ rfl rfl ⟨by decide, by decide⟩ rfl rfl (Nat.le_of_ble_eq_true rfl) (by decide) (by decide) (by decide) dX9_exhibit_34 (fun x2 M1 => ?_)
  refine g_if_eq (tgt := 42) hC dX9_exhibit_37 (by decide) (fun _ => ?_) (fun _ => ?_)
  · refine g_aload_n hC 0 dX9_exhibit_42 rfl rfl ?_
    refine gf_X9_135 hC dX9_exhibit_43 ?_
    refine g_aload_n hC 0 dX9_exhibit_46 rfl rfl ?_
    refine gf_X9_294 hC dX9_exhibit_47 ?_
    refine g_iload_n hC 1 dX9_exhibit_50 rfl rfl ?_
    refine g_iast hC 143 (by decide) rfl dX9_exhibit_51 (fun M3 => ?_)
    refine g_aload_n hC 0 dX9_exhibit_52 rfl rfl ?_
    refine g_dup hC dX9_exhibit_53 rfl ?_
    refine gf_X9_294 hC dX9_exhibit_54 ?_
    refine g_iconst hC (v := 1) dX9_exhibit_57 (by decide) ?_
    refine g_iadd hC dX9_exhibit_58 ?_
    refine gp_X9_294 hC dX9_exhibit_59 (fun M4 => ?_)
    refine g_aload_n hC 0 dX9_exhibit_62 rfl rfl ?_
    refine gf_X9_294 hC dX9_exhibit_63 ?_
    refine g_iconst hC (v := 1) dX9_exhibit_66 (by decide) ?_
    refine g_isub hC dX9_exhibit_67 ?_
    exact g_iret hC rfl (by decide) dX9_exhibit_68
  · refine g_iconst hC (v := 0) dX9_exhibit_40 (by decide) ?_
    exact g_iret hC rfl (by decide) dX9_exhibit_41
set_option maxRecDepth 20000 in
set_option maxHeartbeats 4000000 in
theorem g_X9_exhibit_b16 {p : Program} {l : Launch} {e : Env} {s : State} {m : MethodId} {args : Array Value} {below : List Frame} {meth : Method} {c : Code} {Z : gZ} (hC : gC p l s m args meth c cX9_exhibit 3 RX9 (some .int) Z)   (M : gM) (a2 : Int32)  : gW p l e rm_X9_exhibit s m args below meth c 3 Z 1 0 0 M 16 [(0, .ref (zad Z 9)), (2, .int a2)] [.ref (zad Z 9)] (f_X9_exhibit_b16  M a2 ) := by
  unfold f_X9_exhibit_b16
  refine g_iconst hC (v := 1) dX9_exhibit_16 (by decide) ?_
  refine g_goto (tgt := 34) hC dX9_exhibit_17 (by decide) ?_
  exact g_X9_exhibit_b34 hC  M a2 1
set_option maxRecDepth 20000 in
set_option maxHeartbeats 4000000 in
theorem c_X9_exhibit {l : Launch} (hfl : l.stackTraces = false) (Z : gZ) (M : gM) (a1 : Int32) (a2 : Int32) : gMet l yX9_exhibit cX9_exhibit 3 (some .int) rm_X9_exhibit 1 0 Z M [.ref (zad Z 9), .int a1, .int a2] (f_X9_exhibit M a1 a2) := by
  refine g_enter hfl (by decide) (Nat.le_of_ble_eq_true rfl) (fun p e s m args below meth c hC => ?_)
  refine g_eq (F := f_X9_exhibit M a1 a2) rfl ?_
  refine g_lv0 (lv1 := [(0, .ref (zad Z 9)), (1, .int a1), (2, .int a2)]) rfl ?_
  unfold f_X9_exhibit
  refine g_aload_n hC 0 dX9_exhibit_0 rfl rfl ?_
  refine g_aload_n hC 0 dX9_exhibit_1 rfl rfl ?_
  refine g_iload_n hC 1 dX9_exhibit_2 rfl rfl ?_
  refine g_callVi (n := 1) hC [.int a1] 9 9 (by decide) rfl rfl (fun hne => c_X9_isCase hC.2.2.2.2.2.2.2.1 Z M a1 hne) lk_X9_181 mw_X9_isCase.1 mw_X9_isCase.2.1 mw_X9_isCase.2.2.1 mw_X9_isCase.2.2.2 ⟨rfl, by decide, by decide, by decide +kernel⟩ rfl rfl ⟨by decide, by decide⟩ rfl rfl (Nat.le_of_ble_eq_true rfl) (by decide) (by decide) (by decide) dX9_exhibit_3 (fun x6 M5 => ?_)
  refine g_if_eq (tgt := 16) hC dX9_exhibit_6 (by decide) (fun _ => ?_) (fun _ => ?_)
  · refine g_sub (lv1 := [(0, .ref (zad Z 9)), (2, .int a2)]) [0, 2] rfl ?_
    exact g_X9_exhibit_b16 hC  M5 a2 
  · refine g_iload_n hC 2 dX9_exhibit_9 rfl rfl ?_
    refine g_callSi (n := 1) hC [.int a2] (fun hne => c_X9_isPerson hC.2.2.2.2.2.2.2.1 Z M5 a2 hne) lk_X9_184 mw_X9_isPerson.1 mw_X9_isPerson.2.1 mw_X9_isPerson.2.2 ⟨by decide, by decide, by decide +kernel⟩ rfl rfl ⟨by decide, by decide⟩ rfl rfl (Nat.le_of_ble_eq_true rfl) (by decide) (by decide) (by decide) dX9_exhibit_10 (fun x8 M7 => ?_)
    refine g_if_ne (tgt := 20) hC dX9_exhibit_13 (by decide) (fun _ => ?_) (fun _ => ?_)
    · refine g_sub (lv1 := [(0, .ref (zad Z 9)), (2, .int a2)]) [0, 2] rfl ?_
      exact g_X9_exhibit_b16 hC  M7 a2 
    · refine g_aload_n hC 0 dX9_exhibit_20 rfl rfl ?_
      refine gf_X9_294 hC dX9_exhibit_21 ?_
      refine g_bipush hC (v := 12) dX9_exhibit_24 (by decide) ?_
      refine g_icmp_ne (tgt := 33) hC dX9_exhibit_26 (by decide) (fun _ => ?_) (fun _ => ?_)
      · refine g_iconst hC (v := 2) dX9_exhibit_29 (by decide) ?_
        refine g_goto (tgt := 34) hC dX9_exhibit_30 (by decide) ?_
        refine g_sub (lv1 := [(0, .ref (zad Z 9)), (2, .int a2)]) [0, 2] rfl ?_
        exact g_X9_exhibit_b34 hC  M7 a2 2
      · refine g_iconst hC (v := 0) dX9_exhibit_33 (by decide) ?_
        refine g_sub (lv1 := [(0, .ref (zad Z 9)), (2, .int a2)]) [0, 2] rfl ?_
        exact g_X9_exhibit_b34 hC  M7 a2 0

-- ===== X9_hand =====
def f_X9_hand_b65  (M : gM) (a1 : Int32) (a3 : Int32) (t1 : Int32) (t2 : Int32) : gR := (gZ01 t2 (gI t1 12 (bM (gset M 144 t1.toNatClampNeg t2) (fun M1 => (gI a1 12 (bM (gset M1 143 a1.toNatClampNeg a3) (fun M2 => (gI a1 12 (if (M2 144 a1.toNatClampNeg) = 0 then (rRet 1 M2) else (rRet 0 M2))))))))))
def f_X9_hand_b60  (M : gM) (a1 : Int32) (a3 : Int32) (t1 : Int32) : gR := (f_X9_hand_b65  M a1 a3 t1 1)
def f_X9_hand_b28  (M : gM) (a1 : Int32) (a2 : Int32) (a3 : Int32) (t1 : Int32) : gR := (rb (f_X9_refused M t1) (fun x4 M3 => (if x4 = 0 then (gI a1 12 (if (M3 144 a1.toNatClampNeg) = 0 then (gI a1 12 (if (M3 143 a1.toNatClampNeg) = a2 then (f_X9_hand_b65  M3 a1 a3 a1 0) else (f_X9_hand_b60  M3 a1 a3 a1))) else (f_X9_hand_b60  M3 a1 a3 a1))) else (rRet 0 M3))))
def f_X9_hand_b27  (M : gM) (a1 : Int32) (a2 : Int32) (a3 : Int32)  : gR := (f_X9_hand_b28  M a1 a2 a3 1)
def f_X9_hand (M : gM) (a1 : Int32) (a2 : Int32) (a3 : Int32) : gR := (rb (f_X9_isExhibit M a1) (fun x6 M5 => (if x6 = 0 then (f_X9_hand_b27  M5 a1 a2 a3 ) else (rb (f_X9_isPerson M5 a2) (fun x8 M7 => (if x8 = 0 then (f_X9_hand_b27  M7 a1 a2 a3 ) else (rb (f_X9_isPerson M7 a3) (fun x10 M9 => (if x10 = 0 then (f_X9_hand_b27  M9 a1 a2 a3 ) else (f_X9_hand_b28  M9 a1 a2 a3 0))))))))))
abbrev rm_X9_hand : Room := { frames := 2, cells := 0, slots := 0, locals := 43 }
set_option maxRecDepth 20000 in
set_option maxHeartbeats 4000000 in
theorem g_X9_hand_b65 {p : Program} {l : Launch} {e : Env} {s : State} {m : MethodId} {args : Array Value} {below : List Frame} {meth : Method} {c : Code} {Z : gZ} (hC : gC p l s m args meth c cX9_hand 4 RX9 (some .boolean) Z)   (M : gM) (a1 : Int32) (a3 : Int32) (t1 : Int32) (t2 : Int32) : gW p l e rm_X9_hand s m args below meth c 4 Z 1 0 0 M 65 [(0, .ref (zad Z 9)), (1, .int a1), (3, .int a3)] [.int t2, .int t1, .ref (zad Z 144)] (f_X9_hand_b65  M a1 a3 t1 t2) := by
  unfold f_X9_hand_b65
  refine g_zast hC 144 (by decide) rfl dX9_hand_65 (fun M1 => ?_)
  refine g_aload_n hC 0 dX9_hand_66 rfl rfl ?_
  refine gf_X9_135 hC dX9_hand_67 ?_
  refine g_iload_n hC 1 dX9_hand_70 rfl rfl ?_
  refine g_iload_n hC 2 dX9_hand_71 rfl rfl ?_
  refine g_iast hC 143 (by decide) rfl dX9_hand_72 (fun M2 => ?_)
  refine g_aload_n hC 0 dX9_hand_73 rfl rfl ?_
  refine gf_X9_138 hC dX9_hand_74 ?_
  refine g_iload_n hC 1 dX9_hand_77 rfl rfl ?_
  refine g_zald hC 144 (by decide) rfl dX9_hand_78 ?_
  refine g_if_ne (tgt := 86) hC dX9_hand_79 (by decide) (fun _ => ?_) (fun _ => ?_)
  · refine g_iconst hC (v := 1) dX9_hand_82 (by decide) ?_
    refine g_goto (tgt := 87) hC dX9_hand_83 (by decide) ?_
    exact g_zret1 hC rfl (by decide) dX9_hand_87
  · refine g_iconst hC (v := 0) dX9_hand_86 (by decide) ?_
    exact g_zret0 hC rfl (by decide) dX9_hand_87
set_option maxRecDepth 20000 in
set_option maxHeartbeats 4000000 in
theorem g_X9_hand_b60 {p : Program} {l : Launch} {e : Env} {s : State} {m : MethodId} {args : Array Value} {below : List Frame} {meth : Method} {c : Code} {Z : gZ} (hC : gC p l s m args meth c cX9_hand 4 RX9 (some .boolean) Z)   (M : gM) (a1 : Int32) (a3 : Int32) (t1 : Int32) : gW p l e rm_X9_hand s m args below meth c 4 Z 1 0 0 M 60 [(0, .ref (zad Z 9)), (1, .int a1), (3, .int a3)] [.int t1, .ref (zad Z 144)] (f_X9_hand_b60  M a1 a3 t1) := by
  unfold f_X9_hand_b60
  refine g_iconst hC (v := 1) dX9_hand_60 (by decide) ?_
  refine g_goto (tgt := 65) hC dX9_hand_61 (by decide) ?_
  exact g_X9_hand_b65 hC  M a1 a3 t1 1
set_option maxRecDepth 20000 in
set_option maxHeartbeats 4000000 in
theorem g_X9_hand_b28 {p : Program} {l : Launch} {e : Env} {s : State} {m : MethodId} {args : Array Value} {below : List Frame} {meth : Method} {c : Code} {Z : gZ} (hC : gC p l s m args meth c cX9_hand 4 RX9 (some .boolean) Z)   (M : gM) (a1 : Int32) (a2 : Int32) (a3 : Int32) (t1 : Int32) : gW p l e rm_X9_hand s m args below meth c 4 Z 1 0 0 M 28 [(0, .ref (zad Z 9)), (1, .int a1), (2, .int a2), (3, .int a3)] [.int t1, .ref (zad Z 9)] (f_X9_hand_b28  M a1 a2 a3 t1) := by
  unfold f_X9_hand_b28
  refine g_callVi (n := 1) hC [.int t1] 9 9 (by decide) rfl rfl (fun hne => c_X9_refused hC.2.2.2.2.2.2.2.1 Z M t1 hne) lk_X9_155 mw_X9_refused.1 mw_X9_refused.2.1 mw_X9_refused.2.2.1 mw_X9_refused.2.2.2 ⟨rfl, by decide, by decide, by decide +kernel⟩ rfl rfl ⟨by decide, by decide⟩ rfl rfl (Nat.le_of_ble_eq_true rfl) (by decide) (by decide) (by decide) dX9_hand_28 (fun x4 M3 => ?_)
  refine g_if_eq (tgt := 36) hC dX9_hand_31 (by decide) (fun _ => ?_) (fun _ => ?_)
  · refine g_aload_n hC 0 dX9_hand_36 rfl rfl ?_
    refine gf_X9_138 hC dX9_hand_37 ?_
    refine g_iload_n hC 1 dX9_hand_40 rfl rfl ?_
    refine g_aload_n hC 0 dX9_hand_41 rfl rfl ?_
    refine gf_X9_138 hC dX9_hand_42 ?_
    refine g_iload_n hC 1 dX9_hand_45 rfl rfl ?_
    refine g_zald hC 144 (by decide) rfl dX9_hand_46 ?_
    refine g_if_ne (tgt := 60) hC dX9_hand_47 (by decide) (fun _ => ?_) (fun _ => ?_)
    · refine g_aload_n hC 0 dX9_hand_50 rfl rfl ?_
      refine gf_X9_135 hC dX9_hand_51 ?_
      refine g_iload_n hC 1 dX9_hand_54 rfl rfl ?_
      refine g_iald hC 143 (by decide) rfl dX9_hand_55 ?_
      refine g_iload_n hC 2 dX9_hand_56 rfl rfl ?_
      refine g_icmp_eq (tgt := 64) hC dX9_hand_57 (by decide) (fun _ => ?_) (fun _ => ?_)
      · refine g_iconst hC (v := 0) dX9_hand_64 (by decide) ?_
        refine g_sub (lv1 := [(0, .ref (zad Z 9)), (1, .int a1), (3, .int a3)]) [0, 1, 3] rfl ?_
        exact g_X9_hand_b65 hC  M3 a1 a3 a1 0
      · refine g_sub (lv1 := [(0, .ref (zad Z 9)), (1, .int a1), (3, .int a3)]) [0, 1, 3] rfl ?_
        exact g_X9_hand_b60 hC  M3 a1 a3 a1
    · refine g_sub (lv1 := [(0, .ref (zad Z 9)), (1, .int a1), (3, .int a3)]) [0, 1, 3] rfl ?_
      exact g_X9_hand_b60 hC  M3 a1 a3 a1
  · refine g_iconst hC (v := 0) dX9_hand_34 (by decide) ?_
    exact g_zret0 hC rfl (by decide) dX9_hand_35
set_option maxRecDepth 20000 in
set_option maxHeartbeats 4000000 in
theorem g_X9_hand_b27 {p : Program} {l : Launch} {e : Env} {s : State} {m : MethodId} {args : Array Value} {below : List Frame} {meth : Method} {c : Code} {Z : gZ} (hC : gC p l s m args meth c cX9_hand 4 RX9 (some .boolean) Z)   (M : gM) (a1 : Int32) (a2 : Int32) (a3 : Int32)  : gW p l e rm_X9_hand s m args below meth c 4 Z 1 0 0 M 27 [(0, .ref (zad Z 9)), (1, .int a1), (2, .int a2), (3, .int a3)] [.ref (zad Z 9)] (f_X9_hand_b27  M a1 a2 a3 ) := by
  unfold f_X9_hand_b27
  refine g_iconst hC (v := 1) dX9_hand_27 (by decide) ?_
  exact g_X9_hand_b28 hC  M a1 a2 a3 1
set_option maxRecDepth 20000 in
set_option maxHeartbeats 4000000 in
theorem c_X9_hand {l : Launch} (hfl : l.stackTraces = false) (Z : gZ) (M : gM) (a1 : Int32) (a2 : Int32) (a3 : Int32) : gMet l yX9_hand cX9_hand 4 (some .boolean) rm_X9_hand 1 0 Z M [.ref (zad Z 9), .int a1, .int a2, .int a3] (f_X9_hand M a1 a2 a3) := by
  refine g_enter hfl (by decide) (Nat.le_of_ble_eq_true rfl) (fun p e s m args below meth c hC => ?_)
  refine g_eq (F := f_X9_hand M a1 a2 a3) rfl ?_
  refine g_lv0 (lv1 := [(0, .ref (zad Z 9)), (1, .int a1), (2, .int a2), (3, .int a3)]) rfl ?_
  unfold f_X9_hand
  refine g_aload_n hC 0 dX9_hand_0 rfl rfl ?_
  refine g_aload_n hC 0 dX9_hand_1 rfl rfl ?_
  refine g_iload_n hC 1 dX9_hand_2 rfl rfl ?_
  refine g_callVi (n := 1) hC [.int a1] 9 9 (by decide) rfl rfl (fun hne => c_X9_isExhibit hC.2.2.2.2.2.2.2.1 Z M a1 hne) lk_X9_297 mw_X9_isExhibit.1 mw_X9_isExhibit.2.1 mw_X9_isExhibit.2.2.1 mw_X9_isExhibit.2.2.2 ⟨rfl, by decide, by decide, by decide +kernel⟩ rfl rfl ⟨by decide, by decide⟩ rfl rfl (Nat.le_of_ble_eq_true rfl) (by decide) (by decide) (by decide) dX9_hand_3 (fun x6 M5 => ?_)
  refine g_if_eq (tgt := 27) hC dX9_hand_6 (by decide) (fun _ => ?_) (fun _ => ?_)
  · exact g_X9_hand_b27 hC  M5 a1 a2 a3
  · refine g_iload_n hC 2 dX9_hand_9 rfl rfl ?_
    refine g_callSi (n := 1) hC [.int a2] (fun hne => c_X9_isPerson hC.2.2.2.2.2.2.2.1 Z M5 a2 hne) lk_X9_184 mw_X9_isPerson.1 mw_X9_isPerson.2.1 mw_X9_isPerson.2.2 ⟨by decide, by decide, by decide +kernel⟩ rfl rfl ⟨by decide, by decide⟩ rfl rfl (Nat.le_of_ble_eq_true rfl) (by decide) (by decide) (by decide) dX9_hand_10 (fun x8 M7 => ?_)
    refine g_if_eq (tgt := 27) hC dX9_hand_13 (by decide) (fun _ => ?_) (fun _ => ?_)
    · exact g_X9_hand_b27 hC  M7 a1 a2 a3
    · refine g_iload_n hC 3 dX9_hand_16 rfl rfl ?_
      refine g_callSi (n := 1) hC [.int a3] (fun hne => c_X9_isPerson hC.2.2.2.2.2.2.2.1 Z M7 a3 hne) lk_X9_184 mw_X9_isPerson.1 mw_X9_isPerson.2.1 mw_X9_isPerson.2.2 ⟨by decide, by decide, by decide +kernel⟩ rfl rfl ⟨by decide, by decide⟩ rfl rfl (Nat.le_of_ble_eq_true rfl) (by decide) (by decide) (by decide) dX9_hand_17 (fun x10 M9 => ?_)
      refine g_if_eq (tgt := 27) hC dX9_hand_20 (by decide) (fun _ => ?_) (fun _ => ?_)
      · exact g_X9_hand_b27 hC  M9 a1 a2 a3
      · refine g_iconst hC (v := 0) dX9_hand_23 (by decide) ?_
        refine g_goto (tgt := 28) hC dX9_hand_24 (by decide) ?_
        exact g_X9_hand_b28 hC  M9 a1 a2 a3 0

-- ===== X9_object =====
def f_X9_object_b50  (M : gM) (a1 : Int32) (a2 : Int32) (t1 : Int32) : gR := (rb (f_X9_refused M t1) (fun x2 M1 => (if x2 = 0 then (gI ((2 * a1) + a2) 24 (bM (gset M1 145 ((2 * a1) + a2).toNatClampNeg 1) (fun M3 => (rRet 0 M3)))) else (rRet 0 M1))))
def f_X9_object_b22  (M : gM) (a1 : Int32) (a2 : Int32) (t0 : Int32) : gR := (if t0 = 0 then (f_X9_object_b50  M a1 a2 1) else (gI ((2 * a1) + a2) 24 (if (M 145 ((2 * a1) + a2).toNatClampNeg) = 0 then (f_X9_object_b50  M a1 a2 0) else (f_X9_object_b50  M a1 a2 2))))
def f_X9_object_b21  (M : gM) (a1 : Int32) (a2 : Int32)  : gR := (f_X9_object_b22  M a1 a2 0)
def f_X9_object (M : gM) (a1 : Int32) (a2 : Int32) : gR := (rb (f_X9_isExhibit M a1) (fun x5 M4 => (if x5 = 0 then (f_X9_object_b21  M4 a1 a2 ) else (rb (f_X9_within M4 a2 0 1) (fun x7 M6 => (if x7 = 0 then (f_X9_object_b21  M6 a1 a2 ) else (f_X9_object_b22  M6 a1 a2 1)))))))
abbrev rm_X9_object : Room := { frames := 2, cells := 0, slots := 0, locals := 43 }
set_option maxRecDepth 20000 in
set_option maxHeartbeats 4000000 in
theorem g_X9_object_b50 {p : Program} {l : Launch} {e : Env} {s : State} {m : MethodId} {args : Array Value} {below : List Frame} {meth : Method} {c : Code} {Z : gZ} (hC : gC p l s m args meth c cX9_object 4 RX9 none Z)   (M : gM) (a1 : Int32) (a2 : Int32) (t1 : Int32) : gW p l e rm_X9_object s m args below meth c 4 Z 0 0 0 M 50 [(0, .ref (zad Z 9)), (1, .int a1), (2, .int a2)] [.int t1, .ref (zad Z 9)] (f_X9_object_b50  M a1 a2 t1) := by
  unfold f_X9_object_b50
  refine g_callVi (n := 1) hC [.int t1] 9 9 (by decide) rfl rfl (fun hne => c_X9_refused hC.2.2.2.2.2.2.2.1 Z M t1 hne) lk_X9_155 mw_X9_refused.1 mw_X9_refused.2.1 mw_X9_refused.2.2.1 mw_X9_refused.2.2.2 ⟨rfl, by decide, by decide, by decide +kernel⟩ rfl rfl ⟨by decide, by decide⟩ rfl rfl (Nat.le_of_ble_eq_true rfl) (by decide) (by decide) (by decide) dX9_object_50 (fun x2 M1 => ?_)
  refine g_if_ne (tgt := 67) hC dX9_object_53 (by decide) (fun _ => ?_) (fun _ => ?_)
  · refine g_aload_n hC 0 dX9_object_56 rfl rfl ?_
    refine gf_X9_141 hC dX9_object_57 ?_
    refine g_iconst hC (v := 2) dX9_object_60 (by decide) ?_
    refine g_iload_n hC 1 dX9_object_61 rfl rfl ?_
    refine g_imul hC dX9_object_62 ?_
    refine g_iload_n hC 2 dX9_object_63 rfl rfl ?_
    refine g_iadd hC dX9_object_64 ?_
    refine g_iconst hC (v := 1) dX9_object_65 (by decide) ?_
    refine g_iast hC 145 (by decide) rfl dX9_object_66 (fun M3 => ?_)
    exact g_vret hC rfl (by decide) dX9_object_67
  · exact g_vret hC rfl (by decide) dX9_object_67
set_option maxRecDepth 20000 in
set_option maxHeartbeats 4000000 in
theorem g_X9_object_b22 {p : Program} {l : Launch} {e : Env} {s : State} {m : MethodId} {args : Array Value} {below : List Frame} {meth : Method} {c : Code} {Z : gZ} (hC : gC p l s m args meth c cX9_object 4 RX9 none Z)   (M : gM) (a1 : Int32) (a2 : Int32) (t0 : Int32) : gW p l e rm_X9_object s m args below meth c 4 Z 0 0 0 M 22 [(0, .ref (zad Z 9)), (1, .int a1), (2, .int a2)] [.int t0] (f_X9_object_b22  M a1 a2 t0) := by
  unfold f_X9_object_b22
  refine g_istore_n hC (lv1 := [(3, .int t0), (0, .ref (zad Z 9)), (1, .int a1), (2, .int a2)]) dX9_object_22 rfl (by decide) rfl ?_
  refine g_aload_n hC 1 dX9_object_23 rfl rfl ?_
  refine g_iload_n hC 0 dX9_object_24 rfl rfl ?_
  refine g_if_ne (tgt := 32) hC dX9_object_25 (by decide) (fun _ => ?_) (fun _ => ?_)
  · refine g_iconst hC (v := 1) dX9_object_28 (by decide) ?_
    refine g_goto (tgt := 50) hC dX9_object_29 (by decide) ?_
    refine g_sub (lv1 := [(0, .ref (zad Z 9)), (1, .int a1), (2, .int a2)]) [1, 2, 3] rfl ?_
    exact g_X9_object_b50 hC  M a1 a2 1
  · refine g_aload_n hC 1 dX9_object_32 rfl rfl ?_
    refine gf_X9_141 hC dX9_object_33 ?_
    refine g_iconst hC (v := 2) dX9_object_36 (by decide) ?_
    refine g_iload_n hC 2 dX9_object_37 rfl rfl ?_
    refine g_imul hC dX9_object_38 ?_
    refine g_iload_n hC 3 dX9_object_39 rfl rfl ?_
    refine g_iadd hC dX9_object_40 ?_
    refine g_iald hC 145 (by decide) rfl dX9_object_41 ?_
    refine g_if_eq (tgt := 49) hC dX9_object_42 (by decide) (fun _ => ?_) (fun _ => ?_)
    · refine g_iconst hC (v := 0) dX9_object_49 (by decide) ?_
      refine g_sub (lv1 := [(0, .ref (zad Z 9)), (1, .int a1), (2, .int a2)]) [1, 2, 3] rfl ?_
      exact g_X9_object_b50 hC  M a1 a2 0
    · refine g_iconst hC (v := 2) dX9_object_45 (by decide) ?_
      refine g_goto (tgt := 50) hC dX9_object_46 (by decide) ?_
      refine g_sub (lv1 := [(0, .ref (zad Z 9)), (1, .int a1), (2, .int a2)]) [1, 2, 3] rfl ?_
      exact g_X9_object_b50 hC  M a1 a2 2
set_option maxRecDepth 20000 in
set_option maxHeartbeats 4000000 in
theorem g_X9_object_b21 {p : Program} {l : Launch} {e : Env} {s : State} {m : MethodId} {args : Array Value} {below : List Frame} {meth : Method} {c : Code} {Z : gZ} (hC : gC p l s m args meth c cX9_object 4 RX9 none Z)   (M : gM) (a1 : Int32) (a2 : Int32)  : gW p l e rm_X9_object s m args below meth c 4 Z 0 0 0 M 21 [(0, .ref (zad Z 9)), (1, .int a1), (2, .int a2)] [] (f_X9_object_b21  M a1 a2 ) := by
  unfold f_X9_object_b21
  refine g_iconst hC (v := 0) dX9_object_21 (by decide) ?_
  exact g_X9_object_b22 hC  M a1 a2 0
set_option maxRecDepth 20000 in
set_option maxHeartbeats 4000000 in
theorem c_X9_object {l : Launch} (hfl : l.stackTraces = false) (Z : gZ) (M : gM) (a1 : Int32) (a2 : Int32) : gMet l yX9_object cX9_object 4 none rm_X9_object 0 0 Z M [.ref (zad Z 9), .int a1, .int a2] (f_X9_object M a1 a2) := by
  refine g_enter hfl (by decide) (Nat.le_of_ble_eq_true rfl) (fun p e s m args below meth c hC => ?_)
  refine g_eq (F := f_X9_object M a1 a2) rfl ?_
  refine g_lv0 (lv1 := [(0, .ref (zad Z 9)), (1, .int a1), (2, .int a2)]) rfl ?_
  unfold f_X9_object
  refine g_aload_n hC 0 dX9_object_0 rfl rfl ?_
  refine g_iload_n hC 1 dX9_object_1 rfl rfl ?_
  refine g_callVi (n := 1) hC [.int a1] 9 9 (by decide) rfl rfl (fun hne => c_X9_isExhibit hC.2.2.2.2.2.2.2.1 Z M a1 hne) lk_X9_297 mw_X9_isExhibit.1 mw_X9_isExhibit.2.1 mw_X9_isExhibit.2.2.1 mw_X9_isExhibit.2.2.2 ⟨rfl, by decide, by decide, by decide +kernel⟩ rfl rfl ⟨by decide, by decide⟩ rfl rfl (Nat.le_of_ble_eq_true rfl) (by decide) (by decide) (by decide) dX9_object_2 (fun x5 M4 => ?_)
  refine g_if_eq (tgt := 21) hC dX9_object_5 (by decide) (fun _ => ?_) (fun _ => ?_)
  · exact g_X9_object_b21 hC  M4 a1 a2
  · refine g_iload_n hC 2 dX9_object_8 rfl rfl ?_
    refine g_iconst hC (v := 0) dX9_object_9 (by decide) ?_
    refine g_iconst hC (v := 1) dX9_object_10 (by decide) ?_
    refine g_callSi (n := 3) hC [.int a2, .int 0, .int 1] (fun hne => c_X9_within hC.2.2.2.2.2.2.2.1 Z M4 a2 0 1 hne) lk_X9_148 mw_X9_within.1 mw_X9_within.2.1 mw_X9_within.2.2 ⟨by decide, by decide, by decide +kernel⟩ rfl rfl ⟨by decide, by decide⟩ rfl rfl (Nat.le_of_ble_eq_true rfl) (by decide) (by decide) (by decide) dX9_object_11 (fun x7 M6 => ?_)
    refine g_if_eq (tgt := 21) hC dX9_object_14 (by decide) (fun _ => ?_) (fun _ => ?_)
    · exact g_X9_object_b21 hC  M6 a1 a2
    · refine g_iconst hC (v := 1) dX9_object_17 (by decide) ?_
      refine g_goto (tgt := 22) hC dX9_object_18 (by decide) ?_
      exact g_X9_object_b22 hC  M6 a1 a2 1

-- ===== X9_sustain =====
def f_X9_sustain_b53  (M : gM) (a1 : Int32) (a2 : Int32) (a3 : Int32) (t1 : Int32) : gR := (rb (f_X9_refused M t1) (fun x2 M1 => (if x2 = 0 then (if a3 = 0 then (gI ((2 * a1) + a2) 24 (bM (gset M1 145 ((2 * a1) + a2).toNatClampNeg 3) (fun M3 => (rRet 0 M3)))) else (gI ((2 * a1) + a2) 24 (bM (gset M1 145 ((2 * a1) + a2).toNatClampNeg 2) (fun M4 => (rRet 0 M4))))) else (rRet 0 M1))))
def f_X9_sustain_b22  (M : gM) (a1 : Int32) (a2 : Int32) (a3 : Int32) (t0 : Int32) : gR := (if t0 = 0 then (f_X9_sustain_b53  M a1 a2 a3 1) else (gI ((2 * a1) + a2) 24 (if (M 145 ((2 * a1) + a2).toNatClampNeg) = 1 then (f_X9_sustain_b53  M a1 a2 a3 0) else (f_X9_sustain_b53  M a1 a2 a3 2))))
def f_X9_sustain_b21  (M : gM) (a1 : Int32) (a2 : Int32) (a3 : Int32)  : gR := (f_X9_sustain_b22  M a1 a2 a3 0)
def f_X9_sustain (M : gM) (a1 : Int32) (a2 : Int32) (a3 : Int32) : gR := (rb (f_X9_isExhibit M a1) (fun x6 M5 => (if x6 = 0 then (f_X9_sustain_b21  M5 a1 a2 a3 ) else (rb (f_X9_within M5 a2 0 1) (fun x8 M7 => (if x8 = 0 then (f_X9_sustain_b21  M7 a1 a2 a3 ) else (f_X9_sustain_b22  M7 a1 a2 a3 1)))))))
abbrev rm_X9_sustain : Room := { frames := 2, cells := 0, slots := 0, locals := 43 }
set_option maxRecDepth 20000 in
set_option maxHeartbeats 4000000 in
theorem g_X9_sustain_b53 {p : Program} {l : Launch} {e : Env} {s : State} {m : MethodId} {args : Array Value} {below : List Frame} {meth : Method} {c : Code} {Z : gZ} (hC : gC p l s m args meth c cX9_sustain 5 RX9 none Z)   (M : gM) (a1 : Int32) (a2 : Int32) (a3 : Int32) (t1 : Int32) : gW p l e rm_X9_sustain s m args below meth c 5 Z 0 0 0 M 53 [(0, .ref (zad Z 9)), (1, .int a1), (2, .int a2), (3, .int a3)] [.int t1, .ref (zad Z 9)] (f_X9_sustain_b53  M a1 a2 a3 t1) := by
  unfold f_X9_sustain_b53
  refine g_callVi (n := 1) hC [.int t1] 9 9 (by decide) rfl rfl (fun hne => c_X9_refused hC.2.2.2.2.2.2.2.1 Z M t1 hne) lk_X9_155 mw_X9_refused.1 mw_X9_refused.2.1 mw_X9_refused.2.2.1 mw_X9_refused.2.2.2 ⟨rfl, by decide, by decide, by decide +kernel⟩ rfl rfl ⟨by decide, by decide⟩ rfl rfl (Nat.le_of_ble_eq_true rfl) (by decide) (by decide) (by decide) dX9_sustain_53 (fun x2 M1 => ?_)
  refine g_if_ne (tgt := 78) hC dX9_sustain_56 (by decide) (fun _ => ?_) (fun _ => ?_)
  · refine g_aload_n hC 0 dX9_sustain_59 rfl rfl ?_
    refine gf_X9_141 hC dX9_sustain_60 ?_
    refine g_iconst hC (v := 2) dX9_sustain_63 (by decide) ?_
    refine g_iload_n hC 1 dX9_sustain_64 rfl rfl ?_
    refine g_imul hC dX9_sustain_65 ?_
    refine g_iload_n hC 2 dX9_sustain_66 rfl rfl ?_
    refine g_iadd hC dX9_sustain_67 ?_
    refine g_iload_n hC 3 dX9_sustain_68 rfl rfl ?_
    refine g_if_eq (tgt := 76) hC dX9_sustain_69 (by decide) (fun _ => ?_) (fun _ => ?_)
    · refine g_iconst hC (v := 3) dX9_sustain_76 (by decide) ?_
      refine g_iast hC 145 (by decide) rfl dX9_sustain_77 (fun M3 => ?_)
      exact g_vret hC rfl (by decide) dX9_sustain_78
    · refine g_iconst hC (v := 2) dX9_sustain_72 (by decide) ?_
      refine g_goto (tgt := 77) hC dX9_sustain_73 (by decide) ?_
      refine g_iast hC 145 (by decide) rfl dX9_sustain_77 (fun M4 => ?_)
      exact g_vret hC rfl (by decide) dX9_sustain_78
  · exact g_vret hC rfl (by decide) dX9_sustain_78
set_option maxRecDepth 20000 in
set_option maxHeartbeats 4000000 in
theorem g_X9_sustain_b22 {p : Program} {l : Launch} {e : Env} {s : State} {m : MethodId} {args : Array Value} {below : List Frame} {meth : Method} {c : Code} {Z : gZ} (hC : gC p l s m args meth c cX9_sustain 5 RX9 none Z)   (M : gM) (a1 : Int32) (a2 : Int32) (a3 : Int32) (t0 : Int32) : gW p l e rm_X9_sustain s m args below meth c 5 Z 0 0 0 M 22 [(0, .ref (zad Z 9)), (1, .int a1), (2, .int a2), (3, .int a3)] [.int t0] (f_X9_sustain_b22  M a1 a2 a3 t0) := by
  unfold f_X9_sustain_b22
  refine g_istore hC (lv1 := [(4, .int t0), (0, .ref (zad Z 9)), (1, .int a1), (2, .int a2), (3, .int a3)]) dX9_sustain_22 (by decide) rfl ?_
  refine g_aload_n hC 1 dX9_sustain_24 rfl rfl ?_
  refine g_iload hC 0 dX9_sustain_25 rfl ?_
  refine g_if_ne (tgt := 34) hC dX9_sustain_27 (by decide) (fun _ => ?_) (fun _ => ?_)
  · refine g_iconst hC (v := 1) dX9_sustain_30 (by decide) ?_
    refine g_goto (tgt := 53) hC dX9_sustain_31 (by decide) ?_
    refine g_sub (lv1 := [(0, .ref (zad Z 9)), (1, .int a1), (2, .int a2), (3, .int a3)]) [1, 2, 3, 4] rfl ?_
    exact g_X9_sustain_b53 hC  M a1 a2 a3 1
  · refine g_aload_n hC 1 dX9_sustain_34 rfl rfl ?_
    refine gf_X9_141 hC dX9_sustain_35 ?_
    refine g_iconst hC (v := 2) dX9_sustain_38 (by decide) ?_
    refine g_iload_n hC 2 dX9_sustain_39 rfl rfl ?_
    refine g_imul hC dX9_sustain_40 ?_
    refine g_iload_n hC 3 dX9_sustain_41 rfl rfl ?_
    refine g_iadd hC dX9_sustain_42 ?_
    refine g_iald hC 145 (by decide) rfl dX9_sustain_43 ?_
    refine g_iconst hC (v := 1) dX9_sustain_44 (by decide) ?_
    refine g_icmp_eq (tgt := 52) hC dX9_sustain_45 (by decide) (fun _ => ?_) (fun _ => ?_)
    · refine g_iconst hC (v := 0) dX9_sustain_52 (by decide) ?_
      refine g_sub (lv1 := [(0, .ref (zad Z 9)), (1, .int a1), (2, .int a2), (3, .int a3)]) [1, 2, 3, 4] rfl ?_
      exact g_X9_sustain_b53 hC  M a1 a2 a3 0
    · refine g_iconst hC (v := 2) dX9_sustain_48 (by decide) ?_
      refine g_goto (tgt := 53) hC dX9_sustain_49 (by decide) ?_
      refine g_sub (lv1 := [(0, .ref (zad Z 9)), (1, .int a1), (2, .int a2), (3, .int a3)]) [1, 2, 3, 4] rfl ?_
      exact g_X9_sustain_b53 hC  M a1 a2 a3 2
set_option maxRecDepth 20000 in
set_option maxHeartbeats 4000000 in
theorem g_X9_sustain_b21 {p : Program} {l : Launch} {e : Env} {s : State} {m : MethodId} {args : Array Value} {below : List Frame} {meth : Method} {c : Code} {Z : gZ} (hC : gC p l s m args meth c cX9_sustain 5 RX9 none Z)   (M : gM) (a1 : Int32) (a2 : Int32) (a3 : Int32)  : gW p l e rm_X9_sustain s m args below meth c 5 Z 0 0 0 M 21 [(0, .ref (zad Z 9)), (1, .int a1), (2, .int a2), (3, .int a3)] [] (f_X9_sustain_b21  M a1 a2 a3 ) := by
  unfold f_X9_sustain_b21
  refine g_iconst hC (v := 0) dX9_sustain_21 (by decide) ?_
  exact g_X9_sustain_b22 hC  M a1 a2 a3 0
set_option maxRecDepth 20000 in
set_option maxHeartbeats 4000000 in
theorem c_X9_sustain {l : Launch} (hfl : l.stackTraces = false) (Z : gZ) (M : gM) (a1 : Int32) (a2 : Int32) (a3 : Int32) : gMet l yX9_sustain cX9_sustain 5 none rm_X9_sustain 0 0 Z M [.ref (zad Z 9), .int a1, .int a2, .int a3] (f_X9_sustain M a1 a2 a3) := by
  refine g_enter hfl (by decide) (Nat.le_of_ble_eq_true rfl) (fun p e s m args below meth c hC => ?_)
  refine g_eq (F := f_X9_sustain M a1 a2 a3) rfl ?_
  refine g_lv0 (lv1 := [(0, .ref (zad Z 9)), (1, .int a1), (2, .int a2), (3, .int a3)]) rfl ?_
  unfold f_X9_sustain
  refine g_aload_n hC 0 dX9_sustain_0 rfl rfl ?_
  refine g_iload_n hC 1 dX9_sustain_1 rfl rfl ?_
  refine g_callVi (n := 1) hC [.int a1] 9 9 (by decide) rfl rfl (fun hne => c_X9_isExhibit hC.2.2.2.2.2.2.2.1 Z M a1 hne) lk_X9_297 mw_X9_isExhibit.1 mw_X9_isExhibit.2.1 mw_X9_isExhibit.2.2.1 mw_X9_isExhibit.2.2.2 ⟨rfl, by decide, by decide, by decide +kernel⟩ rfl rfl ⟨by decide, by decide⟩ rfl rfl (Nat.le_of_ble_eq_true rfl) (by decide) (by decide) (by decide) dX9_sustain_2 (fun x6 M5 => ?_)
  refine g_if_eq (tgt := 21) hC dX9_sustain_5 (by decide) (fun _ => ?_) (fun _ => ?_)
  · exact g_X9_sustain_b21 hC  M5 a1 a2 a3
  · refine g_iload_n hC 2 dX9_sustain_8 rfl rfl ?_
    refine g_iconst hC (v := 0) dX9_sustain_9 (by decide) ?_
    refine g_iconst hC (v := 1) dX9_sustain_10 (by decide) ?_
    refine g_callSi (n := 3) hC [.int a2, .int 0, .int 1] (fun hne => c_X9_within hC.2.2.2.2.2.2.2.1 Z M5 a2 0 1 hne) lk_X9_148 mw_X9_within.1 mw_X9_within.2.1 mw_X9_within.2.2 ⟨by decide, by decide, by decide +kernel⟩ rfl rfl ⟨by decide, by decide⟩ rfl rfl (Nat.le_of_ble_eq_true rfl) (by decide) (by decide) (by decide) dX9_sustain_11 (fun x8 M7 => ?_)
    refine g_if_eq (tgt := 21) hC dX9_sustain_14 (by decide) (fun _ => ?_) (fun _ => ?_)
    · exact g_X9_sustain_b21 hC  M7 a1 a2 a3
    · refine g_iconst hC (v := 1) dX9_sustain_17 (by decide) ?_
      refine g_goto (tgt := 22) hC dX9_sustain_18 (by decide) ?_
      exact g_X9_sustain_b22 hC  M7 a1 a2 a3 1

-- ===== X9_isAdmitted =====
def f_X9_isAdmitted_lb39  (self39 : gM → Int32 → Int32 → Int32 → gR) (M : gM) (a1 : Int32) (a2 : Int32) (a3 : Int32) : gR := (if 2 ≤ a3 then (gZ01 a2 (rRet a2 M)) else (if a2 = 0 then (bV (a3 + 1) (fun x1 => (self39 M a1 0 x1))) else (gI ((2 * a1) + a3) 24 (gNz 3 (if ((M 145 ((2 * a1) + a3).toNatClampNeg) - (M 145 ((2 * a1) + a3).toNatClampNeg) / 3 * 3) = 0 then (bV (a3 + 1) (fun x2 => (self39 M a1 1 x2))) else (bV (a3 + 1) (fun x3 => (self39 M a1 0 x3))))))))
def f_X9_isAdmitted_l39  : Nat → gM → Int32 → Int32 → Int32 → gR
  | 0, _, _, _, _ => rStuck
  | n + 1, M, a1, a2, a3 => f_X9_isAdmitted_lb39  (f_X9_isAdmitted_l39  n) M a1 a2 a3
def f_X9_isAdmitted_b36  (M : gM) (a1 : Int32) (t0 : Int32) : gR := (f_X9_isAdmitted_l39  5000 M a1 t0 0)
def f_X9_isAdmitted_b14  (M : gM) (a1 : Int32) (t1 : Int32) : gR := (rb (f_X9_refused M t1) (fun x5 M4 => (if x5 = 0 then (gI a1 12 (if (M4 144 a1.toNatClampNeg) = 0 then (f_X9_isAdmitted_b36  M4 a1 1) else (f_X9_isAdmitted_b36  M4 a1 0))) else (rRet 0 M4))))
def f_X9_isAdmitted (M : gM) (a1 : Int32) : gR := (rb (f_X9_isExhibit M a1) (fun x7 M6 => (if x7 = 0 then (f_X9_isAdmitted_b14  M6 a1 1) else (f_X9_isAdmitted_b14  M6 a1 0))))
abbrev rm_X9_isAdmitted : Room := { frames := 2, cells := 0, slots := 0, locals := 43 }
set_option maxRecDepth 20000 in
set_option maxHeartbeats 4000000 in
theorem g_X9_isAdmitted_lb39 {p : Program} {l : Launch} {e : Env} {s : State} {m : MethodId} {args : Array Value} {below : List Frame} {meth : Method} {c : Code} {Z : gZ} (hC : gC p l s m args meth c cX9_isAdmitted 4 RX9 (some .boolean) Z)  {self39 : gM → Int32 → Int32 → Int32 → gR}  (hs39 : ∀ (M : gM) (a1 : Int32) (a2 : Int32) (a3 : Int32) , gW p l e rm_X9_isAdmitted s m args below meth c 4 Z 1 0 0 M 39 [(0, .ref (zad Z 9)), (1, .int a1), (2, .int a2), (3, .int a3)] [] (self39 M a1 a2 a3)) (M : gM) (a1 : Int32) (a2 : Int32) (a3 : Int32) : gW p l e rm_X9_isAdmitted s m args below meth c 4 Z 1 0 0 M 39 [(0, .ref (zad Z 9)), (1, .int a1), (2, .int a2), (3, .int a3)] [] (f_X9_isAdmitted_lb39  self39 M a1 a2 a3) := by
  unfold f_X9_isAdmitted_lb39
  refine g_iload_n hC 3 dX9_isAdmitted_39 rfl rfl ?_
  refine g_iconst hC (v := 2) dX9_isAdmitted_40 (by decide) ?_
  refine g_icmp_ge (tgt := 75) hC dX9_isAdmitted_41 (by decide) (fun _ => ?_) (fun _ => ?_)
  · refine g_iload_n hC 2 dX9_isAdmitted_75 rfl rfl ?_
    exact g_zret hC rfl (by decide) dX9_isAdmitted_76
  · refine g_iload_n hC 2 dX9_isAdmitted_44 rfl rfl ?_
    refine g_if_eq (tgt := 67) hC dX9_isAdmitted_45 (by decide) (fun _ => ?_) (fun _ => ?_)
    · refine g_iconst hC (v := 0) dX9_isAdmitted_67 (by decide) ?_
      refine g_istore_n hC (lv1 := [(2, .int 0), (0, .ref (zad Z 9)), (1, .int a1), (3, .int a3)]) dX9_isAdmitted_68 rfl (by decide) rfl ?_
      refine g_iinc hC 3 (v := 1) (fun x1 => [(3, .int x1), (2, .int 0), (0, .ref (zad Z 9)), (1, .int a1)]) dX9_isAdmitted_69 rfl (by decide) (by decide) (fun _ => rfl) (fun x1 => ?_)
      refine g_goto (tgt := 39) hC dX9_isAdmitted_72 (by decide) ?_
      refine g_sub (lv1 := [(0, .ref (zad Z 9)), (1, .int a1), (2, .int 0), (3, .int x1)]) [2, 3, 1, 0] rfl ?_
      exact hs39 M a1 0 x1
    · refine g_aload_n hC 0 dX9_isAdmitted_48 rfl rfl ?_
      refine gf_X9_141 hC dX9_isAdmitted_49 ?_
      refine g_iconst hC (v := 2) dX9_isAdmitted_52 (by decide) ?_
      refine g_iload_n hC 1 dX9_isAdmitted_53 rfl rfl ?_
      refine g_imul hC dX9_isAdmitted_54 ?_
      refine g_iload_n hC 3 dX9_isAdmitted_55 rfl rfl ?_
      refine g_iadd hC dX9_isAdmitted_56 ?_
      refine g_iald hC 145 (by decide) rfl dX9_isAdmitted_57 ?_
      refine g_iconst hC (v := 3) dX9_isAdmitted_58 (by decide) ?_
      refine g_irem hC dX9_isAdmitted_59 ?_
      refine g_if_ne (tgt := 67) hC dX9_isAdmitted_60 (by decide) (fun _ => ?_) (fun _ => ?_)
      · refine g_iconst hC (v := 1) dX9_isAdmitted_63 (by decide) ?_
        refine g_goto (tgt := 68) hC dX9_isAdmitted_64 (by decide) ?_
        refine g_istore_n hC (lv1 := [(2, .int 1), (0, .ref (zad Z 9)), (1, .int a1), (3, .int a3)]) dX9_isAdmitted_68 rfl (by decide) rfl ?_
        refine g_iinc hC 3 (v := 1) (fun x2 => [(3, .int x2), (2, .int 1), (0, .ref (zad Z 9)), (1, .int a1)]) dX9_isAdmitted_69 rfl (by decide) (by decide) (fun _ => rfl) (fun x2 => ?_)
        refine g_goto (tgt := 39) hC dX9_isAdmitted_72 (by decide) ?_
        refine g_sub (lv1 := [(0, .ref (zad Z 9)), (1, .int a1), (2, .int 1), (3, .int x2)]) [2, 3, 1, 0] rfl ?_
        exact hs39 M a1 1 x2
      · refine g_iconst hC (v := 0) dX9_isAdmitted_67 (by decide) ?_
        refine g_istore_n hC (lv1 := [(2, .int 0), (0, .ref (zad Z 9)), (1, .int a1), (3, .int a3)]) dX9_isAdmitted_68 rfl (by decide) rfl ?_
        refine g_iinc hC 3 (v := 1) (fun x3 => [(3, .int x3), (2, .int 0), (0, .ref (zad Z 9)), (1, .int a1)]) dX9_isAdmitted_69 rfl (by decide) (by decide) (fun _ => rfl) (fun x3 => ?_)
        refine g_goto (tgt := 39) hC dX9_isAdmitted_72 (by decide) ?_
        refine g_sub (lv1 := [(0, .ref (zad Z 9)), (1, .int a1), (2, .int 0), (3, .int x3)]) [2, 3, 1, 0] rfl ?_
        exact hs39 M a1 0 x3
set_option maxRecDepth 20000 in
set_option maxHeartbeats 4000000 in
theorem g_X9_isAdmitted_l39 {p : Program} {l : Launch} {e : Env} {s : State} {m : MethodId} {args : Array Value} {below : List Frame} {meth : Method} {c : Code} {Z : gZ} (hC : gC p l s m args meth c cX9_isAdmitted 4 RX9 (some .boolean) Z)   : ∀ (n : Nat) (M : gM) (a1 : Int32) (a2 : Int32) (a3 : Int32), gW p l e rm_X9_isAdmitted s m args below meth c 4 Z 1 0 0 M 39 [(0, .ref (zad Z 9)), (1, .int a1), (2, .int a2), (3, .int a3)] [] (f_X9_isAdmitted_l39  n M a1 a2 a3)
  | 0, _, _, _, _ => g_stuck
  | n + 1, M, a1, a2, a3 => g_X9_isAdmitted_lb39 hC  (g_X9_isAdmitted_l39 hC  n) M a1 a2 a3
set_option maxRecDepth 20000 in
set_option maxHeartbeats 4000000 in
theorem g_X9_isAdmitted_b36 {p : Program} {l : Launch} {e : Env} {s : State} {m : MethodId} {args : Array Value} {below : List Frame} {meth : Method} {c : Code} {Z : gZ} (hC : gC p l s m args meth c cX9_isAdmitted 4 RX9 (some .boolean) Z)   (M : gM) (a1 : Int32) (t0 : Int32) : gW p l e rm_X9_isAdmitted s m args below meth c 4 Z 1 0 0 M 36 [(0, .ref (zad Z 9)), (1, .int a1)] [.int t0] (f_X9_isAdmitted_b36  M a1 t0) := by
  unfold f_X9_isAdmitted_b36
  refine g_istore_n hC (lv1 := [(2, .int t0), (0, .ref (zad Z 9)), (1, .int a1)]) dX9_isAdmitted_36 rfl (by decide) rfl ?_
  refine g_iconst hC (v := 0) dX9_isAdmitted_37 (by decide) ?_
  refine g_istore_n hC (lv1 := [(3, .int 0), (2, .int t0), (0, .ref (zad Z 9)), (1, .int a1)]) dX9_isAdmitted_38 rfl (by decide) rfl ?_
  refine g_sub (lv1 := [(0, .ref (zad Z 9)), (1, .int a1), (2, .int t0), (3, .int 0)]) [2, 3, 1, 0] rfl ?_
  exact g_X9_isAdmitted_l39 hC  5000 M a1 t0 0
set_option maxRecDepth 20000 in
set_option maxHeartbeats 4000000 in
theorem g_X9_isAdmitted_b14 {p : Program} {l : Launch} {e : Env} {s : State} {m : MethodId} {args : Array Value} {below : List Frame} {meth : Method} {c : Code} {Z : gZ} (hC : gC p l s m args meth c cX9_isAdmitted 4 RX9 (some .boolean) Z)   (M : gM) (a1 : Int32) (t1 : Int32) : gW p l e rm_X9_isAdmitted s m args below meth c 4 Z 1 0 0 M 14 [(0, .ref (zad Z 9)), (1, .int a1)] [.int t1, .ref (zad Z 9)] (f_X9_isAdmitted_b14  M a1 t1) := by
  unfold f_X9_isAdmitted_b14
  refine g_callVi (n := 1) hC [.int t1] 9 9 (by decide) rfl rfl (fun hne => c_X9_refused hC.2.2.2.2.2.2.2.1 Z M t1 hne) lk_X9_155 mw_X9_refused.1 mw_X9_refused.2.1 mw_X9_refused.2.2.1 mw_X9_refused.2.2.2 ⟨rfl, by decide, by decide, by decide +kernel⟩ rfl rfl ⟨by decide, by decide⟩ rfl rfl (Nat.le_of_ble_eq_true rfl) (by decide) (by decide) (by decide) dX9_isAdmitted_14 (fun x5 M4 => ?_)
  refine g_if_eq (tgt := 22) hC dX9_isAdmitted_17 (by decide) (fun _ => ?_) (fun _ => ?_)
  · refine g_aload_n hC 0 dX9_isAdmitted_22 rfl rfl ?_
    refine gf_X9_138 hC dX9_isAdmitted_23 ?_
    refine g_iload_n hC 1 dX9_isAdmitted_26 rfl rfl ?_
    refine g_zald hC 144 (by decide) rfl dX9_isAdmitted_27 ?_
    refine g_if_ne (tgt := 35) hC dX9_isAdmitted_28 (by decide) (fun _ => ?_) (fun _ => ?_)
    · refine g_iconst hC (v := 1) dX9_isAdmitted_31 (by decide) ?_
      refine g_goto (tgt := 36) hC dX9_isAdmitted_32 (by decide) ?_
      exact g_X9_isAdmitted_b36 hC  M4 a1 1
    · refine g_iconst hC (v := 0) dX9_isAdmitted_35 (by decide) ?_
      exact g_X9_isAdmitted_b36 hC  M4 a1 0
  · refine g_iconst hC (v := 0) dX9_isAdmitted_20 (by decide) ?_
    exact g_zret0 hC rfl (by decide) dX9_isAdmitted_21
set_option maxRecDepth 20000 in
set_option maxHeartbeats 4000000 in
theorem c_X9_isAdmitted {l : Launch} (hfl : l.stackTraces = false) (Z : gZ) (M : gM) (a1 : Int32) : gMet l yX9_isAdmitted cX9_isAdmitted 4 (some .boolean) rm_X9_isAdmitted 1 0 Z M [.ref (zad Z 9), .int a1] (f_X9_isAdmitted M a1) := by
  refine g_enter hfl (by decide) (Nat.le_of_ble_eq_true rfl) (fun p e s m args below meth c hC => ?_)
  refine g_eq (F := f_X9_isAdmitted M a1) rfl ?_
  refine g_lv0 (lv1 := [(0, .ref (zad Z 9)), (1, .int a1)]) rfl ?_
  unfold f_X9_isAdmitted
  refine g_aload_n hC 0 dX9_isAdmitted_0 rfl rfl ?_
  refine g_aload_n hC 0 dX9_isAdmitted_1 rfl rfl ?_
  refine g_iload_n hC 1 dX9_isAdmitted_2 rfl rfl ?_
  refine g_callVi (n := 1) hC [.int a1] 9 9 (by decide) rfl rfl (fun hne => c_X9_isExhibit hC.2.2.2.2.2.2.2.1 Z M a1 hne) lk_X9_297 mw_X9_isExhibit.1 mw_X9_isExhibit.2.1 mw_X9_isExhibit.2.2.1 mw_X9_isExhibit.2.2.2 ⟨rfl, by decide, by decide, by decide +kernel⟩ rfl rfl ⟨by decide, by decide⟩ rfl rfl (Nat.le_of_ble_eq_true rfl) (by decide) (by decide) (by decide) dX9_isAdmitted_3 (fun x7 M6 => ?_)
  refine g_if_eq (tgt := 13) hC dX9_isAdmitted_6 (by decide) (fun _ => ?_) (fun _ => ?_)
  · refine g_iconst hC (v := 1) dX9_isAdmitted_13 (by decide) ?_
    exact g_X9_isAdmitted_b14 hC  M6 a1 1
  · refine g_iconst hC (v := 0) dX9_isAdmitted_9 (by decide) ?_
    refine g_goto (tgt := 14) hC dX9_isAdmitted_10 (by decide) ?_
    exact g_X9_isAdmitted_b14 hC  M6 a1 0

-- ===== X9_seal =====
def f_X9_seal_lb44  (self44 : gM → Int32 → Int32 → Int32 → Int32 → gR) (M : gM) (a1 : Int32) (a2 : Int32) (a3 : Int32) (a4 : Int32) : gR := (if 900 < a4 then (if a3 = a2 then (rRet 0 M) else (rRet 1 M)) else (gZ01 a2 (gI ((901 * a1) + a4) 144160 (bM (gset M 136 ((901 * a1) + a4).toNatClampNeg a2) (fun M1 => (bV (a4 + 1) (fun x2 => (self44 M1 a1 a2 a3 x2))))))))
def f_X9_seal_l44  : Nat → gM → Int32 → Int32 → Int32 → Int32 → gR
  | 0, _, _, _, _, _ => rStuck
  | n + 1, M, a1, a2, a3, a4 => f_X9_seal_lb44  (f_X9_seal_l44  n) M a1 a2 a3 a4
def f_X9_seal_b14  (M : gM) (a1 : Int32) (a2 : Int32) (t1 : Int32) : gR := (rb (f_X9_refused M t1) (fun x4 M3 => (if x4 = 0 then (gI ((901 * a1) + (M3 9 1)) 144160 (bV (M3 136 ((901 * a1) + (M3 9 1)).toNatClampNeg) (fun x5 => (bV (M3 9 1) (fun x6 => (f_X9_seal_l44  5000 M3 a1 a2 x5 x6)))))) else (rRet 0 M3))))
def f_X9_seal (M : gM) (a1 : Int32) (a2 : Int32) : gR := (rb (f_X9_isEntry M a1) (fun x8 M7 => (if x8 = 0 then (f_X9_seal_b14  M7 a1 a2 1) else (f_X9_seal_b14  M7 a1 a2 0))))
abbrev rm_X9_seal : Room := { frames := 2, cells := 0, slots := 0, locals := 43 }
set_option maxRecDepth 20000 in
set_option maxHeartbeats 4000000 in
theorem g_X9_seal_lb44 {p : Program} {l : Launch} {e : Env} {s : State} {m : MethodId} {args : Array Value} {below : List Frame} {meth : Method} {c : Code} {Z : gZ} (hC : gC p l s m args meth c cX9_seal 5 RX9 (some .boolean) Z)  {self44 : gM → Int32 → Int32 → Int32 → Int32 → gR}  (hs44 : ∀ (M : gM) (a1 : Int32) (a2 : Int32) (a3 : Int32) (a4 : Int32) , gW p l e rm_X9_seal s m args below meth c 5 Z 1 0 0 M 44 [(0, .ref (zad Z 9)), (1, .int a1), (2, .int a2), (3, .int a3), (4, .int a4)] [] (self44 M a1 a2 a3 a4)) (M : gM) (a1 : Int32) (a2 : Int32) (a3 : Int32) (a4 : Int32) : gW p l e rm_X9_seal s m args below meth c 5 Z 1 0 0 M 44 [(0, .ref (zad Z 9)), (1, .int a1), (2, .int a2), (3, .int a3), (4, .int a4)] [] (f_X9_seal_lb44  self44 M a1 a2 a3 a4) := by
  unfold f_X9_seal_lb44
  refine g_iload hC 4 dX9_seal_44 rfl ?_
  refine g_sipush hC (v := 900) dX9_seal_46 (by decide) ?_
  refine g_icmp_gt (tgt := 72) hC dX9_seal_49 (by decide) (fun _ => ?_) (fun _ => ?_)
  · refine g_iload_n hC 3 dX9_seal_72 rfl rfl ?_
    refine g_iload_n hC 2 dX9_seal_73 rfl rfl ?_
    refine g_icmp_eq (tgt := 81) hC dX9_seal_74 (by decide) (fun _ => ?_) (fun _ => ?_)
    · refine g_iconst hC (v := 0) dX9_seal_81 (by decide) ?_
      exact g_zret0 hC rfl (by decide) dX9_seal_82
    · refine g_iconst hC (v := 1) dX9_seal_77 (by decide) ?_
      refine g_goto (tgt := 82) hC dX9_seal_78 (by decide) ?_
      exact g_zret1 hC rfl (by decide) dX9_seal_82
  · refine g_aload_n hC 0 dX9_seal_52 rfl rfl ?_
    refine gf_X9_114 hC dX9_seal_53 ?_
    refine g_sipush hC (v := 901) dX9_seal_56 (by decide) ?_
    refine g_iload_n hC 1 dX9_seal_59 rfl rfl ?_
    refine g_imul hC dX9_seal_60 ?_
    refine g_iload hC 4 dX9_seal_61 rfl ?_
    refine g_iadd hC dX9_seal_63 ?_
    refine g_iload_n hC 2 dX9_seal_64 rfl rfl ?_
    refine g_zast hC 136 (by decide) rfl dX9_seal_65 (fun M1 => ?_)
    refine g_iinc hC 4 (v := 1) (fun x2 => [(4, .int x2), (0, .ref (zad Z 9)), (1, .int a1), (2, .int a2), (3, .int a3)]) dX9_seal_66 rfl (by decide) (by decide) (fun _ => rfl) (fun x2 => ?_)
    refine g_goto (tgt := 44) hC dX9_seal_69 (by decide) ?_
    refine g_sub (lv1 := [(0, .ref (zad Z 9)), (1, .int a1), (2, .int a2), (3, .int a3), (4, .int x2)]) [1, 2, 3, 4, 0] rfl ?_
    exact hs44 M1 a1 a2 a3 x2
set_option maxRecDepth 20000 in
set_option maxHeartbeats 4000000 in
theorem g_X9_seal_l44 {p : Program} {l : Launch} {e : Env} {s : State} {m : MethodId} {args : Array Value} {below : List Frame} {meth : Method} {c : Code} {Z : gZ} (hC : gC p l s m args meth c cX9_seal 5 RX9 (some .boolean) Z)   : ∀ (n : Nat) (M : gM) (a1 : Int32) (a2 : Int32) (a3 : Int32) (a4 : Int32), gW p l e rm_X9_seal s m args below meth c 5 Z 1 0 0 M 44 [(0, .ref (zad Z 9)), (1, .int a1), (2, .int a2), (3, .int a3), (4, .int a4)] [] (f_X9_seal_l44  n M a1 a2 a3 a4)
  | 0, _, _, _, _, _ => g_stuck
  | n + 1, M, a1, a2, a3, a4 => g_X9_seal_lb44 hC  (g_X9_seal_l44 hC  n) M a1 a2 a3 a4
set_option maxRecDepth 20000 in
set_option maxHeartbeats 4000000 in
theorem g_X9_seal_b14 {p : Program} {l : Launch} {e : Env} {s : State} {m : MethodId} {args : Array Value} {below : List Frame} {meth : Method} {c : Code} {Z : gZ} (hC : gC p l s m args meth c cX9_seal 5 RX9 (some .boolean) Z)   (M : gM) (a1 : Int32) (a2 : Int32) (t1 : Int32) : gW p l e rm_X9_seal s m args below meth c 5 Z 1 0 0 M 14 [(0, .ref (zad Z 9)), (1, .int a1), (2, .int a2)] [.int t1, .ref (zad Z 9)] (f_X9_seal_b14  M a1 a2 t1) := by
  unfold f_X9_seal_b14
  refine g_callVi (n := 1) hC [.int t1] 9 9 (by decide) rfl rfl (fun hne => c_X9_refused hC.2.2.2.2.2.2.2.1 Z M t1 hne) lk_X9_155 mw_X9_refused.1 mw_X9_refused.2.1 mw_X9_refused.2.2.1 mw_X9_refused.2.2.2 ⟨rfl, by decide, by decide, by decide +kernel⟩ rfl rfl ⟨by decide, by decide⟩ rfl rfl (Nat.le_of_ble_eq_true rfl) (by decide) (by decide) (by decide) dX9_seal_14 (fun x4 M3 => ?_)
  refine g_if_eq (tgt := 22) hC dX9_seal_17 (by decide) (fun _ => ?_) (fun _ => ?_)
  · refine g_aload_n hC 0 dX9_seal_22 rfl rfl ?_
    refine gf_X9_114 hC dX9_seal_23 ?_
    refine g_sipush hC (v := 901) dX9_seal_26 (by decide) ?_
    refine g_iload_n hC 1 dX9_seal_29 rfl rfl ?_
    refine g_imul hC dX9_seal_30 ?_
    refine g_aload_n hC 0 dX9_seal_31 rfl rfl ?_
    refine gf_X9_152 hC dX9_seal_32 ?_
    refine g_iadd hC dX9_seal_35 ?_
    refine g_zald hC 136 (by decide) rfl dX9_seal_36 ?_
    refine g_bv (fun x5 => ?_)
    refine g_istore_n hC (lv1 := [(3, .int x5), (0, .ref (zad Z 9)), (1, .int a1), (2, .int a2)]) dX9_seal_37 rfl (by decide) rfl ?_
    refine g_aload_n hC 1 dX9_seal_38 rfl rfl ?_
    refine gf_X9_152 hC dX9_seal_39 ?_
    refine g_bv (fun x6 => ?_)
    refine g_istore hC (lv1 := [(4, .int x6), (3, .int x5), (0, .ref (zad Z 9)), (1, .int a1), (2, .int a2)]) dX9_seal_42 (by decide) rfl ?_
    refine g_sub (lv1 := [(0, .ref (zad Z 9)), (1, .int a1), (2, .int a2), (3, .int x5), (4, .int x6)]) [2, 3, 4, 1, 0] rfl ?_
    exact g_X9_seal_l44 hC  5000 M3 a1 a2 x5 x6
  · refine g_iconst hC (v := 0) dX9_seal_20 (by decide) ?_
    exact g_zret0 hC rfl (by decide) dX9_seal_21
set_option maxRecDepth 20000 in
set_option maxHeartbeats 4000000 in
theorem c_X9_seal {l : Launch} (hfl : l.stackTraces = false) (Z : gZ) (M : gM) (a1 : Int32) (a2 : Int32) : gMet l yX9_seal cX9_seal 5 (some .boolean) rm_X9_seal 1 0 Z M [.ref (zad Z 9), .int a1, .int a2] (f_X9_seal M a1 a2) := by
  refine g_enter hfl (by decide) (Nat.le_of_ble_eq_true rfl) (fun p e s m args below meth c hC => ?_)
  refine g_eq (F := f_X9_seal M a1 a2) rfl ?_
  refine g_lv0 (lv1 := [(0, .ref (zad Z 9)), (1, .int a1), (2, .int a2)]) rfl ?_
  unfold f_X9_seal
  refine g_aload_n hC 0 dX9_seal_0 rfl rfl ?_
  refine g_aload_n hC 0 dX9_seal_1 rfl rfl ?_
  refine g_iload_n hC 1 dX9_seal_2 rfl rfl ?_
  refine g_callVi (n := 1) hC [.int a1] 9 9 (by decide) rfl rfl (fun hne => c_X9_isEntry hC.2.2.2.2.2.2.2.1 Z M a1 hne) lk_X9_174 mw_X9_isEntry.1 mw_X9_isEntry.2.1 mw_X9_isEntry.2.2.1 mw_X9_isEntry.2.2.2 ⟨rfl, by decide, by decide, by decide +kernel⟩ rfl rfl ⟨by decide, by decide⟩ rfl rfl (Nat.le_of_ble_eq_true rfl) (by decide) (by decide) (by decide) dX9_seal_3 (fun x8 M7 => ?_)
  refine g_if_eq (tgt := 13) hC dX9_seal_6 (by decide) (fun _ => ?_) (fun _ => ?_)
  · refine g_iconst hC (v := 1) dX9_seal_13 (by decide) ?_
    exact g_X9_seal_b14 hC  M7 a1 a2 1
  · refine g_iconst hC (v := 0) dX9_seal_9 (by decide) ?_
    refine g_goto (tgt := 14) hC dX9_seal_10 (by decide) ?_
    exact g_X9_seal_b14 hC  M7 a1 a2 0

-- ===== X9_maySee =====
def f_X9_maySee_b119  (M : gM) (a2 : Int32) (a3 : Int32) (t0 : Int32) : gR := (rb (f_X9_isParty M t0 a2) (fun x2 M1 => (if x2 = 0 then (rRet 0 M1) else (gI ((16 * t0) + a2) 128 (if a3 < (M1 108 ((16 * t0) + a2).toNatClampNeg) then (rRet 0 M1) else (rRet 1 M1))))))
def f_X9_maySee_b49  (M : gM) (a1 : Int32) (a2 : Int32) (a3 : Int32) (t1 : Int32) : gR := (rb (f_X9_refused M t1) (fun x4 M3 => (if x4 = 0 then (gI ((901 * a1) + a3) 144160 (if (M3 136 ((901 * a1) + a3).toNatClampNeg) = 0 then (gI a1 160 (if a3 < (M3 121 a1.toNatClampNeg) then (rRet 0 M3) else (rRet 1 M3))) else (gI a1 160 (if (M3 120 a1.toNatClampNeg) < 11 then (gI a1 160 (gI (M3 122 a1.toNatClampNeg) 24 (f_X9_maySee_b119  M3 a2 a3 (M3 109 (M3 122 a1.toNatClampNeg).toNatClampNeg)))) else (gI a1 160 (f_X9_maySee_b119  M3 a2 a3 (M3 122 a1.toNatClampNeg))))))) else (rRet 0 M3))))
def f_X9_maySee_b20  (M : gM) (a1 : Int32) (a2 : Int32) (a3 : Int32) (t0 : Int32) : gR := (if t0 = 0 then (f_X9_maySee_b49  M a1 a2 a3 1) else (rb (f_X9_within M a3 0 (M 9 1)) (fun x6 M5 => (if x6 = 0 then (f_X9_maySee_b49  M5 a1 a2 a3 2) else (f_X9_maySee_b49  M5 a1 a2 a3 0)))))
def f_X9_maySee_b19  (M : gM) (a1 : Int32) (a2 : Int32) (a3 : Int32)  : gR := (f_X9_maySee_b20  M a1 a2 a3 0)
def f_X9_maySee (M : gM) (a1 : Int32) (a2 : Int32) (a3 : Int32) : gR := (rb (f_X9_isEntry M a1) (fun x8 M7 => (if x8 = 0 then (f_X9_maySee_b19  M7 a1 a2 a3 ) else (rb (f_X9_isPerson M7 a2) (fun x10 M9 => (if x10 = 0 then (f_X9_maySee_b19  M9 a1 a2 a3 ) else (f_X9_maySee_b20  M9 a1 a2 a3 1)))))))
abbrev rm_X9_maySee : Room := { frames := 2, cells := 0, slots := 0, locals := 43 }
set_option maxRecDepth 20000 in
set_option maxHeartbeats 4000000 in
theorem g_X9_maySee_b119 {p : Program} {l : Launch} {e : Env} {s : State} {m : MethodId} {args : Array Value} {below : List Frame} {meth : Method} {c : Code} {Z : gZ} (hC : gC p l s m args meth c cX9_maySee 6 RX9 (some .boolean) Z)   (M : gM) (a2 : Int32) (a3 : Int32) (t0 : Int32) : gW p l e rm_X9_maySee s m args below meth c 6 Z 1 0 0 M 119 [(0, .ref (zad Z 9)), (2, .int a2), (3, .int a3)] [.int t0] (f_X9_maySee_b119  M a2 a3 t0) := by
  unfold f_X9_maySee_b119
  refine g_istore hC (lv1 := [(5, .int t0), (0, .ref (zad Z 9)), (2, .int a2), (3, .int a3)]) dX9_maySee_119 (by decide) rfl ?_
  refine g_aload_n hC 1 dX9_maySee_121 rfl rfl ?_
  refine g_iload hC 0 dX9_maySee_122 rfl ?_
  refine g_iload_n hC 2 dX9_maySee_124 rfl rfl ?_
  refine g_callVi (n := 2) hC [.int t0, .int a2] 9 9 (by decide) rfl rfl (fun hne => c_X9_isParty hC.2.2.2.2.2.2.2.1 Z M t0 a2 hne) lk_X9_187 mw_X9_isParty.1 mw_X9_isParty.2.1 mw_X9_isParty.2.2.1 mw_X9_isParty.2.2.2 ⟨rfl, by decide, by decide, by decide +kernel⟩ rfl rfl ⟨by decide, by decide⟩ rfl rfl (Nat.le_of_ble_eq_true rfl) (by decide) (by decide) (by decide) dX9_maySee_125 (fun x2 M1 => ?_)
  refine g_if_eq (tgt := 151) hC dX9_maySee_128 (by decide) (fun _ => ?_) (fun _ => ?_)
  · refine g_iconst hC (v := 0) dX9_maySee_151 (by decide) ?_
    exact g_zret0 hC rfl (by decide) dX9_maySee_152
  · refine g_aload_n hC 1 dX9_maySee_131 rfl rfl ?_
    refine gf_X9_29 hC dX9_maySee_132 ?_
    refine g_bipush hC (v := 16) dX9_maySee_135 (by decide) ?_
    refine g_iload hC 0 dX9_maySee_137 rfl ?_
    refine g_imul hC dX9_maySee_139 ?_
    refine g_iload_n hC 2 dX9_maySee_140 rfl rfl ?_
    refine g_iadd hC dX9_maySee_141 ?_
    refine g_iald hC 108 (by decide) rfl dX9_maySee_142 ?_
    refine g_iload_n hC 3 dX9_maySee_143 rfl rfl ?_
    refine g_icmp_gt (tgt := 151) hC dX9_maySee_144 (by decide) (fun _ => ?_) (fun _ => ?_)
    · refine g_iconst hC (v := 0) dX9_maySee_151 (by decide) ?_
      exact g_zret0 hC rfl (by decide) dX9_maySee_152
    · refine g_iconst hC (v := 1) dX9_maySee_147 (by decide) ?_
      refine g_goto (tgt := 152) hC dX9_maySee_148 (by decide) ?_
      exact g_zret1 hC rfl (by decide) dX9_maySee_152
set_option maxRecDepth 20000 in
set_option maxHeartbeats 4000000 in
theorem g_X9_maySee_b49 {p : Program} {l : Launch} {e : Env} {s : State} {m : MethodId} {args : Array Value} {below : List Frame} {meth : Method} {c : Code} {Z : gZ} (hC : gC p l s m args meth c cX9_maySee 6 RX9 (some .boolean) Z)   (M : gM) (a1 : Int32) (a2 : Int32) (a3 : Int32) (t1 : Int32) : gW p l e rm_X9_maySee s m args below meth c 6 Z 1 0 0 M 49 [(0, .ref (zad Z 9)), (1, .int a1), (2, .int a2), (3, .int a3)] [.int t1, .ref (zad Z 9)] (f_X9_maySee_b49  M a1 a2 a3 t1) := by
  unfold f_X9_maySee_b49
  refine g_callVi (n := 1) hC [.int t1] 9 9 (by decide) rfl rfl (fun hne => c_X9_refused hC.2.2.2.2.2.2.2.1 Z M t1 hne) lk_X9_155 mw_X9_refused.1 mw_X9_refused.2.1 mw_X9_refused.2.2.1 mw_X9_refused.2.2.2 ⟨rfl, by decide, by decide, by decide +kernel⟩ rfl rfl ⟨by decide, by decide⟩ rfl rfl (Nat.le_of_ble_eq_true rfl) (by decide) (by decide) (by decide) dX9_maySee_49 (fun x4 M3 => ?_)
  refine g_if_eq (tgt := 57) hC dX9_maySee_52 (by decide) (fun _ => ?_) (fun _ => ?_)
  · refine g_aload_n hC 0 dX9_maySee_57 rfl rfl ?_
    refine gf_X9_114 hC dX9_maySee_58 ?_
    refine g_sipush hC (v := 901) dX9_maySee_61 (by decide) ?_
    refine g_iload_n hC 1 dX9_maySee_64 rfl rfl ?_
    refine g_imul hC dX9_maySee_65 ?_
    refine g_iload_n hC 3 dX9_maySee_66 rfl rfl ?_
    refine g_iadd hC dX9_maySee_67 ?_
    refine g_zald hC 136 (by decide) rfl dX9_maySee_68 ?_
    refine g_if_ne (tgt := 88) hC dX9_maySee_69 (by decide) (fun _ => ?_) (fun _ => ?_)
    · refine g_iload_n hC 3 dX9_maySee_72 rfl rfl ?_
      refine g_aload_n hC 0 dX9_maySee_73 rfl rfl ?_
      refine gf_X9_68 hC dX9_maySee_74 ?_
      refine g_iload_n hC 1 dX9_maySee_77 rfl rfl ?_
      refine g_iald hC 121 (by decide) rfl dX9_maySee_78 ?_
      refine g_icmp_lt (tgt := 86) hC dX9_maySee_79 (by decide) (fun _ => ?_) (fun _ => ?_)
      · refine g_iconst hC (v := 0) dX9_maySee_86 (by decide) ?_
        exact g_zret0 hC rfl (by decide) dX9_maySee_87
      · refine g_iconst hC (v := 1) dX9_maySee_82 (by decide) ?_
        refine g_goto (tgt := 87) hC dX9_maySee_83 (by decide) ?_
        exact g_zret1 hC rfl (by decide) dX9_maySee_87
    · refine g_aload_n hC 0 dX9_maySee_88 rfl rfl ?_
      refine gf_X9_65 hC dX9_maySee_89 ?_
      refine g_iload_n hC 1 dX9_maySee_92 rfl rfl ?_
      refine g_iald hC 120 (by decide) rfl dX9_maySee_93 ?_
      refine g_bipush hC (v := 11) dX9_maySee_94 (by decide) ?_
      refine g_icmp_lt (tgt := 108) hC dX9_maySee_96 (by decide) (fun _ => ?_) (fun _ => ?_)
      · refine g_aload_n hC 0 dX9_maySee_108 rfl rfl ?_
        refine gf_X9_32 hC dX9_maySee_109 ?_
        refine g_aload_n hC 0 dX9_maySee_112 rfl rfl ?_
        refine gf_X9_71 hC dX9_maySee_113 ?_
        refine g_iload_n hC 1 dX9_maySee_116 rfl rfl ?_
        refine g_iald hC 122 (by decide) rfl dX9_maySee_117 ?_
        refine g_iald hC 109 (by decide) rfl dX9_maySee_118 ?_
        refine g_sub (lv1 := [(0, .ref (zad Z 9)), (2, .int a2), (3, .int a3)]) [0, 2, 3] rfl ?_
        exact g_X9_maySee_b119 hC  M3 a2 a3 (M3 109 (M3 122 a1.toNatClampNeg).toNatClampNeg)
      · refine g_aload_n hC 0 dX9_maySee_99 rfl rfl ?_
        refine gf_X9_71 hC dX9_maySee_100 ?_
        refine g_iload_n hC 1 dX9_maySee_103 rfl rfl ?_
        refine g_iald hC 122 (by decide) rfl dX9_maySee_104 ?_
        refine g_goto (tgt := 119) hC dX9_maySee_105 (by decide) ?_
        refine g_sub (lv1 := [(0, .ref (zad Z 9)), (2, .int a2), (3, .int a3)]) [0, 2, 3] rfl ?_
        exact g_X9_maySee_b119 hC  M3 a2 a3 (M3 122 a1.toNatClampNeg)
  · refine g_iconst hC (v := 0) dX9_maySee_55 (by decide) ?_
    exact g_zret0 hC rfl (by decide) dX9_maySee_56
set_option maxRecDepth 20000 in
set_option maxHeartbeats 4000000 in
theorem g_X9_maySee_b20 {p : Program} {l : Launch} {e : Env} {s : State} {m : MethodId} {args : Array Value} {below : List Frame} {meth : Method} {c : Code} {Z : gZ} (hC : gC p l s m args meth c cX9_maySee 6 RX9 (some .boolean) Z)   (M : gM) (a1 : Int32) (a2 : Int32) (a3 : Int32) (t0 : Int32) : gW p l e rm_X9_maySee s m args below meth c 6 Z 1 0 0 M 20 [(0, .ref (zad Z 9)), (1, .int a1), (2, .int a2), (3, .int a3)] [.int t0] (f_X9_maySee_b20  M a1 a2 a3 t0) := by
  unfold f_X9_maySee_b20
  refine g_istore hC (lv1 := [(4, .int t0), (0, .ref (zad Z 9)), (1, .int a1), (2, .int a2), (3, .int a3)]) dX9_maySee_20 (by decide) rfl ?_
  refine g_aload_n hC 1 dX9_maySee_22 rfl rfl ?_
  refine g_iload hC 0 dX9_maySee_23 rfl ?_
  refine g_if_ne (tgt := 32) hC dX9_maySee_25 (by decide) (fun _ => ?_) (fun _ => ?_)
  · refine g_iconst hC (v := 1) dX9_maySee_28 (by decide) ?_
    refine g_goto (tgt := 49) hC dX9_maySee_29 (by decide) ?_
    refine g_sub (lv1 := [(0, .ref (zad Z 9)), (1, .int a1), (2, .int a2), (3, .int a3)]) [1, 2, 3, 4] rfl ?_
    exact g_X9_maySee_b49 hC  M a1 a2 a3 1
  · refine g_iload_n hC 4 dX9_maySee_32 rfl rfl ?_
    refine g_iconst hC (v := 0) dX9_maySee_33 (by decide) ?_
    refine g_aload_n hC 1 dX9_maySee_34 rfl rfl ?_
    refine gf_X9_152 hC dX9_maySee_35 ?_
    refine g_callSi (n := 3) hC [.int a3, .int 0, .int (M 9 1)] (fun hne => c_X9_within hC.2.2.2.2.2.2.2.1 Z M a3 0 (M 9 1) hne) lk_X9_148 mw_X9_within.1 mw_X9_within.2.1 mw_X9_within.2.2 ⟨by decide, by decide, by decide +kernel⟩ rfl rfl ⟨by decide, by decide⟩ rfl rfl (Nat.le_of_ble_eq_true rfl) (by decide) (by decide) (by decide) dX9_maySee_38 (fun x6 M5 => ?_)
    refine g_if_ne (tgt := 48) hC dX9_maySee_41 (by decide) (fun _ => ?_) (fun _ => ?_)
    · refine g_iconst hC (v := 2) dX9_maySee_44 (by decide) ?_
      refine g_goto (tgt := 49) hC dX9_maySee_45 (by decide) ?_
      refine g_sub (lv1 := [(0, .ref (zad Z 9)), (1, .int a1), (2, .int a2), (3, .int a3)]) [1, 2, 3, 4] rfl ?_
      exact g_X9_maySee_b49 hC  M5 a1 a2 a3 2
    · refine g_iconst hC (v := 0) dX9_maySee_48 (by decide) ?_
      refine g_sub (lv1 := [(0, .ref (zad Z 9)), (1, .int a1), (2, .int a2), (3, .int a3)]) [1, 2, 3, 4] rfl ?_
      exact g_X9_maySee_b49 hC  M5 a1 a2 a3 0
set_option maxRecDepth 20000 in
set_option maxHeartbeats 4000000 in
theorem g_X9_maySee_b19 {p : Program} {l : Launch} {e : Env} {s : State} {m : MethodId} {args : Array Value} {below : List Frame} {meth : Method} {c : Code} {Z : gZ} (hC : gC p l s m args meth c cX9_maySee 6 RX9 (some .boolean) Z)   (M : gM) (a1 : Int32) (a2 : Int32) (a3 : Int32)  : gW p l e rm_X9_maySee s m args below meth c 6 Z 1 0 0 M 19 [(0, .ref (zad Z 9)), (1, .int a1), (2, .int a2), (3, .int a3)] [] (f_X9_maySee_b19  M a1 a2 a3 ) := by
  unfold f_X9_maySee_b19
  refine g_iconst hC (v := 0) dX9_maySee_19 (by decide) ?_
  exact g_X9_maySee_b20 hC  M a1 a2 a3 0
set_option maxRecDepth 20000 in
set_option maxHeartbeats 4000000 in
theorem c_X9_maySee {l : Launch} (hfl : l.stackTraces = false) (Z : gZ) (M : gM) (a1 : Int32) (a2 : Int32) (a3 : Int32) : gMet l yX9_maySee cX9_maySee 6 (some .boolean) rm_X9_maySee 1 0 Z M [.ref (zad Z 9), .int a1, .int a2, .int a3] (f_X9_maySee M a1 a2 a3) := by
  refine g_enter hfl (by decide) (Nat.le_of_ble_eq_true rfl) (fun p e s m args below meth c hC => ?_)
  refine g_eq (F := f_X9_maySee M a1 a2 a3) rfl ?_
  refine g_lv0 (lv1 := [(0, .ref (zad Z 9)), (1, .int a1), (2, .int a2), (3, .int a3)]) rfl ?_
  unfold f_X9_maySee
  refine g_aload_n hC 0 dX9_maySee_0 rfl rfl ?_
  refine g_iload_n hC 1 dX9_maySee_1 rfl rfl ?_
  refine g_callVi (n := 1) hC [.int a1] 9 9 (by decide) rfl rfl (fun hne => c_X9_isEntry hC.2.2.2.2.2.2.2.1 Z M a1 hne) lk_X9_174 mw_X9_isEntry.1 mw_X9_isEntry.2.1 mw_X9_isEntry.2.2.1 mw_X9_isEntry.2.2.2 ⟨rfl, by decide, by decide, by decide +kernel⟩ rfl rfl ⟨by decide, by decide⟩ rfl rfl (Nat.le_of_ble_eq_true rfl) (by decide) (by decide) (by decide) dX9_maySee_2 (fun x8 M7 => ?_)
  refine g_if_eq (tgt := 19) hC dX9_maySee_5 (by decide) (fun _ => ?_) (fun _ => ?_)
  · exact g_X9_maySee_b19 hC  M7 a1 a2 a3
  · refine g_iload_n hC 2 dX9_maySee_8 rfl rfl ?_
    refine g_callSi (n := 1) hC [.int a2] (fun hne => c_X9_isPerson hC.2.2.2.2.2.2.2.1 Z M7 a2 hne) lk_X9_184 mw_X9_isPerson.1 mw_X9_isPerson.2.1 mw_X9_isPerson.2.2 ⟨by decide, by decide, by decide +kernel⟩ rfl rfl ⟨by decide, by decide⟩ rfl rfl (Nat.le_of_ble_eq_true rfl) (by decide) (by decide) (by decide) dX9_maySee_9 (fun x10 M9 => ?_)
    refine g_if_eq (tgt := 19) hC dX9_maySee_12 (by decide) (fun _ => ?_) (fun _ => ?_)
    · exact g_X9_maySee_b19 hC  M9 a1 a2 a3
    · refine g_iconst hC (v := 1) dX9_maySee_15 (by decide) ?_
      refine g_goto (tgt := 20) hC dX9_maySee_16 (by decide) ?_
      exact g_X9_maySee_b20 hC  M9 a1 a2 a3 1

-- ===== X9_certify =====
def f_X9_certify_b38  (M : gM) (a1 : Int32) (t1 : Int32) : gR := (rb (f_X9_refused M t1) (fun x2 M1 => (if x2 = 0 then (gI a1 24 (gI a1 24 (bM (gset M1 115 a1.toNatClampNeg (1 <<< ((M1 110 a1.toNatClampNeg) &&& 31))) (fun M3 => (rRet 0 M3))))) else (rRet 0 M1))))
def f_X9_certify_b33  (M : gM) (a1 : Int32)  : gR := (f_X9_certify_b38  M a1 2)
def f_X9_certify (M : gM) (a1 : Int32) : gR := (rb (f_X9_isClaim M a1) (fun x5 M4 => (if x5 = 0 then (f_X9_certify_b38  M4 a1 1) else (gI a1 24 (if (M4 115 a1.toNatClampNeg) = 0 then (gI a1 24 (if (M4 112 a1.toNatClampNeg) = 0 then (f_X9_certify_b38  M4 a1 0) else (f_X9_certify_b33  M4 a1 ))) else (f_X9_certify_b33  M4 a1 ))))))
abbrev rm_X9_certify : Room := { frames := 2, cells := 0, slots := 0, locals := 43 }
set_option maxRecDepth 20000 in
set_option maxHeartbeats 4000000 in
theorem g_X9_certify_b38 {p : Program} {l : Launch} {e : Env} {s : State} {m : MethodId} {args : Array Value} {below : List Frame} {meth : Method} {c : Code} {Z : gZ} (hC : gC p l s m args meth c cX9_certify 3 RX9 none Z)   (M : gM) (a1 : Int32) (t1 : Int32) : gW p l e rm_X9_certify s m args below meth c 3 Z 0 0 0 M 38 [(0, .ref (zad Z 9)), (1, .int a1)] [.int t1, .ref (zad Z 9)] (f_X9_certify_b38  M a1 t1) := by
  unfold f_X9_certify_b38
  refine g_callVi (n := 1) hC [.int t1] 9 9 (by decide) rfl rfl (fun hne => c_X9_refused hC.2.2.2.2.2.2.2.1 Z M t1 hne) lk_X9_155 mw_X9_refused.1 mw_X9_refused.2.1 mw_X9_refused.2.2.1 mw_X9_refused.2.2.2 ⟨rfl, by decide, by decide, by decide +kernel⟩ rfl rfl ⟨by decide, by decide⟩ rfl rfl (Nat.le_of_ble_eq_true rfl) (by decide) (by decide) (by decide) dX9_certify_38 (fun x2 M1 => ?_)
  refine g_if_ne (tgt := 58) hC dX9_certify_41 (by decide) (fun _ => ?_) (fun _ => ?_)
  · refine g_aload_n hC 0 dX9_certify_44 rfl rfl ?_
    refine gf_X9_50 hC dX9_certify_45 ?_
    refine g_iload_n hC 1 dX9_certify_48 rfl rfl ?_
    refine g_iconst hC (v := 1) dX9_certify_49 (by decide) ?_
    refine g_aload_n hC 0 dX9_certify_50 rfl rfl ?_
    refine gf_X9_35 hC dX9_certify_51 ?_
    refine g_iload_n hC 1 dX9_certify_54 rfl rfl ?_
    refine g_iald hC 110 (by decide) rfl dX9_certify_55 ?_
    refine g_ishl hC dX9_certify_56 ?_
    refine g_iast hC 115 (by decide) rfl dX9_certify_57 (fun M3 => ?_)
    exact g_vret hC rfl (by decide) dX9_certify_58
  · exact g_vret hC rfl (by decide) dX9_certify_58
set_option maxRecDepth 20000 in
set_option maxHeartbeats 4000000 in
theorem g_X9_certify_b33 {p : Program} {l : Launch} {e : Env} {s : State} {m : MethodId} {args : Array Value} {below : List Frame} {meth : Method} {c : Code} {Z : gZ} (hC : gC p l s m args meth c cX9_certify 3 RX9 none Z)   (M : gM) (a1 : Int32)  : gW p l e rm_X9_certify s m args below meth c 3 Z 0 0 0 M 33 [(0, .ref (zad Z 9)), (1, .int a1)] [.ref (zad Z 9)] (f_X9_certify_b33  M a1 ) := by
  unfold f_X9_certify_b33
  refine g_iconst hC (v := 2) dX9_certify_33 (by decide) ?_
  refine g_goto (tgt := 38) hC dX9_certify_34 (by decide) ?_
  exact g_X9_certify_b38 hC  M a1 2
set_option maxRecDepth 20000 in
set_option maxHeartbeats 4000000 in
theorem c_X9_certify {l : Launch} (hfl : l.stackTraces = false) (Z : gZ) (M : gM) (a1 : Int32) : gMet l yX9_certify cX9_certify 3 none rm_X9_certify 0 0 Z M [.ref (zad Z 9), .int a1] (f_X9_certify M a1) := by
  refine g_enter hfl (by decide) (Nat.le_of_ble_eq_true rfl) (fun p e s m args below meth c hC => ?_)
  refine g_eq (F := f_X9_certify M a1) rfl ?_
  refine g_lv0 (lv1 := [(0, .ref (zad Z 9)), (1, .int a1)]) rfl ?_
  unfold f_X9_certify
  refine g_aload_n hC 0 dX9_certify_0 rfl rfl ?_
  refine g_iload_n hC 1 dX9_certify_1 rfl rfl ?_
  refine g_callVi (n := 1) hC [.int a1] 9 9 (by decide) rfl rfl (fun hne => c_X9_isClaim hC.2.2.2.2.2.2.2.1 Z M a1 hne) lk_X9_195 mw_X9_isClaim.1 mw_X9_isClaim.2.1 mw_X9_isClaim.2.2.1 mw_X9_isClaim.2.2.2 ⟨rfl, by decide, by decide, by decide +kernel⟩ rfl rfl ⟨by decide, by decide⟩ rfl rfl (Nat.le_of_ble_eq_true rfl) (by decide) (by decide) (by decide) dX9_certify_2 (fun x5 M4 => ?_)
  refine g_istore_n hC (lv1 := [(2, .int x5), (0, .ref (zad Z 9)), (1, .int a1)]) dX9_certify_5 rfl (by decide) rfl ?_
  refine g_aload_n hC 1 dX9_certify_6 rfl rfl ?_
  refine g_iload_n hC 0 dX9_certify_7 rfl rfl ?_
  refine g_if_ne (tgt := 15) hC dX9_certify_8 (by decide) (fun _ => ?_) (fun _ => ?_)
  · refine g_iconst hC (v := 1) dX9_certify_11 (by decide) ?_
    refine g_goto (tgt := 38) hC dX9_certify_12 (by decide) ?_
    refine g_sub (lv1 := [(0, .ref (zad Z 9)), (1, .int a1)]) [1, 2] rfl ?_
    exact g_X9_certify_b38 hC  M4 a1 1
  · refine g_aload_n hC 1 dX9_certify_15 rfl rfl ?_
    refine gf_X9_50 hC dX9_certify_16 ?_
    refine g_iload_n hC 2 dX9_certify_19 rfl rfl ?_
    refine g_iald hC 115 (by decide) rfl dX9_certify_20 ?_
    refine g_if_ne (tgt := 33) hC dX9_certify_21 (by decide) (fun _ => ?_) (fun _ => ?_)
    · refine g_aload_n hC 1 dX9_certify_24 rfl rfl ?_
      refine gf_X9_41 hC dX9_certify_25 ?_
      refine g_iload_n hC 2 dX9_certify_28 rfl rfl ?_
      refine g_iald hC 112 (by decide) rfl dX9_certify_29 ?_
      refine g_if_eq (tgt := 37) hC dX9_certify_30 (by decide) (fun _ => ?_) (fun _ => ?_)
      · refine g_iconst hC (v := 0) dX9_certify_37 (by decide) ?_
        refine g_sub (lv1 := [(0, .ref (zad Z 9)), (1, .int a1)]) [1, 2] rfl ?_
        exact g_X9_certify_b38 hC  M4 a1 0
      · refine g_sub (lv1 := [(0, .ref (zad Z 9)), (1, .int a1)]) [1, 2] rfl ?_
        exact g_X9_certify_b33 hC  M4 a1 
    · refine g_sub (lv1 := [(0, .ref (zad Z 9)), (1, .int a1)]) [1, 2] rfl ?_
      exact g_X9_certify_b33 hC  M4 a1 

-- ===== X9_countOf =====
def f_X9_countOf_lb4  (self4 : gM → Int32 → Int32 → Int32 → gR) (M : gM) (a1 : Int32) (a2 : Int32) (a3 : Int32) : gR := (if 16 ≤ a3 then (rRet a2 M) else (gI a1 24 (bV (a2 + (((M 115 a1.toNatClampNeg) >>> (a3 &&& 31)) &&& 1)) (fun x1 => (bV (a3 + 1) (fun x2 => (self4 M a1 x1 x2)))))))
def f_X9_countOf_l4  : Nat → gM → Int32 → Int32 → Int32 → gR
  | 0, _, _, _, _ => rStuck
  | n + 1, M, a1, a2, a3 => f_X9_countOf_lb4  (f_X9_countOf_l4  n) M a1 a2 a3
def f_X9_countOf (M : gM) (a1 : Int32) : gR := (f_X9_countOf_l4  5000 M a1 0 0)
abbrev rm_X9_countOf : Room := { frames := 0, cells := 0, slots := 0, locals := 0 }
set_option maxRecDepth 20000 in
set_option maxHeartbeats 4000000 in
theorem g_X9_countOf_lb4 {p : Program} {l : Launch} {e : Env} {s : State} {m : MethodId} {args : Array Value} {below : List Frame} {meth : Method} {c : Code} {Z : gZ} (hC : gC p l s m args meth c cX9_countOf 4 RX9 (some .int) Z)  {self4 : gM → Int32 → Int32 → Int32 → gR}  (hs4 : ∀ (M : gM) (a1 : Int32) (a2 : Int32) (a3 : Int32) , gW p l e rm_X9_countOf s m args below meth c 4 Z 1 0 0 M 4 [(0, .ref (zad Z 9)), (1, .int a1), (2, .int a2), (3, .int a3)] [] (self4 M a1 a2 a3)) (M : gM) (a1 : Int32) (a2 : Int32) (a3 : Int32) : gW p l e rm_X9_countOf s m args below meth c 4 Z 1 0 0 M 4 [(0, .ref (zad Z 9)), (1, .int a1), (2, .int a2), (3, .int a3)] [] (f_X9_countOf_lb4  self4 M a1 a2 a3) := by
  unfold f_X9_countOf_lb4
  refine g_iload_n hC 3 dX9_countOf_4 rfl rfl ?_
  refine g_bipush hC (v := 16) dX9_countOf_5 (by decide) ?_
  refine g_icmp_ge (tgt := 29) hC dX9_countOf_7 (by decide) (fun _ => ?_) (fun _ => ?_)
  · refine g_iload_n hC 2 dX9_countOf_29 rfl rfl ?_
    exact g_iret hC rfl (by decide) dX9_countOf_30
  · refine g_iload_n hC 2 dX9_countOf_10 rfl rfl ?_
    refine g_aload_n hC 0 dX9_countOf_11 rfl rfl ?_
    refine gf_X9_50 hC dX9_countOf_12 ?_
    refine g_iload_n hC 1 dX9_countOf_15 rfl rfl ?_
    refine g_iald hC 115 (by decide) rfl dX9_countOf_16 ?_
    refine g_iload_n hC 3 dX9_countOf_17 rfl rfl ?_
    refine g_ishr hC dX9_countOf_18 ?_
    refine g_iconst hC (v := 1) dX9_countOf_19 (by decide) ?_
    refine g_iand hC dX9_countOf_20 ?_
    refine g_iadd hC dX9_countOf_21 ?_
    refine g_bv (fun x1 => ?_)
    refine g_istore_n hC (lv1 := [(2, .int x1), (0, .ref (zad Z 9)), (1, .int a1), (3, .int a3)]) dX9_countOf_22 rfl (by decide) rfl ?_
    refine g_iinc hC 3 (v := 1) (fun x2 => [(3, .int x2), (2, .int x1), (0, .ref (zad Z 9)), (1, .int a1)]) dX9_countOf_23 rfl (by decide) (by decide) (fun _ => rfl) (fun x2 => ?_)
    refine g_goto (tgt := 4) hC dX9_countOf_26 (by decide) ?_
    refine g_sub (lv1 := [(0, .ref (zad Z 9)), (1, .int a1), (2, .int x1), (3, .int x2)]) [2, 3, 1, 0] rfl ?_
    exact hs4 M a1 x1 x2
set_option maxRecDepth 20000 in
set_option maxHeartbeats 4000000 in
theorem g_X9_countOf_l4 {p : Program} {l : Launch} {e : Env} {s : State} {m : MethodId} {args : Array Value} {below : List Frame} {meth : Method} {c : Code} {Z : gZ} (hC : gC p l s m args meth c cX9_countOf 4 RX9 (some .int) Z)   : ∀ (n : Nat) (M : gM) (a1 : Int32) (a2 : Int32) (a3 : Int32), gW p l e rm_X9_countOf s m args below meth c 4 Z 1 0 0 M 4 [(0, .ref (zad Z 9)), (1, .int a1), (2, .int a2), (3, .int a3)] [] (f_X9_countOf_l4  n M a1 a2 a3)
  | 0, _, _, _, _ => g_stuck
  | n + 1, M, a1, a2, a3 => g_X9_countOf_lb4 hC  (g_X9_countOf_l4 hC  n) M a1 a2 a3
set_option maxRecDepth 20000 in
set_option maxHeartbeats 4000000 in
theorem c_X9_countOf {l : Launch} (hfl : l.stackTraces = false) (Z : gZ) (M : gM) (a1 : Int32) : gMet l yX9_countOf cX9_countOf 4 (some .int) rm_X9_countOf 1 0 Z M [.ref (zad Z 9), .int a1] (f_X9_countOf M a1) := by
  refine g_enter hfl (by decide) (Nat.le_of_ble_eq_true rfl) (fun p e s m args below meth c hC => ?_)
  refine g_eq (F := f_X9_countOf M a1) rfl ?_
  refine g_lv0 (lv1 := [(0, .ref (zad Z 9)), (1, .int a1)]) rfl ?_
  unfold f_X9_countOf
  refine g_iconst hC (v := 0) dX9_countOf_0 (by decide) ?_
  refine g_istore_n hC (lv1 := [(2, .int 0), (0, .ref (zad Z 9)), (1, .int a1)]) dX9_countOf_1 rfl (by decide) rfl ?_
  refine g_iconst hC (v := 0) dX9_countOf_2 (by decide) ?_
  refine g_istore_n hC (lv1 := [(3, .int 0), (2, .int 0), (0, .ref (zad Z 9)), (1, .int a1)]) dX9_countOf_3 rfl (by decide) rfl ?_
  refine g_sub (lv1 := [(0, .ref (zad Z 9)), (1, .int a1), (2, .int 0), (3, .int 0)]) [2, 3, 1, 0] rfl ?_
  exact g_X9_countOf_l4 hC  5000 M a1 0 0
