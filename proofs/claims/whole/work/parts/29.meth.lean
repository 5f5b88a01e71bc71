-- ===== X9_member =====
def f_X9_member_b128  (M : gM) (a1 : Int32) (t1 : Int32) (t2 : Int32) : gR := (gI t1 24 (bM (gset M 115 t1.toNatClampNeg t2) (fun M1 => (rb (f_X9_countOf M1 a1) (fun x3 M2 => (rRet x3 M2))))))
def f_X9_member_b86  (M : gM) (a1 : Int32) (a2 : Int32) (a3 : Int32) (t1 : Int32) : gR := (rb (f_X9_refused M t1) (fun x5 M4 => (if x5 = 0 then (if a3 = 0 then (gI a1 24 (f_X9_member_b128  M4 a1 a1 ((M4 115 a1.toNatClampNeg) &&& ((1 <<< (a2 &&& 31)) ^^^ (-1))))) else (gI a1 24 (f_X9_member_b128  M4 a1 a1 ((M4 115 a1.toNatClampNeg) ||| (1 <<< (a2 &&& 31)))))) else (rRet 0 M4))))
def f_X9_member_b64  (M : gM) (a1 : Int32) (a2 : Int32) (a3 : Int32) (a4 : Int32) (t0 : Int32) : gR := (if a4 = 0 then (f_X9_member_b86  M a1 a2 a3 1) else (if t0 = 0 then (f_X9_member_b86  M a1 a2 a3 2) else (f_X9_member_b86  M a1 a2 a3 0)))
def f_X9_member_b59  (M : gM) (a1 : Int32) (a2 : Int32) (a3 : Int32) (a4 : Int32)  : gR := (f_X9_member_b64  M a1 a2 a3 a4 1)
def f_X9_member_b63  (M : gM) (a1 : Int32) (a2 : Int32) (a3 : Int32) (a4 : Int32)  : gR := (f_X9_member_b64  M a1 a2 a3 a4 0)
def f_X9_member_b20  (M : gM) (a1 : Int32) (a2 : Int32) (a3 : Int32) (t0 : Int32) : gR := (if t0 = 0 then (f_X9_member_b63  M a1 a2 a3 t0 ) else (gI a1 24 (if (M 115 a1.toNatClampNeg) = 0 then (f_X9_member_b63  M a1 a2 a3 t0 ) else (gI a1 24 (if (M 112 a1.toNatClampNeg) = 0 then (if a3 = 0 then (gI a1 24 (if (M 110 a1.toNatClampNeg) = a2 then (f_X9_member_b63  M a1 a2 a3 t0 ) else (f_X9_member_b59  M a1 a2 a3 t0 ))) else (f_X9_member_b59  M a1 a2 a3 t0 )) else (f_X9_member_b63  M a1 a2 a3 t0 ))))))
def f_X9_member_b19  (M : gM) (a1 : Int32) (a2 : Int32) (a3 : Int32)  : gR := (f_X9_member_b20  M a1 a2 a3 0)
def f_X9_member (M : gM) (a1 : Int32) (a2 : Int32) (a3 : Int32) : gR := (rb (f_X9_isClaim M a1) (fun x7 M6 => (if x7 = 0 then (f_X9_member_b19  M6 a1 a2 a3 ) else (rb (f_X9_isPerson M6 a2) (fun x9 M8 => (if x9 = 0 then (f_X9_member_b19  M8 a1 a2 a3 ) else (f_X9_member_b20  M8 a1 a2 a3 1)))))))
abbrev rm_X9_member : Room := { frames := 2, cells := 0, slots := 0, locals := 43 }
set_option maxRecDepth 20000 in
set_option maxHeartbeats 4000000 in
theorem g_X9_member_b128 {p : Program} {l : Launch} {e : Env} {s : State} {m : MethodId} {args : Array Value} {below : List Frame} {meth : Method} {c : Code} {Z : gZ} (hC : gC p l s m args meth c cX9_member 6 RX9 (some .int) Z)   (M : gM) (a1 : Int32) (t1 : Int32) (t2 : Int32) : gW p l e rm_X9_member s m args below meth c 6 Z 1 0 0 M 128 [(0, .ref (zad Z 9)), (1, .int a1)] [.int t2, .int t1, .ref (zad Z 115)] (f_X9_member_b128  M a1 t1 t2) := by
  unfold f_X9_member_b128
  refine g_iast hC 115 (by decide) rfl dX9_member_128 (fun M1 => ?_)
  refine g_aload_n hC 0 dX9_member_129 rfl rfl ?_
  refine g_iload_n hC 1 dX9_member_130 rfl rfl ?_
  refine g_callVi (n := 1) hC [.int a1] 9 9 (by decide) rfl rfl (fun hne => c_X9_countOf hC.2.2.2.2.2.2.2.1 Z M1 a1 hne) lk_X9_300 mw_X9_countOf.1 mw_X9_countOf.2.1 mw_X9_countOf.2.2.1 mw_X9_countOf.2.2.2 ⟨rfl, by decide, by decide, by decide +kernel⟩ rfl rfl ⟨by decide, by decide⟩ rfl rfl (Nat.le_of_ble_eq_true rfl) (by decide) (by decide) (by decide) dX9_member_131 (fun x3 M2 => ?_)
  exact g_iret hC rfl (by decide) dX9_member_134
set_option maxRecDepth 20000 in
set_option maxHeartbeats 4000000 in
theorem g_X9_member_b86 {p : Program} {l : Launch} {e : Env} {s : State} {m : MethodId} {args : Array Value} {below : List Frame} {meth : Method} {c : Code} {Z : gZ} (hC : gC p l s m args meth c cX9_member 6 RX9 (some .int) Z)   (M : gM) (a1 : Int32) (a2 : Int32) (a3 : Int32) (t1 : Int32) : gW p l e rm_X9_member s m args below meth c 6 Z 1 0 0 M 86 [(0, .ref (zad Z 9)), (1, .int a1), (2, .int a2), (3, .int a3)] [.int t1, .ref (zad Z 9)] (f_X9_member_b86  M a1 a2 a3 t1) := by
  unfold f_X9_member_b86
  refine g_callVi (n := 1) hC [.int t1] 9 9 (by decide) rfl rfl (fun hne => c_X9_refused hC.2.2.2.2.2.2.2.1 Z M t1 hne) lk_X9_155 mw_X9_refused.1 mw_X9_refused.2.1 mw_X9_refused.2.2.1 mw_X9_refused.2.2.2 ⟨rfl, by decide, by decide, by decide +kernel⟩ rfl rfl ⟨by decide, by decide⟩ rfl rfl (Nat.le_of_ble_eq_true rfl) (by decide) (by decide) (by decide) dX9_member_86 (fun x5 M4 => ?_)
  refine g_if_eq (tgt := 94) hC dX9_member_89 (by decide) (fun _ => ?_) (fun _ => ?_)
  · refine g_aload_n hC 0 dX9_member_94 rfl rfl ?_
    refine gf_X9_50 hC dX9_member_95 ?_
    refine g_iload_n hC 1 dX9_member_98 rfl rfl ?_
    refine g_iload_n hC 3 dX9_member_99 rfl rfl ?_
    refine g_if_eq (tgt := 116) hC dX9_member_100 (by decide) (fun _ => ?_) (fun _ => ?_)
    · refine g_aload_n hC 0 dX9_member_116 rfl rfl ?_
      refine gf_X9_50 hC dX9_member_117 ?_
      refine g_iload_n hC 1 dX9_member_120 rfl rfl ?_
      refine g_iald hC 115 (by decide) rfl dX9_member_121 ?_
      refine g_iconst hC (v := 1) dX9_member_122 (by decide) ?_
      refine g_iload_n hC 2 dX9_member_123 rfl rfl ?_
      refine g_ishl hC dX9_member_124 ?_
      refine g_iconst hC (v := (-1)) dX9_member_125 (by decide) ?_
      refine g_ixor hC dX9_member_126 ?_
      refine g_iand hC dX9_member_127 ?_
      refine g_sub (lv1 := [(0, .ref (zad Z 9)), (1, .int a1)]) [0, 1] rfl ?_
      exact g_X9_member_b128 hC  M4 a1 a1 ((M4 115 a1.toNatClampNeg) &&& ((1 <<< (a2 &&& 31)) ^^^ (-1)))
    · refine g_aload_n hC 0 dX9_member_103 rfl rfl ?_
      refine gf_X9_50 hC dX9_member_104 ?_
      refine g_iload_n hC 1 dX9_member_107 rfl rfl ?_
      refine g_iald hC 115 (by decide) rfl dX9_member_108 ?_
      refine g_iconst hC (v := 1) dX9_member_109 (by decide) ?_
      refine g_iload_n hC 2 dX9_member_110 rfl rfl ?_
      refine g_ishl hC dX9_member_111 ?_
      refine g_ior hC dX9_member_112 ?_
      refine g_goto (tgt := 128) hC dX9_member_113 (by decide) ?_
      refine g_sub (lv1 := [(0, .ref (zad Z 9)), (1, .int a1)]) [0, 1] rfl ?_
      exact g_X9_member_b128 hC  M4 a1 a1 ((M4 115 a1.toNatClampNeg) ||| (1 <<< (a2 &&& 31)))
  · refine g_iconst hC (v := 0) dX9_member_92 (by decide) ?_
    exact g_iret hC rfl (by decide) dX9_member_93
set_option maxRecDepth 20000 in
set_option maxHeartbeats 4000000 in
theorem g_X9_member_b64 {p : Program} {l : Launch} {e : Env} {s : State} {m : MethodId} {args : Array Value} {below : List Frame} {meth : Method} {c : Code} {Z : gZ} (hC : gC p l s m args meth c cX9_member 6 RX9 (some .int) Z)   (M : gM) (a1 : Int32) (a2 : Int32) (a3 : Int32) (a4 : Int32) (t0 : Int32) : gW p l e rm_X9_member s m args below meth c 6 Z 1 0 0 M 64 [(0, .ref (zad Z 9)), (1, .int a1), (2, .int a2), (3, .int a3), (4, .int a4)] [.int t0] (f_X9_member_b64  M a1 a2 a3 a4 t0) := by
  unfold f_X9_member_b64
  refine g_istore hC (lv1 := [(5, .int t0), (0, .ref (zad Z 9)), (1, .int a1), (2, .int a2), (3, .int a3), (4, .int a4)]) dX9_member_64 (by decide) rfl ?_
  refine g_aload_n hC 1 dX9_member_66 rfl rfl ?_
  refine g_iload hC 5 dX9_member_67 rfl ?_
  refine g_if_ne (tgt := 76) hC dX9_member_69 (by decide) (fun _ => ?_) (fun _ => ?_)
  · refine g_iconst hC (v := 1) dX9_member_72 (by decide) ?_
    refine g_goto (tgt := 86) hC dX9_member_73 (by decide) ?_
    refine g_sub (lv1 := [(0, .ref (zad Z 9)), (1, .int a1), (2, .int a2), (3, .int a3)]) [1, 2, 3, 4] rfl ?_
    exact g_X9_member_b86 hC  M a1 a2 a3 1
  · refine g_iload hC 0 dX9_member_76 rfl ?_
    refine g_if_ne (tgt := 85) hC dX9_member_78 (by decide) (fun _ => ?_) (fun _ => ?_)
    · refine g_iconst hC (v := 2) dX9_member_81 (by decide) ?_
      refine g_goto (tgt := 86) hC dX9_member_82 (by decide) ?_
      refine g_sub (lv1 := [(0, .ref (zad Z 9)), (1, .int a1), (2, .int a2), (3, .int a3)]) [1, 2, 3, 4] rfl ?_
      exact g_X9_member_b86 hC  M a1 a2 a3 2
    · refine g_iconst hC (v := 0) dX9_member_85 (by decide) ?_
      refine g_sub (lv1 := [(0, .ref (zad Z 9)), (1, .int a1), (2, .int a2), (3, .int a3)]) [1, 2, 3, 4] rfl ?_
      exact g_X9_member_b86 hC  M a1 a2 a3 0
set_option maxRecDepth 20000 in
set_option maxHeartbeats 4000000 in
theorem g_X9_member_b59 {p : Program} {l : Launch} {e : Env} {s : State} {m : MethodId} {args : Array Value} {below : List Frame} {meth : Method} {c : Code} {Z : gZ} (hC : gC p l s m args meth c cX9_member 6 RX9 (some .int) Z)   (M : gM) (a1 : Int32) (a2 : Int32) (a3 : Int32) (a4 : Int32)  : gW p l e rm_X9_member s m args below meth c 6 Z 1 0 0 M 59 [(0, .ref (zad Z 9)), (1, .int a1), (2, .int a2), (3, .int a3), (4, .int a4)] [] (f_X9_member_b59  M a1 a2 a3 a4 ) := by
  unfold f_X9_member_b59
  refine g_iconst hC (v := 1) dX9_member_59 (by decide) ?_
  refine g_goto (tgt := 64) hC dX9_member_60 (by decide) ?_
  exact g_X9_member_b64 hC  M a1 a2 a3 a4 1
set_option maxRecDepth 20000 in
set_option maxHeartbeats 4000000 in
theorem g_X9_member_b63 {p : Program} {l : Launch} {e : Env} {s : State} {m : MethodId} {args : Array Value} {below : List Frame} {meth : Method} {c : Code} {Z : gZ} (hC : gC p l s m args meth c cX9_member 6 RX9 (some .int) Z)   (M : gM) (a1 : Int32) (a2 : Int32) (a3 : Int32) (a4 : Int32)  : gW p l e rm_X9_member s m args below meth c 6 Z 1 0 0 M 63 [(0, .ref (zad Z 9)), (1, .int a1), (2, .int a2), (3, .int a3), (4, .int a4)] [] (f_X9_member_b63  M a1 a2 a3 a4 ) := by
  unfold f_X9_member_b63
  refine g_iconst hC (v := 0) dX9_member_63 (by decide) ?_
  exact g_X9_member_b64 hC  M a1 a2 a3 a4 0
set_option maxRecDepth 20000 in
set_option maxHeartbeats 4000000 in
theorem g_X9_member_b20 {p : Program} {l : Launch} {e : Env} {s : State} {m : MethodId} {args : Array Value} {below : List Frame} {meth : Method} {c : Code} {Z : gZ} (hC : gC p l s m args meth c cX9_member 6 RX9 (some .int) Z)   (M : gM) (a1 : Int32) (a2 : Int32) (a3 : Int32) (t0 : Int32) : gW p l e rm_X9_member s m args below meth c 6 Z 1 0 0 M 20 [(0, .ref (zad Z 9)), (1, .int a1), (2, .int a2), (3, .int a3)] [.int t0] (f_X9_member_b20  M a1 a2 a3 t0) := by
  unfold f_X9_member_b20
  refine g_istore hC (lv1 := [(4, .int t0), (0, .ref (zad Z 9)), (1, .int a1), (2, .int a2), (3, .int a3)]) dX9_member_20 (by decide) rfl ?_
  refine g_iload hC 0 dX9_member_22 rfl ?_
  refine g_if_eq (tgt := 63) hC dX9_member_24 (by decide) (fun _ => ?_) (fun _ => ?_)
  · refine g_sub (lv1 := [(0, .ref (zad Z 9)), (1, .int a1), (2, .int a2), (3, .int a3), (4, .int t0)]) [1, 2, 3, 4, 0] rfl ?_
    exact g_X9_member_b63 hC  M a1 a2 a3 t0 
  · refine g_aload_n hC 1 dX9_member_27 rfl rfl ?_
    refine gf_X9_50 hC dX9_member_28 ?_
    refine g_iload_n hC 2 dX9_member_31 rfl rfl ?_
    refine g_iald hC 115 (by decide) rfl dX9_member_32 ?_
    refine g_if_eq (tgt := 63) hC dX9_member_33 (by decide) (fun _ => ?_) (fun _ => ?_)
    · refine g_sub (lv1 := [(0, .ref (zad Z 9)), (1, .int a1), (2, .int a2), (3, .int a3), (4, .int t0)]) [1, 2, 3, 4, 0] rfl ?_
      exact g_X9_member_b63 hC  M a1 a2 a3 t0 
    · refine g_aload_n hC 1 dX9_member_36 rfl rfl ?_
      refine gf_X9_41 hC dX9_member_37 ?_
      refine g_iload_n hC 2 dX9_member_40 rfl rfl ?_
      refine g_iald hC 112 (by decide) rfl dX9_member_41 ?_
      refine g_if_ne (tgt := 63) hC dX9_member_42 (by decide) (fun _ => ?_) (fun _ => ?_)
      · refine g_iload_n hC 4 dX9_member_45 rfl rfl ?_
        refine g_if_ne (tgt := 59) hC dX9_member_46 (by decide) (fun _ => ?_) (fun _ => ?_)
        · refine g_aload_n hC 1 dX9_member_49 rfl rfl ?_
          refine gf_X9_35 hC dX9_member_50 ?_
          refine g_iload_n hC 2 dX9_member_53 rfl rfl ?_
          refine g_iald hC 110 (by decide) rfl dX9_member_54 ?_
          refine g_iload_n hC 3 dX9_member_55 rfl rfl ?_
          refine g_icmp_eq (tgt := 63) hC dX9_member_56 (by decide) (fun _ => ?_) (fun _ => ?_)
          · refine g_sub (lv1 := [(0, .ref (zad Z 9)), (1, .int a1), (2, .int a2), (3, .int a3), (4, .int t0)]) [1, 2, 3, 4, 0] rfl ?_
            exact g_X9_member_b63 hC  M a1 a2 a3 t0 
          · refine g_sub (lv1 := [(0, .ref (zad Z 9)), (1, .int a1), (2, .int a2), (3, .int a3), (4, .int t0)]) [1, 2, 3, 4, 0] rfl ?_
            exact g_X9_member_b59 hC  M a1 a2 a3 t0 
        · refine g_sub (lv1 := [(0, .ref (zad Z 9)), (1, .int a1), (2, .int a2), (3, .int a3), (4, .int t0)]) [1, 2, 3, 4, 0] rfl ?_
          exact g_X9_member_b59 hC  M a1 a2 a3 t0 
      · refine g_sub (lv1 := [(0, .ref (zad Z 9)), (1, .int a1), (2, .int a2), (3, .int a3), (4, .int t0)]) [1, 2, 3, 4, 0] rfl ?_
        exact g_X9_member_b63 hC  M a1 a2 a3 t0 
set_option maxRecDepth 20000 in
set_option maxHeartbeats 4000000 in
theorem g_X9_member_b19 {p : Program} {l : Launch} {e : Env} {s : State} {m : MethodId} {args : Array Value} {below : List Frame} {meth : Method} {c : Code} {Z : gZ} (hC : gC p l s m args meth c cX9_member 6 RX9 (some .int) Z)   (M : gM) (a1 : Int32) (a2 : Int32) (a3 : Int32)  : gW p l e rm_X9_member s m args below meth c 6 Z 1 0 0 M 19 [(0, .ref (zad Z 9)), (1, .int a1), (2, .int a2), (3, .int a3)] [] (f_X9_member_b19  M a1 a2 a3 ) := by
  unfold f_X9_member_b19
  refine g_iconst hC (v := 0) dX9_member_19 (by decide) ?_
  exact g_X9_member_b20 hC  M a1 a2 a3 0
set_option maxRecDepth 20000 in
set_option maxHeartbeats 4000000 in
theorem c_X9_member {l : Launch} (hfl : l.stackTraces = false) (Z : gZ) (M : gM) (a1 : Int32) (a2 : Int32) (a3 : Int32) : gMet l yX9_member cX9_member 6 (some .int) rm_X9_member 1 0 Z M [.ref (zad Z 9), .int a1, .int a2, .int a3] (f_X9_member M a1 a2 a3) := by
  refine g_enter hfl (by decide) (Nat.le_of_ble_eq_true rfl) (fun p e s m args below meth c hC => ?_)
  refine g_eq (F := f_X9_member M a1 a2 a3) rfl ?_
  refine g_lv0 (lv1 := [(0, .ref (zad Z 9)), (1, .int a1), (2, .int a2), (3, .int a3)]) rfl ?_
  unfold f_X9_member
  refine g_aload_n hC 0 dX9_member_0 rfl rfl ?_
  refine g_iload_n hC 1 dX9_member_1 rfl rfl ?_
  refine g_callVi (n := 1) hC [.int a1] 9 9 (by decide) rfl rfl (fun hne => c_X9_isClaim hC.2.2.2.2.2.2.2.1 Z M a1 hne) lk_X9_195 mw_X9_isClaim.1 mw_X9_isClaim.2.1 mw_X9_isClaim.2.2.1 mw_X9_isClaim.2.2.2 ⟨rfl, by decide, by decide, by decide +kernel⟩ rfl rfl ⟨by decide, by decide⟩ rfl rfl (Nat.le_of_ble_eq_true rfl) (by decide) (by decide) (by decide) dX9_member_2 (fun x7 M6 => ?_)
  refine g_if_eq (tgt := 19) hC dX9_member_5 (by decide) (fun _ => ?_) (fun _ => ?_)
  · exact g_X9_member_b19 hC  M6 a1 a2 a3
  · refine g_iload_n hC 2 dX9_member_8 rfl rfl ?_
    refine g_callSi (n := 1) hC [.int a2] (fun hne => c_X9_isPerson hC.2.2.2.2.2.2.2.1 Z M6 a2 hne) lk_X9_184 mw_X9_isPerson.1 mw_X9_isPerson.2.1 mw_X9_isPerson.2.2 ⟨by decide, by decide, by decide +kernel⟩ rfl rfl ⟨by decide, by decide⟩ rfl rfl (Nat.le_of_ble_eq_true rfl) (by decide) (by decide) (by decide) dX9_member_9 (fun x9 M8 => ?_)
    refine g_if_eq (tgt := 19) hC dX9_member_12 (by decide) (fun _ => ?_) (fun _ => ?_)
    · exact g_X9_member_b19 hC  M8 a1 a2 a3
    · refine g_iconst hC (v := 1) dX9_member_15 (by decide) ?_
      refine g_goto (tgt := 20) hC dX9_member_16 (by decide) ?_
      exact g_X9_member_b20 hC  M8 a1 a2 a3 1

-- ===== X9_share =====
def f_X9_share_b31  (M : gM) (a1 : Int32) (a2 : Int32) (t1 : Int32) : gR := (rb (f_X9_refused M t1) (fun x2 M1 => (if x2 = 0 then (gI a1 24 (if (((M1 115 a1.toNatClampNeg) >>> (a2 &&& 31)) &&& 1) = 1 then (rb (f_X9_paid M1 a1) (fun x4 M3 => (rb (f_X9_countOf M3 a1) (fun x6 M5 => (gNz x6 (rRet (x4 / x6) M5)))))) else (rRet 0 M1))) else (rRet 0 M1))))
def f_X9_share_b20  (M : gM) (a1 : Int32) (a2 : Int32) (t0 : Int32) : gR := (if t0 = 0 then (f_X9_share_b31  M a1 a2 1) else (f_X9_share_b31  M a1 a2 0))
def f_X9_share_b19  (M : gM) (a1 : Int32) (a2 : Int32)  : gR := (f_X9_share_b20  M a1 a2 0)
def f_X9_share (M : gM) (a1 : Int32) (a2 : Int32) : gR := (rb (f_X9_isClaim M a1) (fun x8 M7 => (if x8 = 0 then (f_X9_share_b19  M7 a1 a2 ) else (rb (f_X9_isPerson M7 a2) (fun x10 M9 => (if x10 = 0 then (f_X9_share_b19  M9 a1 a2 ) else (f_X9_share_b20  M9 a1 a2 1)))))))
abbrev rm_X9_share : Room := { frames := 2, cells := 0, slots := 0, locals := 43 }
set_option maxRecDepth 20000 in
set_option maxHeartbeats 4000000 in
theorem g_X9_share_b31 {p : Program} {l : Launch} {e : Env} {s : State} {m : MethodId} {args : Array Value} {below : List Frame} {meth : Method} {c : Code} {Z : gZ} (hC : gC p l s m args meth c cX9_share 4 RX9 (some .int) Z)   (M : gM) (a1 : Int32) (a2 : Int32) (t1 : Int32) : gW p l e rm_X9_share s m args below meth c 4 Z 1 0 0 M 31 [(0, .ref (zad Z 9)), (1, .int a1), (2, .int a2)] [.int t1, .ref (zad Z 9)] (f_X9_share_b31  M a1 a2 t1) := by
  unfold f_X9_share_b31
  refine g_callVi (n := 1) hC [.int t1] 9 9 (by decide) rfl rfl (fun hne => c_X9_refused hC.2.2.2.2.2.2.2.1 Z M t1 hne) lk_X9_155 mw_X9_refused.1 mw_X9_refused.2.1 mw_X9_refused.2.2.1 mw_X9_refused.2.2.2 ⟨rfl, by decide, by decide, by decide +kernel⟩ rfl rfl ⟨by decide, by decide⟩ rfl rfl (Nat.le_of_ble_eq_true rfl) (by decide) (by decide) (by decide) dX9_share_31 (fun x2 M1 => ?_)
  refine g_if_eq (tgt := 39) hC dX9_share_34 (by decide) (fun _ => ?_) (fun _ => ?_)
  · refine g_aload_n hC 0 dX9_share_39 rfl rfl ?_
    refine gf_X9_50 hC dX9_share_40 ?_
    refine g_iload_n hC 1 dX9_share_43 rfl rfl ?_
    refine g_iald hC 115 (by decide) rfl dX9_share_44 ?_
    refine g_iload_n hC 2 dX9_share_45 rfl rfl ?_
    refine g_ishr hC dX9_share_46 ?_
    refine g_iconst hC (v := 1) dX9_share_47 (by decide) ?_
    refine g_iand hC dX9_share_48 ?_
    refine g_iconst hC (v := 1) dX9_share_49 (by decide) ?_
    refine g_icmp_ne (tgt := 67) hC dX9_share_50 (by decide) (fun _ => ?_) (fun _ => ?_)
    · refine g_aload_n hC 0 dX9_share_53 rfl rfl ?_
      refine g_iload_n hC 1 dX9_share_54 rfl rfl ?_
      refine g_callVi (n := 1) hC [.int a1] 9 9 (by decide) rfl rfl (fun hne => c_X9_paid hC.2.2.2.2.2.2.2.1 Z M1 a1 hne) lk_X9_262 mw_X9_paid.1 mw_X9_paid.2.1 mw_X9_paid.2.2.1 mw_X9_paid.2.2.2 ⟨rfl, by decide, by decide, by decide +kernel⟩ rfl rfl ⟨by decide, by decide⟩ rfl rfl (Nat.le_of_ble_eq_true rfl) (by decide) (by decide) (by decide) dX9_share_55 (fun x4 M3 => ?_)
      refine g_aload_n hC 0 dX9_share_58 rfl rfl ?_
      refine g_iload_n hC 1 dX9_share_59 rfl rfl ?_
      refine g_callVi (n := 1) hC [.int a1] 9 9 (by decide) rfl rfl (fun hne => c_X9_countOf hC.2.2.2.2.2.2.2.1 Z M3 a1 hne) lk_X9_300 mw_X9_countOf.1 mw_X9_countOf.2.1 mw_X9_countOf.2.2.1 mw_X9_countOf.2.2.2 ⟨rfl, by decide, by decide, by decide +kernel⟩ rfl rfl ⟨by decide, by decide⟩ rfl rfl (Nat.le_of_ble_eq_true rfl) (by decide) (by decide) (by decide) dX9_share_60 (fun x6 M5 => ?_)
      refine g_idiv hC dX9_share_63 ?_
      refine g_goto (tgt := 68) hC dX9_share_64 (by decide) ?_
      exact g_iret hC rfl (by decide) dX9_share_68
    · refine g_iconst hC (v := 0) dX9_share_67 (by decide) ?_
      exact g_iret hC rfl (by decide) dX9_share_68
  · refine g_iconst hC (v := 0) dX9_share_37 (by decide) ?_
    exact g_iret hC rfl (by decide) dX9_share_38
set_option maxRecDepth 20000 in
set_option maxHeartbeats 4000000 in
theorem g_X9_share_b20 {p : Program} {l : Launch} {e : Env} {s : State} {m : MethodId} {args : Array Value} {below : List Frame} {meth : Method} {c : Code} {Z : gZ} (hC : gC p l s m args meth c cX9_share 4 RX9 (some .int) Z)   (M : gM) (a1 : Int32) (a2 : Int32) (t0 : Int32) : gW p l e rm_X9_share s m args below meth c 4 Z 1 0 0 M 20 [(0, .ref (zad Z 9)), (1, .int a1), (2, .int a2)] [.int t0] (f_X9_share_b20  M a1 a2 t0) := by
  unfold f_X9_share_b20
  refine g_istore_n hC (lv1 := [(3, .int t0), (0, .ref (zad Z 9)), (1, .int a1), (2, .int a2)]) dX9_share_20 rfl (by decide) rfl ?_
  refine g_aload_n hC 1 dX9_share_21 rfl rfl ?_
  refine g_iload_n hC 0 dX9_share_22 rfl rfl ?_
  refine g_if_eq (tgt := 30) hC dX9_share_23 (by decide) (fun _ => ?_) (fun _ => ?_)
  · refine g_iconst hC (v := 1) dX9_share_30 (by decide) ?_
    refine g_sub (lv1 := [(0, .ref (zad Z 9)), (1, .int a1), (2, .int a2)]) [1, 2, 3] rfl ?_
    exact g_X9_share_b31 hC  M a1 a2 1
  · refine g_iconst hC (v := 0) dX9_share_26 (by decide) ?_
    refine g_goto (tgt := 31) hC dX9_share_27 (by decide) ?_
    refine g_sub (lv1 := [(0, .ref (zad Z 9)), (1, .int a1), (2, .int a2)]) [1, 2, 3] rfl ?_
    exact g_X9_share_b31 hC  M a1 a2 0
set_option maxRecDepth 20000 in
set_option maxHeartbeats 4000000 in
theorem g_X9_share_b19 {p : Program} {l : Launch} {e : Env} {s : State} {m : MethodId} {args : Array Value} {below : List Frame} {meth : Method} {c : Code} {Z : gZ} (hC : gC p l s m args meth c cX9_share 4 RX9 (some .int) Z)   (M : gM) (a1 : Int32) (a2 : Int32)  : gW p l e rm_X9_share s m args below meth c 4 Z 1 0 0 M 19 [(0, .ref (zad Z 9)), (1, .int a1), (2, .int a2)] [] (f_X9_share_b19  M a1 a2 ) := by
  unfold f_X9_share_b19
  refine g_iconst hC (v := 0) dX9_share_19 (by decide) ?_
  exact g_X9_share_b20 hC  M a1 a2 0
set_option maxRecDepth 20000 in
set_option maxHeartbeats 4000000 in
theorem c_X9_share {l : Launch} (hfl : l.stackTraces = false) (Z : gZ) (M : gM) (a1 : Int32) (a2 : Int32) : gMet l yX9_share cX9_share 4 (some .int) rm_X9_share 1 0 Z M [.ref (zad Z 9), .int a1, .int a2] (f_X9_share M a1 a2) := by
  refine g_enter hfl (by decide) (Nat.le_of_ble_eq_true rfl) (fun p e s m args below meth c hC => ?_)
  refine g_eq (F := f_X9_share M a1 a2) rfl ?_
  refine g_lv0 (lv1 := [(0, .ref (zad Z 9)), (1, .int a1), (2, .int a2)]) rfl ?_
  unfold f_X9_share
  refine g_aload_n hC 0 dX9_share_0 rfl rfl ?_
  refine g_iload_n hC 1 dX9_share_1 rfl rfl ?_
  refine g_callVi (n := 1) hC [.int a1] 9 9 (by decide) rfl rfl (fun hne => c_X9_isClaim hC.2.2.2.2.2.2.2.1 Z M a1 hne) lk_X9_195 mw_X9_isClaim.1 mw_X9_isClaim.2.1 mw_X9_isClaim.2.2.1 mw_X9_isClaim.2.2.2 ⟨rfl, by decide, by decide, by decide +kernel⟩ rfl rfl ⟨by decide, by decide⟩ rfl rfl (Nat.le_of_ble_eq_true rfl) (by decide) (by decide) (by decide) dX9_share_2 (fun x8 M7 => ?_)
  refine g_if_eq (tgt := 19) hC dX9_share_5 (by decide) (fun _ => ?_) (fun _ => ?_)
  · exact g_X9_share_b19 hC  M7 a1 a2
  · refine g_iload_n hC 2 dX9_share_8 rfl rfl ?_
    refine g_callSi (n := 1) hC [.int a2] (fun hne => c_X9_isPerson hC.2.2.2.2.2.2.2.1 Z M7 a2 hne) lk_X9_184 mw_X9_isPerson.1 mw_X9_isPerson.2.1 mw_X9_isPerson.2.2 ⟨by decide, by decide, by decide +kernel⟩ rfl rfl ⟨by decide, by decide⟩ rfl rfl (Nat.le_of_ble_eq_true rfl) (by decide) (by decide) (by decide) dX9_share_9 (fun x10 M9 => ?_)
    refine g_if_eq (tgt := 19) hC dX9_share_12 (by decide) (fun _ => ?_) (fun _ => ?_)
    · exact g_X9_share_b19 hC  M9 a1 a2
    · refine g_iconst hC (v := 1) dX9_share_15 (by decide) ?_
      refine g_goto (tgt := 20) hC dX9_share_16 (by decide) ?_
      exact g_X9_share_b20 hC  M9 a1 a2 1

-- ===== X9_today =====
def f_X9_today (M : gM)  : gR := (bM (gset M 9 0 0) (fun M1 => (rRet (M1 9 1) M1)))
abbrev rm_X9_today : Room := { frames := 0, cells := 0, slots := 0, locals := 0 }
set_option maxRecDepth 20000 in
set_option maxHeartbeats 4000000 in
theorem c_X9_today {l : Launch} (hfl : l.stackTraces = false) (Z : gZ) (M : gM)  : gMet l yX9_today cX9_today 1 (some .int) rm_X9_today 1 0 Z M [.ref (zad Z 9)] (f_X9_today M ) := by
  refine g_enter hfl (by decide) (Nat.le_of_ble_eq_true rfl) (fun p e s m args below meth c hC => ?_)
  refine g_eq (F := f_X9_today M ) rfl ?_
  refine g_lv0 (lv1 := [(0, .ref (zad Z 9))]) rfl ?_
  unfold f_X9_today
  refine g_aload_n hC 0 dX9_today_0 rfl rfl ?_
  refine g_iconst hC (v := 0) dX9_today_1 (by decide) ?_
  refine gp_X9_144 hC dX9_today_2 (fun M1 => ?_)
  refine g_aload_n hC 0 dX9_today_5 rfl rfl ?_
  refine gf_X9_152 hC dX9_today_6 ?_
  exact g_iret hC rfl (by decide) dX9_today_9

-- ===== X9_entries =====
def f_X9_entries (M : gM)  : gR := (bM (gset M 9 0 0) (fun M1 => (rRet (M1 9 23) M1)))
abbrev rm_X9_entries : Room := { frames := 0, cells := 0, slots := 0, locals := 0 }
set_option maxRecDepth 20000 in
set_option maxHeartbeats 4000000 in
theorem c_X9_entries {l : Launch} (hfl : l.stackTraces = false) (Z : gZ) (M : gM)  : gMet l yX9_entries cX9_entries 1 (some .int) rm_X9_entries 1 0 Z M [.ref (zad Z 9)] (f_X9_entries M ) := by
  refine g_enter hfl (by decide) (Nat.le_of_ble_eq_true rfl) (fun p e s m args below meth c hC => ?_)
  refine g_eq (F := f_X9_entries M ) rfl ?_
  refine g_lv0 (lv1 := [(0, .ref (zad Z 9))]) rfl ?_
  unfold f_X9_entries
  refine g_aload_n hC 0 dX9_entries_0 rfl rfl ?_
  refine g_iconst hC (v := 0) dX9_entries_1 (by decide) ?_
  refine gp_X9_144 hC dX9_entries_2 (fun M1 => ?_)
  refine g_aload_n hC 0 dX9_entries_5 rfl rfl ?_
  refine gf_X9_171 hC dX9_entries_6 ?_
  exact g_iret hC rfl (by decide) dX9_entries_9

-- ===== X9_entryAt =====
def f_X9_entryAt_b23  (M : gM) (a1 : Int32) (a2 : Int32) (t1 : Int32) : gR := (rb (f_X9_refused M t1) (fun x2 M1 => (if x2 = 0 then (if a2 = 0 then (gI a1 160 (rRet (M1 120 a1.toNatClampNeg) M1)) else (if a2 = 1 then (gI a1 160 (rRet (M1 121 a1.toNatClampNeg) M1)) else (if a2 = 2 then (gI a1 160 (rRet (M1 122 a1.toNatClampNeg) M1)) else (if a2 = 3 then (gI a1 160 (rRet (M1 123 a1.toNatClampNeg) M1)) else (gI a1 160 (rRet (M1 124 a1.toNatClampNeg) M1)))))) else (rRet 0 M1))))
def f_X9_entryAt_b22  (M : gM) (a1 : Int32) (a2 : Int32)  : gR := (f_X9_entryAt_b23  M a1 a2 1)
def f_X9_entryAt (M : gM) (a1 : Int32) (a2 : Int32) : gR := (rb (f_X9_isEntry M a1) (fun x4 M3 => (if x4 = 0 then (f_X9_entryAt_b22  M3 a1 a2 ) else (rb (f_X9_within M3 a2 0 4) (fun x6 M5 => (if x6 = 0 then (f_X9_entryAt_b22  M5 a1 a2 ) else (f_X9_entryAt_b23  M5 a1 a2 0)))))))
abbrev rm_X9_entryAt : Room := { frames := 2, cells := 0, slots := 0, locals := 43 }
set_option maxRecDepth 20000 in
set_option maxHeartbeats 4000000 in
theorem g_X9_entryAt_b23 {p : Program} {l : Launch} {e : Env} {s : State} {m : MethodId} {args : Array Value} {below : List Frame} {meth : Method} {c : Code} {Z : gZ} (hC : gC p l s m args meth c cX9_entryAt 3 RX9 (some .int) Z)   (M : gM) (a1 : Int32) (a2 : Int32) (t1 : Int32) : gW p l e rm_X9_entryAt s m args below meth c 3 Z 1 0 0 M 23 [(0, .ref (zad Z 9)), (1, .int a1), (2, .int a2)] [.int t1, .ref (zad Z 9)] (f_X9_entryAt_b23  M a1 a2 t1) := by
  unfold f_X9_entryAt_b23
  refine g_callVi (n := 1) hC [.int t1] 9 9 (by decide) rfl rfl (fun hne => c_X9_refused hC.2.2.2.2.2.2.2.1 Z M t1 hne) lk_X9_155 mw_X9_refused.1 mw_X9_refused.2.1 mw_X9_refused.2.2.1 mw_X9_refused.2.2.2 ⟨rfl, by decide, by decide, by decide +kernel⟩ rfl rfl ⟨by decide, by decide⟩ rfl rfl (Nat.le_of_ble_eq_true rfl) (by decide) (by decide) (by decide) dX9_entryAt_23 (fun x2 M1 => ?_)
  refine g_if_eq (tgt := 31) hC dX9_entryAt_26 (by decide) (fun _ => ?_) (fun _ => ?_)
  · refine g_iload_n hC 2 dX9_entryAt_31 rfl rfl ?_
    refine g_if_ne (tgt := 44) hC dX9_entryAt_32 (by decide) (fun _ => ?_) (fun _ => ?_)
    · refine g_aload_n hC 0 dX9_entryAt_35 rfl rfl ?_
      refine gf_X9_65 hC dX9_entryAt_36 ?_
      refine g_iload_n hC 1 dX9_entryAt_39 rfl rfl ?_
      refine g_iald hC 120 (by decide) rfl dX9_entryAt_40 ?_
      refine g_goto (tgt := 92) hC dX9_entryAt_41 (by decide) ?_
      exact g_iret hC rfl (by decide) dX9_entryAt_92
    · refine g_iload_n hC 2 dX9_entryAt_44 rfl rfl ?_
      refine g_iconst hC (v := 1) dX9_entryAt_45 (by decide) ?_
      refine g_icmp_ne (tgt := 58) hC dX9_entryAt_46 (by decide) (fun _ => ?_) (fun _ => ?_)
      · refine g_aload_n hC 0 dX9_entryAt_49 rfl rfl ?_
        refine gf_X9_68 hC dX9_entryAt_50 ?_
        refine g_iload_n hC 1 dX9_entryAt_53 rfl rfl ?_
        refine g_iald hC 121 (by decide) rfl dX9_entryAt_54 ?_
        refine g_goto (tgt := 92) hC dX9_entryAt_55 (by decide) ?_
        exact g_iret hC rfl (by decide) dX9_entryAt_92
      · refine g_iload_n hC 2 dX9_entryAt_58 rfl rfl ?_
        refine g_iconst hC (v := 2) dX9_entryAt_59 (by decide) ?_
        refine g_icmp_ne (tgt := 72) hC dX9_entryAt_60 (by decide) (fun _ => ?_) (fun _ => ?_)
        · refine g_aload_n hC 0 dX9_entryAt_63 rfl rfl ?_
          refine gf_X9_71 hC dX9_entryAt_64 ?_
          refine g_iload_n hC 1 dX9_entryAt_67 rfl rfl ?_
          refine g_iald hC 122 (by decide) rfl dX9_entryAt_68 ?_
          refine g_goto (tgt := 92) hC dX9_entryAt_69 (by decide) ?_
          exact g_iret hC rfl (by decide) dX9_entryAt_92
        · refine g_iload_n hC 2 dX9_entryAt_72 rfl rfl ?_
          refine g_iconst hC (v := 3) dX9_entryAt_73 (by decide) ?_
          refine g_icmp_ne (tgt := 86) hC dX9_entryAt_74 (by decide) (fun _ => ?_) (fun _ => ?_)
          · refine g_aload_n hC 0 dX9_entryAt_77 rfl rfl ?_
            refine gf_X9_74 hC dX9_entryAt_78 ?_
            refine g_iload_n hC 1 dX9_entryAt_81 rfl rfl ?_
            refine g_iald hC 123 (by decide) rfl dX9_entryAt_82 ?_
            refine g_goto (tgt := 92) hC dX9_entryAt_83 (by decide) ?_
            exact g_iret hC rfl (by decide) dX9_entryAt_92
          · refine g_aload_n hC 0 dX9_entryAt_86 rfl rfl ?_
            refine gf_X9_77 hC dX9_entryAt_87 ?_
            refine g_iload_n hC 1 dX9_entryAt_90 rfl rfl ?_
            refine g_iald hC 124 (by decide) rfl dX9_entryAt_91 ?_
            exact g_iret hC rfl (by decide) dX9_entryAt_92
  · refine g_iconst hC (v := 0) dX9_entryAt_29 (by decide) ?_
    exact g_iret hC rfl (by decide) dX9_entryAt_30
set_option maxRecDepth 20000 in
set_option maxHeartbeats 4000000 in
theorem g_X9_entryAt_b22 {p : Program} {l : Launch} {e : Env} {s : State} {m : MethodId} {args : Array Value} {below : List Frame} {meth : Method} {c : Code} {Z : gZ} (hC : gC p l s m args meth c cX9_entryAt 3 RX9 (some .int) Z)   (M : gM) (a1 : Int32) (a2 : Int32)  : gW p l e rm_X9_entryAt s m args below meth c 3 Z 1 0 0 M 22 [(0, .ref (zad Z 9)), (1, .int a1), (2, .int a2)] [.ref (zad Z 9)] (f_X9_entryAt_b22  M a1 a2 ) := by
  unfold f_X9_entryAt_b22
  refine g_iconst hC (v := 1) dX9_entryAt_22 (by decide) ?_
  exact g_X9_entryAt_b23 hC  M a1 a2 1
set_option maxRecDepth 20000 in
set_option maxHeartbeats 4000000 in
theorem c_X9_entryAt {l : Launch} (hfl : l.stackTraces = false) (Z : gZ) (M : gM) (a1 : Int32) (a2 : Int32) : gMet l yX9_entryAt cX9_entryAt 3 (some .int) rm_X9_entryAt 1 0 Z M [.ref (zad Z 9), .int a1, .int a2] (f_X9_entryAt M a1 a2) := by
  refine g_enter hfl (by decide) (Nat.le_of_ble_eq_true rfl) (fun p e s m args below meth c hC => ?_)
  refine g_eq (F := f_X9_entryAt M a1 a2) rfl ?_
  refine g_lv0 (lv1 := [(0, .ref (zad Z 9)), (1, .int a1), (2, .int a2)]) rfl ?_
  unfold f_X9_entryAt
  refine g_aload_n hC 0 dX9_entryAt_0 rfl rfl ?_
  refine g_aload_n hC 0 dX9_entryAt_1 rfl rfl ?_
  refine g_iload_n hC 1 dX9_entryAt_2 rfl rfl ?_
  refine g_callVi (n := 1) hC [.int a1] 9 9 (by decide) rfl rfl (fun hne => c_X9_isEntry hC.2.2.2.2.2.2.2.1 Z M a1 hne) lk_X9_174 mw_X9_isEntry.1 mw_X9_isEntry.2.1 mw_X9_isEntry.2.2.1 mw_X9_isEntry.2.2.2 ⟨rfl, by decide, by decide, by decide +kernel⟩ rfl rfl ⟨by decide, by decide⟩ rfl rfl (Nat.le_of_ble_eq_true rfl) (by decide) (by decide) (by decide) dX9_entryAt_3 (fun x4 M3 => ?_)
  refine g_if_eq (tgt := 22) hC dX9_entryAt_6 (by decide) (fun _ => ?_) (fun _ => ?_)
  · exact g_X9_entryAt_b22 hC  M3 a1 a2
  · refine g_iload_n hC 2 dX9_entryAt_9 rfl rfl ?_
    refine g_iconst hC (v := 0) dX9_entryAt_10 (by decide) ?_
    refine g_iconst hC (v := 4) dX9_entryAt_11 (by decide) ?_
    refine g_callSi (n := 3) hC [.int a2, .int 0, .int 4] (fun hne => c_X9_within hC.2.2.2.2.2.2.2.1 Z M3 a2 0 4 hne) lk_X9_148 mw_X9_within.1 mw_X9_within.2.1 mw_X9_within.2.2 ⟨by decide, by decide, by decide +kernel⟩ rfl rfl ⟨by decide, by decide⟩ rfl rfl (Nat.le_of_ble_eq_true rfl) (by decide) (by decide) (by decide) dX9_entryAt_12 (fun x6 M5 => ?_)
    refine g_if_eq (tgt := 22) hC dX9_entryAt_15 (by decide) (fun _ => ?_) (fun _ => ?_)
    · exact g_X9_entryAt_b22 hC  M5 a1 a2
    · refine g_iconst hC (v := 0) dX9_entryAt_18 (by decide) ?_
      refine g_goto (tgt := 23) hC dX9_entryAt_19 (by decide) ?_
      exact g_X9_entryAt_b23 hC  M5 a1 a2 0

-- ===== X9_counts =====
def f_X9_counts_b14  (M : gM) (a1 : Int32) (t1 : Int32) : gR := (rb (f_X9_refused M t1) (fun x2 M1 => (if x2 = 0 then (rb (f_X9_isCounted M1 a1) (fun x4 M3 => (if x4 = 0 then (rRet 0 M3) else (rRet 1 M3)))) else (rRet 0 M1))))
def f_X9_counts (M : gM) (a1 : Int32) : gR := (rb (f_X9_isEntry M a1) (fun x6 M5 => (if x6 = 0 then (f_X9_counts_b14  M5 a1 1) else (f_X9_counts_b14  M5 a1 0))))
abbrev rm_X9_counts : Room := { frames := 5, cells := 0, slots := 0, locals := 114 }
set_option maxRecDepth 20000 in
set_option maxHeartbeats 4000000 in
theorem g_X9_counts_b14 {p : Program} {l : Launch} {e : Env} {s : State} {m : MethodId} {args : Array Value} {below : List Frame} {meth : Method} {c : Code} {Z : gZ} (hC : gC p l s m args meth c cX9_counts 2 RX9 (some .boolean) Z)   (M : gM) (a1 : Int32) (t1 : Int32) : gW p l e rm_X9_counts s m args below meth c 2 Z 1 0 0 M 14 [(0, .ref (zad Z 9)), (1, .int a1)] [.int t1, .ref (zad Z 9)] (f_X9_counts_b14  M a1 t1) := by
  unfold f_X9_counts_b14
  refine g_callVi (n := 1) hC [.int t1] 9 9 (by decide) rfl rfl (fun hne => c_X9_refused hC.2.2.2.2.2.2.2.1 Z M t1 hne) lk_X9_155 mw_X9_refused.1 mw_X9_refused.2.1 mw_X9_refused.2.2.1 mw_X9_refused.2.2.2 ⟨rfl, by decide, by decide, by decide +kernel⟩ rfl rfl ⟨by decide, by decide⟩ rfl rfl (Nat.le_of_ble_eq_true rfl) (by decide) (by decide) (by decide) dX9_counts_14 (fun x2 M1 => ?_)
  refine g_if_ne (tgt := 32) hC dX9_counts_17 (by decide) (fun _ => ?_) (fun _ => ?_)
  · refine g_aload_n hC 0 dX9_counts_20 rfl rfl ?_
    refine g_iload_n hC 1 dX9_counts_21 rfl rfl ?_
    refine g_callVi (n := 1) hC [.int a1] 9 9 (by decide) rfl rfl (fun hne => c_X9_isCounted hC.2.2.2.2.2.2.2.1 Z M1 a1 hne) lk_X9_214 mw_X9_isCounted.1 mw_X9_isCounted.2.1 mw_X9_isCounted.2.2.1 mw_X9_isCounted.2.2.2 ⟨rfl, by decide, by decide, by decide +kernel⟩ rfl rfl ⟨by decide, by decide⟩ rfl rfl (Nat.le_of_ble_eq_true rfl) (by decide) (by decide) (by decide) dX9_counts_22 (fun x4 M3 => ?_)
    refine g_if_eq (tgt := 32) hC dX9_counts_25 (by decide) (fun _ => ?_) (fun _ => ?_)
    · refine g_iconst hC (v := 0) dX9_counts_32 (by decide) ?_
      exact g_zret0 hC rfl (by decide) dX9_counts_33
    · refine g_iconst hC (v := 1) dX9_counts_28 (by decide) ?_
      refine g_goto (tgt := 33) hC dX9_counts_29 (by decide) ?_
      exact g_zret1 hC rfl (by decide) dX9_counts_33
  · refine g_iconst hC (v := 0) dX9_counts_32 (by decide) ?_
    exact g_zret0 hC rfl (by decide) dX9_counts_33
set_option maxRecDepth 20000 in
set_option maxHeartbeats 4000000 in
theorem c_X9_counts {l : Launch} (hfl : l.stackTraces = false) (Z : gZ) (M : gM) (a1 : Int32) : gMet l yX9_counts cX9_counts 2 (some .boolean) rm_X9_counts 1 0 Z M [.ref (zad Z 9), .int a1] (f_X9_counts M a1) := by
  refine g_enter hfl (by decide) (Nat.le_of_ble_eq_true rfl) (fun p e s m args below meth c hC => ?_)
  refine g_eq (F := f_X9_counts M a1) rfl ?_
  refine g_lv0 (lv1 := [(0, .ref (zad Z 9)), (1, .int a1)]) rfl ?_
  unfold f_X9_counts
  refine g_aload_n hC 0 dX9_counts_0 rfl rfl ?_
  refine g_aload_n hC 0 dX9_counts_1 rfl rfl ?_
  refine g_iload_n hC 1 dX9_counts_2 rfl rfl ?_
  refine g_callVi (n := 1) hC [.int a1] 9 9 (by decide) rfl rfl (fun hne => c_X9_isEntry hC.2.2.2.2.2.2.2.1 Z M a1 hne) lk_X9_174 mw_X9_isEntry.1 mw_X9_isEntry.2.1 mw_X9_isEntry.2.2.1 mw_X9_isEntry.2.2.2 ⟨rfl, by decide, by decide, by decide +kernel⟩ rfl rfl ⟨by decide, by decide⟩ rfl rfl (Nat.le_of_ble_eq_true rfl) (by decide) (by decide) (by decide) dX9_counts_3 (fun x6 M5 => ?_)
  refine g_if_eq (tgt := 13) hC dX9_counts_6 (by decide) (fun _ => ?_) (fun _ => ?_)
  · refine g_iconst hC (v := 1) dX9_counts_13 (by decide) ?_
    exact g_X9_counts_b14 hC  M5 a1 1
  · refine g_iconst hC (v := 0) dX9_counts_9 (by decide) ?_
    refine g_goto (tgt := 14) hC dX9_counts_10 (by decide) ?_
    exact g_X9_counts_b14 hC  M5 a1 0

-- ===== X9_stateOf =====
def f_X9_stateOf_b14  (M : gM) (a1 : Int32) (t1 : Int32) : gR := (rb (f_X9_refused M t1) (fun x2 M1 => (if x2 = 0 then (gI a1 24 (rRet (M1 112 a1.toNatClampNeg) M1)) else (rRet 0 M1))))
def f_X9_stateOf (M : gM) (a1 : Int32) : gR := (rb (f_X9_isClaim M a1) (fun x4 M3 => (if x4 = 0 then (f_X9_stateOf_b14  M3 a1 1) else (f_X9_stateOf_b14  M3 a1 0))))
abbrev rm_X9_stateOf : Room := { frames := 2, cells := 0, slots := 0, locals := 43 }
set_option maxRecDepth 20000 in
set_option maxHeartbeats 4000000 in
theorem g_X9_stateOf_b14 {p : Program} {l : Launch} {e : Env} {s : State} {m : MethodId} {args : Array Value} {below : List Frame} {meth : Method} {c : Code} {Z : gZ} (hC : gC p l s m args meth c cX9_stateOf 2 RX9 (some .int) Z)   (M : gM) (a1 : Int32) (t1 : Int32) : gW p l e rm_X9_stateOf s m args below meth c 2 Z 1 0 0 M 14 [(0, .ref (zad Z 9)), (1, .int a1)] [.int t1, .ref (zad Z 9)] (f_X9_stateOf_b14  M a1 t1) := by
  unfold f_X9_stateOf_b14
  refine g_callVi (n := 1) hC [.int t1] 9 9 (by decide) rfl rfl (fun hne => c_X9_refused hC.2.2.2.2.2.2.2.1 Z M t1 hne) lk_X9_155 mw_X9_refused.1 mw_X9_refused.2.1 mw_X9_refused.2.2.1 mw_X9_refused.2.2.2 ⟨rfl, by decide, by decide, by decide +kernel⟩ rfl rfl ⟨by decide, by decide⟩ rfl rfl (Nat.le_of_ble_eq_true rfl) (by decide) (by decide) (by decide) dX9_stateOf_14 (fun x2 M1 => ?_)
  refine g_if_eq (tgt := 24) hC dX9_stateOf_17 (by decide) (fun _ => ?_) (fun _ => ?_)
  · refine g_aload_n hC 0 dX9_stateOf_24 rfl rfl ?_
    refine gf_X9_41 hC dX9_stateOf_25 ?_
    refine g_iload_n hC 1 dX9_stateOf_28 rfl rfl ?_
    refine g_iald hC 112 (by decide) rfl dX9_stateOf_29 ?_
    exact g_iret hC rfl (by decide) dX9_stateOf_30
  · refine g_iconst hC (v := 0) dX9_stateOf_20 (by decide) ?_
    refine g_goto (tgt := 30) hC dX9_stateOf_21 (by decide) ?_
    exact g_iret hC rfl (by decide) dX9_stateOf_30
set_option maxRecDepth 20000 in
set_option maxHeartbeats 4000000 in
theorem c_X9_stateOf {l : Launch} (hfl : l.stackTraces = false) (Z : gZ) (M : gM) (a1 : Int32) : gMet l yX9_stateOf cX9_stateOf 2 (some .int) rm_X9_stateOf 1 0 Z M [.ref (zad Z 9), .int a1] (f_X9_stateOf M a1) := by
  refine g_enter hfl (by decide) (Nat.le_of_ble_eq_true rfl) (fun p e s m args below meth c hC => ?_)
  refine g_eq (F := f_X9_stateOf M a1) rfl ?_
  refine g_lv0 (lv1 := [(0, .ref (zad Z 9)), (1, .int a1)]) rfl ?_
  unfold f_X9_stateOf
  refine g_aload_n hC 0 dX9_stateOf_0 rfl rfl ?_
  refine g_aload_n hC 0 dX9_stateOf_1 rfl rfl ?_
  refine g_iload_n hC 1 dX9_stateOf_2 rfl rfl ?_
  refine g_callVi (n := 1) hC [.int a1] 9 9 (by decide) rfl rfl (fun hne => c_X9_isClaim hC.2.2.2.2.2.2.2.1 Z M a1 hne) lk_X9_195 mw_X9_isClaim.1 mw_X9_isClaim.2.1 mw_X9_isClaim.2.2.1 mw_X9_isClaim.2.2.2 ⟨rfl, by decide, by decide, by decide +kernel⟩ rfl rfl ⟨by decide, by decide⟩ rfl rfl (Nat.le_of_ble_eq_true rfl) (by decide) (by decide) (by decide) dX9_stateOf_3 (fun x4 M3 => ?_)
  refine g_if_eq (tgt := 13) hC dX9_stateOf_6 (by decide) (fun _ => ?_) (fun _ => ?_)
  · refine g_iconst hC (v := 1) dX9_stateOf_13 (by decide) ?_
    exact g_X9_stateOf_b14 hC  M3 a1 1
  · refine g_iconst hC (v := 0) dX9_stateOf_9 (by decide) ?_
    refine g_goto (tgt := 14) hC dX9_stateOf_10 (by decide) ?_
    exact g_X9_stateOf_b14 hC  M3 a1 0

-- ===== X9_stateByDocket =====
def f_X9_stateByDocket (M : gM) (a1 : Int32) : gR := (rb (f_X9_stateOf M a1) (fun x2 M1 => (rRet x2 M1)))
abbrev rm_X9_stateByDocket : Room := { frames := 3, cells := 0, slots := 0, locals := 64 }
set_option maxRecDepth 20000 in
set_option maxHeartbeats 4000000 in
theorem c_X9_stateByDocket {l : Launch} (hfl : l.stackTraces = false) (Z : gZ) (M : gM) (a1 : Int32) : gMet l yX9_stateByDocket cX9_stateByDocket 2 (some .int) rm_X9_stateByDocket 1 0 Z M [.ref (zad Z 9), .int a1] (f_X9_stateByDocket M a1) := by
  refine g_enter hfl (by decide) (Nat.le_of_ble_eq_true rfl) (fun p e s m args below meth c hC => ?_)
  refine g_eq (F := f_X9_stateByDocket M a1) rfl ?_
  refine g_lv0 (lv1 := [(0, .ref (zad Z 9)), (1, .int a1)]) rfl ?_
  unfold f_X9_stateByDocket
  refine g_aload_n hC 0 dX9_stateByDocket_0 rfl rfl ?_
  refine g_iload_n hC 1 dX9_stateByDocket_1 rfl rfl ?_
  refine g_callVi (n := 1) hC [.int a1] 9 9 (by decide) rfl rfl (fun hne => c_X9_stateOf hC.2.2.2.2.2.2.2.1 Z M a1 hne) lk_X9_303 mw_X9_stateOf.1 mw_X9_stateOf.2.1 mw_X9_stateOf.2.2.1 mw_X9_stateOf.2.2.2 ⟨rfl, by decide, by decide, by decide +kernel⟩ rfl rfl ⟨by decide, by decide⟩ rfl rfl (Nat.le_of_ble_eq_true rfl) (by decide) (by decide) (by decide) dX9_stateByDocket_2 (fun x2 M1 => ?_)
  exact g_iret hC rfl (by decide) dX9_stateByDocket_5

-- ===== X9_amountOf =====
def f_X9_amountOf_b14  (M : gM) (a1 : Int32) (t1 : Int32) : gR := (rb (f_X9_refused M t1) (fun x2 M1 => (if x2 = 0 then (gI a1 24 (rRet (M1 113 a1.toNatClampNeg) M1)) else (rRet 0 M1))))
def f_X9_amountOf (M : gM) (a1 : Int32) : gR := (rb (f_X9_isClaim M a1) (fun x4 M3 => (if x4 = 0 then (f_X9_amountOf_b14  M3 a1 1) else (f_X9_amountOf_b14  M3 a1 0))))
abbrev rm_X9_amountOf : Room := { frames := 2, cells := 0, slots := 0, locals := 43 }
set_option maxRecDepth 20000 in
set_option maxHeartbeats 4000000 in
theorem g_X9_amountOf_b14 {p : Program} {l : Launch} {e : Env} {s : State} {m : MethodId} {args : Array Value} {below : List Frame} {meth : Method} {c : Code} {Z : gZ} (hC : gC p l s m args meth c cX9_amountOf 2 RX9 (some .int) Z)   (M : gM) (a1 : Int32) (t1 : Int32) : gW p l e rm_X9_amountOf s m args below meth c 2 Z 1 0 0 M 14 [(0, .ref (zad Z 9)), (1, .int a1)] [.int t1, .ref (zad Z 9)] (f_X9_amountOf_b14  M a1 t1) := by
  unfold f_X9_amountOf_b14
  refine g_callVi (n := 1) hC [.int t1] 9 9 (by decide) rfl rfl (fun hne => c_X9_refused hC.2.2.2.2.2.2.2.1 Z M t1 hne) lk_X9_155 mw_X9_refused.1 mw_X9_refused.2.1 mw_X9_refused.2.2.1 mw_X9_refused.2.2.2 ⟨rfl, by decide, by decide, by decide +kernel⟩ rfl rfl ⟨by decide, by decide⟩ rfl rfl (Nat.le_of_ble_eq_true rfl) (by decide) (by decide) (by decide) dX9_amountOf_14 (fun x2 M1 => ?_)
  refine g_if_eq (tgt := 24) hC dX9_amountOf_17 (by decide) (fun _ => ?_) (fun _ => ?_)
  · refine g_aload_n hC 0 dX9_amountOf_24 rfl rfl ?_
    refine gf_X9_44 hC dX9_amountOf_25 ?_
    refine g_iload_n hC 1 dX9_amountOf_28 rfl rfl ?_
    refine g_iald hC 113 (by decide) rfl dX9_amountOf_29 ?_
    exact g_iret hC rfl (by decide) dX9_amountOf_30
  · refine g_iconst hC (v := 0) dX9_amountOf_20 (by decide) ?_
    refine g_goto (tgt := 30) hC dX9_amountOf_21 (by decide) ?_
    exact g_iret hC rfl (by decide) dX9_amountOf_30
set_option maxRecDepth 20000 in
set_option maxHeartbeats 4000000 in
theorem c_X9_amountOf {l : Launch} (hfl : l.stackTraces = false) (Z : gZ) (M : gM) (a1 : Int32) : gMet l yX9_amountOf cX9_amountOf 2 (some .int) rm_X9_amountOf 1 0 Z M [.ref (zad Z 9), .int a1] (f_X9_amountOf M a1) := by
  refine g_enter hfl (by decide) (Nat.le_of_ble_eq_true rfl) (fun p e s m args below meth c hC => ?_)
  refine g_eq (F := f_X9_amountOf M a1) rfl ?_
  refine g_lv0 (lv1 := [(0, .ref (zad Z 9)), (1, .int a1)]) rfl ?_
  unfold f_X9_amountOf
  refine g_aload_n hC 0 dX9_amountOf_0 rfl rfl ?_
  refine g_aload_n hC 0 dX9_amountOf_1 rfl rfl ?_
  refine g_iload_n hC 1 dX9_amountOf_2 rfl rfl ?_
  refine g_callVi (n := 1) hC [.int a1] 9 9 (by decide) rfl rfl (fun hne => c_X9_isClaim hC.2.2.2.2.2.2.2.1 Z M a1 hne) lk_X9_195 mw_X9_isClaim.1 mw_X9_isClaim.2.1 mw_X9_isClaim.2.2.1 mw_X9_isClaim.2.2.2 ⟨rfl, by decide, by decide, by decide +kernel⟩ rfl rfl ⟨by decide, by decide⟩ rfl rfl (Nat.le_of_ble_eq_true rfl) (by decide) (by decide) (by decide) dX9_amountOf_3 (fun x4 M3 => ?_)
  refine g_if_eq (tgt := 13) hC dX9_amountOf_6 (by decide) (fun _ => ?_) (fun _ => ?_)
  · refine g_iconst hC (v := 1) dX9_amountOf_13 (by decide) ?_
    exact g_X9_amountOf_b14 hC  M3 a1 1
  · refine g_iconst hC (v := 0) dX9_amountOf_9 (by decide) ?_
    refine g_goto (tgt := 14) hC dX9_amountOf_10 (by decide) ?_
    exact g_X9_amountOf_b14 hC  M3 a1 0

-- ===== X9_balance =====
def f_X9_balance_b14  (M : gM) (a1 : Int32) (t1 : Int32) : gR := (rb (f_X9_refused M t1) (fun x2 M1 => (if x2 = 0 then (rb (f_X9_owed M1 a1) (fun x4 M3 => (rRet x4 M3))) else (rRet 0 M1))))
def f_X9_balance (M : gM) (a1 : Int32) : gR := (rb (f_X9_isClaim M a1) (fun x6 M5 => (if x6 = 0 then (f_X9_balance_b14  M5 a1 1) else (f_X9_balance_b14  M5 a1 0))))
abbrev rm_X9_balance : Room := { frames := 2, cells := 0, slots := 0, locals := 46 }
set_option maxRecDepth 20000 in
set_option maxHeartbeats 4000000 in
theorem g_X9_balance_b14 {p : Program} {l : Launch} {e : Env} {s : State} {m : MethodId} {args : Array Value} {below : List Frame} {meth : Method} {c : Code} {Z : gZ} (hC : gC p l s m args meth c cX9_balance 2 RX9 (some .int) Z)   (M : gM) (a1 : Int32) (t1 : Int32) : gW p l e rm_X9_balance s m args below meth c 2 Z 1 0 0 M 14 [(0, .ref (zad Z 9)), (1, .int a1)] [.int t1, .ref (zad Z 9)] (f_X9_balance_b14  M a1 t1) := by
  unfold f_X9_balance_b14
  refine g_callVi (n := 1) hC [.int t1] 9 9 (by decide) rfl rfl (fun hne => c_X9_refused hC.2.2.2.2.2.2.2.1 Z M t1 hne) lk_X9_155 mw_X9_refused.1 mw_X9_refused.2.1 mw_X9_refused.2.2.1 mw_X9_refused.2.2.2 ⟨rfl, by decide, by decide, by decide +kernel⟩ rfl rfl ⟨by decide, by decide⟩ rfl rfl (Nat.le_of_ble_eq_true rfl) (by decide) (by decide) (by decide) dX9_balance_14 (fun x2 M1 => ?_)
  refine g_if_eq (tgt := 24) hC dX9_balance_17 (by decide) (fun _ => ?_) (fun _ => ?_)
  · refine g_aload_n hC 0 dX9_balance_24 rfl rfl ?_
    refine g_iload_n hC 1 dX9_balance_25 rfl rfl ?_
    refine g_callVi (n := 1) hC [.int a1] 9 9 (by decide) rfl rfl (fun hne => c_X9_owed hC.2.2.2.2.2.2.2.1 Z M1 a1 hne) lk_X9_268 mw_X9_owed.1 mw_X9_owed.2.1 mw_X9_owed.2.2.1 mw_X9_owed.2.2.2 ⟨rfl, by decide, by decide, by decide +kernel⟩ rfl rfl ⟨by decide, by decide⟩ rfl rfl (Nat.le_of_ble_eq_true rfl) (by decide) (by decide) (by decide) dX9_balance_26 (fun x4 M3 => ?_)
    exact g_iret hC rfl (by decide) dX9_balance_29
  · refine g_iconst hC (v := 0) dX9_balance_20 (by decide) ?_
    refine g_goto (tgt := 29) hC dX9_balance_21 (by decide) ?_
    exact g_iret hC rfl (by decide) dX9_balance_29
set_option maxRecDepth 20000 in
set_option maxHeartbeats 4000000 in
theorem c_X9_balance {l : Launch} (hfl : l.stackTraces = false) (Z : gZ) (M : gM) (a1 : Int32) : gMet l yX9_balance cX9_balance 2 (some .int) rm_X9_balance 1 0 Z M [.ref (zad Z 9), .int a1] (f_X9_balance M a1) := by
  refine g_enter hfl (by decide) (Nat.le_of_ble_eq_true rfl) (fun p e s m args below meth c hC => ?_)
  refine g_eq (F := f_X9_balance M a1) rfl ?_
  refine g_lv0 (lv1 := [(0, .ref (zad Z 9)), (1, .int a1)]) rfl ?_
  unfold f_X9_balance
  refine g_aload_n hC 0 dX9_balance_0 rfl rfl ?_
  refine g_aload_n hC 0 dX9_balance_1 rfl rfl ?_
  refine g_iload_n hC 1 dX9_balance_2 rfl rfl ?_
  refine g_callVi (n := 1) hC [.int a1] 9 9 (by decide) rfl rfl (fun hne => c_X9_isClaim hC.2.2.2.2.2.2.2.1 Z M a1 hne) lk_X9_195 mw_X9_isClaim.1 mw_X9_isClaim.2.1 mw_X9_isClaim.2.2.1 mw_X9_isClaim.2.2.2 ⟨rfl, by decide, by decide, by decide +kernel⟩ rfl rfl ⟨by decide, by decide⟩ rfl rfl (Nat.le_of_ble_eq_true rfl) (by decide) (by decide) (by decide) dX9_balance_3 (fun x6 M5 => ?_)
  refine g_if_eq (tgt := 13) hC dX9_balance_6 (by decide) (fun _ => ?_) (fun _ => ?_)
  · refine g_iconst hC (v := 1) dX9_balance_13 (by decide) ?_
    exact g_X9_balance_b14 hC  M5 a1 1
  · refine g_iconst hC (v := 0) dX9_balance_9 (by decide) ?_
    refine g_goto (tgt := 14) hC dX9_balance_10 (by decide) ?_
    exact g_X9_balance_b14 hC  M5 a1 0

-- ===== X9_caseOf =====
def f_X9_caseOf_b14  (M : gM) (a1 : Int32) (t1 : Int32) : gR := (rb (f_X9_refused M t1) (fun x2 M1 => (if x2 = 0 then (gI a1 24 (rRet (M1 109 a1.toNatClampNeg) M1)) else (rRet 0 M1))))
def f_X9_caseOf (M : gM) (a1 : Int32) : gR := (rb (f_X9_isClaim M a1) (fun x4 M3 => (if x4 = 0 then (f_X9_caseOf_b14  M3 a1 1) else (f_X9_caseOf_b14  M3 a1 0))))
abbrev rm_X9_caseOf : Room := { frames := 2, cells := 0, slots := 0, locals := 43 }
set_option maxRecDepth 20000 in
set_option maxHeartbeats 4000000 in
theorem g_X9_caseOf_b14 {p : Program} {l : Launch} {e : Env} {s : State} {m : MethodId} {args : Array Value} {below : List Frame} {meth : Method} {c : Code} {Z : gZ} (hC : gC p l s m args meth c cX9_caseOf 2 RX9 (some .int) Z)   (M : gM) (a1 : Int32) (t1 : Int32) : gW p l e rm_X9_caseOf s m args below meth c 2 Z 1 0 0 M 14 [(0, .ref (zad Z 9)), (1, .int a1)] [.int t1, .ref (zad Z 9)] (f_X9_caseOf_b14  M a1 t1) := by
  unfold f_X9_caseOf_b14
  refine g_callVi (n := 1) hC [.int t1] 9 9 (by decide) rfl rfl (fun hne => c_X9_refused hC.2.2.2.2.2.2.2.1 Z M t1 hne) lk_X9_155 mw_X9_refused.1 mw_X9_refused.2.1 mw_X9_refused.2.2.1 mw_X9_refused.2.2.2 ⟨rfl, by decide, by decide, by decide +kernel⟩ rfl rfl ⟨by decide, by decide⟩ rfl rfl (Nat.le_of_ble_eq_true rfl) (by decide) (by decide) (by decide) dX9_caseOf_14 (fun x2 M1 => ?_)
  refine g_if_eq (tgt := 24) hC dX9_caseOf_17 (by decide) (fun _ => ?_) (fun _ => ?_)
  · refine g_aload_n hC 0 dX9_caseOf_24 rfl rfl ?_
    refine gf_X9_32 hC dX9_caseOf_25 ?_
    refine g_iload_n hC 1 dX9_caseOf_28 rfl rfl ?_
    refine g_iald hC 109 (by decide) rfl dX9_caseOf_29 ?_
    exact g_iret hC rfl (by decide) dX9_caseOf_30
  · refine g_iconst hC (v := 0) dX9_caseOf_20 (by decide) ?_
    refine g_goto (tgt := 30) hC dX9_caseOf_21 (by decide) ?_
    exact g_iret hC rfl (by decide) dX9_caseOf_30
set_option maxRecDepth 20000 in
set_option maxHeartbeats 4000000 in
theorem c_X9_caseOf {l : Launch} (hfl : l.stackTraces = false) (Z : gZ) (M : gM) (a1 : Int32) : gMet l yX9_caseOf cX9_caseOf 2 (some .int) rm_X9_caseOf 1 0 Z M [.ref (zad Z 9), .int a1] (f_X9_caseOf M a1) := by
  refine g_enter hfl (by decide) (Nat.le_of_ble_eq_true rfl) (fun p e s m args below meth c hC => ?_)
  refine g_eq (F := f_X9_caseOf M a1) rfl ?_
  refine g_lv0 (lv1 := [(0, .ref (zad Z 9)), (1, .int a1)]) rfl ?_
  unfold f_X9_caseOf
  refine g_aload_n hC 0 dX9_caseOf_0 rfl rfl ?_
  refine g_aload_n hC 0 dX9_caseOf_1 rfl rfl ?_
  refine g_iload_n hC 1 dX9_caseOf_2 rfl rfl ?_
  refine g_callVi (n := 1) hC [.int a1] 9 9 (by decide) rfl rfl (fun hne => c_X9_isClaim hC.2.2.2.2.2.2.2.1 Z M a1 hne) lk_X9_195 mw_X9_isClaim.1 mw_X9_isClaim.2.1 mw_X9_isClaim.2.2.1 mw_X9_isClaim.2.2.2 ⟨rfl, by decide, by decide, by decide +kernel⟩ rfl rfl ⟨by decide, by decide⟩ rfl rfl (Nat.le_of_ble_eq_true rfl) (by decide) (by decide) (by decide) dX9_caseOf_3 (fun x4 M3 => ?_)
  refine g_if_eq (tgt := 13) hC dX9_caseOf_6 (by decide) (fun _ => ?_) (fun _ => ?_)
  · refine g_iconst hC (v := 1) dX9_caseOf_13 (by decide) ?_
    exact g_X9_caseOf_b14 hC  M3 a1 1
  · refine g_iconst hC (v := 0) dX9_caseOf_9 (by decide) ?_
    refine g_goto (tgt := 14) hC dX9_caseOf_10 (by decide) ?_
    exact g_X9_caseOf_b14 hC  M3 a1 0

-- ===== X9_isAnswered =====
def f_X9_isAnswered_b14  (M : gM) (a1 : Int32) (t1 : Int32) : gR := (rb (f_X9_refused M t1) (fun x2 M1 => (if x2 = 0 then (rb (f_X9_answered M1 a1) (fun x4 M3 => (if x4 = 0 then (rRet 0 M3) else (rRet 1 M3)))) else (rRet 0 M1))))
def f_X9_isAnswered (M : gM) (a1 : Int32) : gR := (rb (f_X9_isClaim M a1) (fun x6 M5 => (if x6 = 0 then (f_X9_isAnswered_b14  M5 a1 1) else (f_X9_isAnswered_b14  M5 a1 0))))
abbrev rm_X9_isAnswered : Room := { frames := 6, cells := 0, slots := 0, locals := 137 }
set_option maxRecDepth 20000 in
set_option maxHeartbeats 4000000 in
theorem g_X9_isAnswered_b14 {p : Program} {l : Launch} {e : Env} {s : State} {m : MethodId} {args : Array Value} {below : List Frame} {meth : Method} {c : Code} {Z : gZ} (hC : gC p l s m args meth c cX9_isAnswered 2 RX9 (some .boolean) Z)   (M : gM) (a1 : Int32) (t1 : Int32) : gW p l e rm_X9_isAnswered s m args below meth c 2 Z 1 0 0 M 14 [(0, .ref (zad Z 9)), (1, .int a1)] [.int t1, .ref (zad Z 9)] (f_X9_isAnswered_b14  M a1 t1) := by
  unfold f_X9_isAnswered_b14
  refine g_callVi (n := 1) hC [.int t1] 9 9 (by decide) rfl rfl (fun hne => c_X9_refused hC.2.2.2.2.2.2.2.1 Z M t1 hne) lk_X9_155 mw_X9_refused.1 mw_X9_refused.2.1 mw_X9_refused.2.2.1 mw_X9_refused.2.2.2 ⟨rfl, by decide, by decide, by decide +kernel⟩ rfl rfl ⟨by decide, by decide⟩ rfl rfl (Nat.le_of_ble_eq_true rfl) (by decide) (by decide) (by decide) dX9_isAnswered_14 (fun x2 M1 => ?_)
  refine g_if_ne (tgt := 32) hC dX9_isAnswered_17 (by decide) (fun _ => ?_) (fun _ => ?_)
  · refine g_aload_n hC 0 dX9_isAnswered_20 rfl rfl ?_
    refine g_iload_n hC 1 dX9_isAnswered_21 rfl rfl ?_
    refine g_callVi (n := 1) hC [.int a1] 9 9 (by decide) rfl rfl (fun hne => c_X9_answered hC.2.2.2.2.2.2.2.1 Z M1 a1 hne) lk_X9_241 mw_X9_answered.1 mw_X9_answered.2.1 mw_X9_answered.2.2.1 mw_X9_answered.2.2.2 ⟨rfl, by decide, by decide, by decide +kernel⟩ rfl rfl ⟨by decide, by decide⟩ rfl rfl (Nat.le_of_ble_eq_true rfl) (by decide) (by decide) (by decide) dX9_isAnswered_22 (fun x4 M3 => ?_)
    refine g_if_eq (tgt := 32) hC dX9_isAnswered_25 (by decide) (fun _ => ?_) (fun _ => ?_)
    · refine g_iconst hC (v := 0) dX9_isAnswered_32 (by decide) ?_
      exact g_zret0 hC rfl (by decide) dX9_isAnswered_33
    · refine g_iconst hC (v := 1) dX9_isAnswered_28 (by decide) ?_
      refine g_goto (tgt := 33) hC dX9_isAnswered_29 (by decide) ?_
      exact g_zret1 hC rfl (by decide) dX9_isAnswered_33
  · refine g_iconst hC (v := 0) dX9_isAnswered_32 (by decide) ?_
    exact g_zret0 hC rfl (by decide) dX9_isAnswered_33
set_option maxRecDepth 20000 in
set_option maxHeartbeats 4000000 in
theorem c_X9_isAnswered {l : Launch} (hfl : l.stackTraces = false) (Z : gZ) (M : gM) (a1 : Int32) : gMet l yX9_isAnswered cX9_isAnswered 2 (some .boolean) rm_X9_isAnswered 1 0 Z M [.ref (zad Z 9), .int a1] (f_X9_isAnswered M a1) := by
  refine g_enter hfl (by decide) (Nat.le_of_ble_eq_true rfl) (fun p e s m args below meth c hC => ?_)
  refine g_eq (F := f_X9_isAnswered M a1) rfl ?_
  refine g_lv0 (lv1 := [(0, .ref (zad Z 9)), (1, .int a1)]) rfl ?_
  unfold f_X9_isAnswered
  refine g_aload_n hC 0 dX9_isAnswered_0 rfl rfl ?_
  refine g_aload_n hC 0 dX9_isAnswered_1 rfl rfl ?_
  refine g_iload_n hC 1 dX9_isAnswered_2 rfl rfl ?_
  refine g_callVi (n := 1) hC [.int a1] 9 9 (by decide) rfl rfl (fun hne => c_X9_isClaim hC.2.2.2.2.2.2.2.1 Z M a1 hne) lk_X9_195 mw_X9_isClaim.1 mw_X9_isClaim.2.1 mw_X9_isClaim.2.2.1 mw_X9_isClaim.2.2.2 ⟨rfl, by decide, by decide, by decide +kernel⟩ rfl rfl ⟨by decide, by decide⟩ rfl rfl (Nat.le_of_ble_eq_true rfl) (by decide) (by decide) (by decide) dX9_isAnswered_3 (fun x6 M5 => ?_)
  refine g_if_eq (tgt := 13) hC dX9_isAnswered_6 (by decide) (fun _ => ?_) (fun _ => ?_)
  · refine g_iconst hC (v := 1) dX9_isAnswered_13 (by decide) ?_
    exact g_X9_isAnswered_b14 hC  M5 a1 1
  · refine g_iconst hC (v := 0) dX9_isAnswered_9 (by decide) ?_
    refine g_goto (tgt := 14) hC dX9_isAnswered_10 (by decide) ?_
    exact g_X9_isAnswered_b14 hC  M5 a1 0

-- ===== X9_due =====
def f_X9_due_b15  (M : gM) (a1 : Int32) (a2 : Int32) (t1 : Int32) : gR := (rb (f_X9_refused M t1) (fun x2 M1 => (if x2 = 0 then (rb (f_X9_dueOf M1 a1 a2) (fun x4 M3 => (rRet x4 M3))) else (rRet 0 M1))))
def f_X9_due (M : gM) (a1 : Int32) (a2 : Int32) : gR := (rb (f_X9_isOfSort M a1 a2) (fun x6 M5 => (if x6 = 0 then (f_X9_due_b15  M5 a1 a2 1) else (f_X9_due_b15  M5 a1 a2 0))))
abbrev rm_X9_due : Room := { frames := 9, cells := 0, slots := 0, locals := 206 }
set_option maxRecDepth 20000 in
set_option maxHeartbeats 4000000 in
theorem g_X9_due_b15 {p : Program} {l : Launch} {e : Env} {s : State} {m : MethodId} {args : Array Value} {below : List Frame} {meth : Method} {c : Code} {Z : gZ} (hC : gC p l s m args meth c cX9_due 3 RX9 (some .int) Z)   (M : gM) (a1 : Int32) (a2 : Int32) (t1 : Int32) : gW p l e rm_X9_due s m args below meth c 3 Z 1 0 0 M 15 [(0, .ref (zad Z 9)), (1, .int a1), (2, .int a2)] [.int t1, .ref (zad Z 9)] (f_X9_due_b15  M a1 a2 t1) := by
  unfold f_X9_due_b15
  refine g_callVi (n := 1) hC [.int t1] 9 9 (by decide) rfl rfl (fun hne => c_X9_refused hC.2.2.2.2.2.2.2.1 Z M t1 hne) lk_X9_155 mw_X9_refused.1 mw_X9_refused.2.1 mw_X9_refused.2.2.1 mw_X9_refused.2.2.2 ⟨rfl, by decide, by decide, by decide +kernel⟩ rfl rfl ⟨by decide, by decide⟩ rfl rfl (Nat.le_of_ble_eq_true rfl) (by decide) (by decide) (by decide) dX9_due_15 (fun x2 M1 => ?_)
  refine g_if_eq (tgt := 25) hC dX9_due_18 (by decide) (fun _ => ?_) (fun _ => ?_)
  · refine g_aload_n hC 0 dX9_due_25 rfl rfl ?_
    refine g_iload_n hC 1 dX9_due_26 rfl rfl ?_
    refine g_iload_n hC 2 dX9_due_27 rfl rfl ?_
    refine g_callVi (n := 2) hC [.int a1, .int a2] 9 9 (by decide) rfl rfl (fun hne => c_X9_dueOf hC.2.2.2.2.2.2.2.1 Z M1 a1 a2 hne) lk_X9_275 mw_X9_dueOf.1 mw_X9_dueOf.2.1 mw_X9_dueOf.2.2.1 mw_X9_dueOf.2.2.2 ⟨rfl, by decide, by decide, by decide +kernel⟩ rfl rfl ⟨by decide, by decide⟩ rfl rfl (Nat.le_of_ble_eq_true rfl) (by decide) (by decide) (by decide) dX9_due_28 (fun x4 M3 => ?_)
    exact g_iret hC rfl (by decide) dX9_due_31
  · refine g_iconst hC (v := 0) dX9_due_21 (by decide) ?_
    refine g_goto (tgt := 31) hC dX9_due_22 (by decide) ?_
    exact g_iret hC rfl (by decide) dX9_due_31
set_option maxRecDepth 20000 in
set_option maxHeartbeats 4000000 in
theorem c_X9_due {l : Launch} (hfl : l.stackTraces = false) (Z : gZ) (M : gM) (a1 : Int32) (a2 : Int32) : gMet l yX9_due cX9_due 3 (some .int) rm_X9_due 1 0 Z M [.ref (zad Z 9), .int a1, .int a2] (f_X9_due M a1 a2) := by
  refine g_enter hfl (by decide) (Nat.le_of_ble_eq_true rfl) (fun p e s m args below meth c hC => ?_)
  refine g_eq (F := f_X9_due M a1 a2) rfl ?_
  refine g_lv0 (lv1 := [(0, .ref (zad Z 9)), (1, .int a1), (2, .int a2)]) rfl ?_
  unfold f_X9_due
  refine g_aload_n hC 0 dX9_due_0 rfl rfl ?_
  refine g_aload_n hC 0 dX9_due_1 rfl rfl ?_
  refine g_iload_n hC 1 dX9_due_2 rfl rfl ?_
  refine g_iload_n hC 2 dX9_due_3 rfl rfl ?_
  refine g_callVi (n := 2) hC [.int a1, .int a2] 9 9 (by decide) rfl rfl (fun hne => c_X9_isOfSort hC.2.2.2.2.2.2.2.1 Z M a1 a2 hne) lk_X9_272 mw_X9_isOfSort.1 mw_X9_isOfSort.2.1 mw_X9_isOfSort.2.2.1 mw_X9_isOfSort.2.2.2 ⟨rfl, by decide, by decide, by decide +kernel⟩ rfl rfl ⟨by decide, by decide⟩ rfl rfl (Nat.le_of_ble_eq_true rfl) (by decide) (by decide) (by decide) dX9_due_4 (fun x6 M5 => ?_)
  refine g_if_eq (tgt := 14) hC dX9_due_7 (by decide) (fun _ => ?_) (fun _ => ?_)
  · refine g_iconst hC (v := 1) dX9_due_14 (by decide) ?_
    exact g_X9_due_b15 hC  M5 a1 a2 1
  · refine g_iconst hC (v := 0) dX9_due_10 (by decide) ?_
    refine g_goto (tgt := 15) hC dX9_due_11 (by decide) ?_
    exact g_X9_due_b15 hC  M5 a1 a2 0

-- ===== X9_dueByDays =====
def f_X9_dueByDays (M : gM) (a1 : Int32) (a2 : Int32) : gR := (rb (f_X9_due M a1 a2) (fun x2 M1 => (rRet x2 M1)))
abbrev rm_X9_dueByDays : Room := { frames := 10, cells := 0, slots := 0, locals := 228 }
set_option maxRecDepth 20000 in
set_option maxHeartbeats 4000000 in
theorem c_X9_dueByDays {l : Launch} (hfl : l.stackTraces = false) (Z : gZ) (M : gM) (a1 : Int32) (a2 : Int32) : gMet l yX9_dueByDays cX9_dueByDays 3 (some .int) rm_X9_dueByDays 1 0 Z M [.ref (zad Z 9), .int a1, .int a2] (f_X9_dueByDays M a1 a2) := by
  refine g_enter hfl (by decide) (Nat.le_of_ble_eq_true rfl) (fun p e s m args below meth c hC => ?_)
  refine g_eq (F := f_X9_dueByDays M a1 a2) rfl ?_
  refine g_lv0 (lv1 := [(0, .ref (zad Z 9)), (1, .int a1), (2, .int a2)]) rfl ?_
  unfold f_X9_dueByDays
  refine g_aload_n hC 0 dX9_dueByDays_0 rfl rfl ?_
  refine g_iload_n hC 1 dX9_dueByDays_1 rfl rfl ?_
  refine g_iload_n hC 2 dX9_dueByDays_2 rfl rfl ?_
  refine g_callVi (n := 2) hC [.int a1, .int a2] 9 9 (by decide) rfl rfl (fun hne => c_X9_due hC.2.2.2.2.2.2.2.1 Z M a1 a2 hne) lk_X9_306 mw_X9_due.1 mw_X9_due.2.1 mw_X9_due.2.2.1 mw_X9_due.2.2.2 ⟨rfl, by decide, by decide, by decide +kernel⟩ rfl rfl ⟨by decide, by decide⟩ rfl rfl (Nat.le_of_ble_eq_true rfl) (by decide) (by decide) (by decide) dX9_dueByDays_3 (fun x2 M1 => ?_)
  exact g_iret hC rfl (by decide) dX9_dueByDays_6
