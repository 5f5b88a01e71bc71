-- ===== X9_answered =====
def f_X9_answered_lb4  (self4 : gM → Int32 → Int32 → Int32 → gR) (M : gM) (a1 : Int32) (a2 : Int32) (a3 : Int32) : gR := (if (M 9 23) ≤ a3 then (gZ01 a2 (rRet a2 M)) else (if a2 = 0 then (gI a3 160 (if (M 120 a3.toNatClampNeg) = 1 then (gI a3 160 (if (M 122 a3.toNatClampNeg) = a1 then (rb (f_X9_isCounted M a3) (fun x2 M1 => (if x2 = 0 then (bV (a3 + 1) (fun x3 => (self4 M1 a1 0 x3))) else (bV (a3 + 1) (fun x4 => (self4 M1 a1 1 x4)))))) else (bV (a3 + 1) (fun x5 => (self4 M a1 0 x5))))) else (bV (a3 + 1) (fun x6 => (self4 M a1 0 x6))))) else (gZ01 a2 (rRet a2 M))))
def f_X9_answered_l4  : Nat → gM → Int32 → Int32 → Int32 → gR
  | 0, _, _, _, _ => rStuck
  | n + 1, M, a1, a2, a3 => f_X9_answered_lb4  (f_X9_answered_l4  n) M a1 a2 a3
def f_X9_answered (M : gM) (a1 : Int32) : gR := (f_X9_answered_l4  5000 M a1 0 0)
abbrev rm_X9_answered : Room := { frames := 5, cells := 0, slots := 0, locals := 114 }
set_option maxRecDepth 20000 in
set_option maxHeartbeats 4000000 in
theorem g_X9_answered_lb4 {p : Program} {l : Launch} {e : Env} {s : State} {m : MethodId} {args : Array Value} {below : List Frame} {meth : Method} {c : Code} {Z : gZ} (hC : gC p l s m args meth c cX9_answered 4 RX9 (some .boolean) Z)  {self4 : gM → Int32 → Int32 → Int32 → gR}  (hs4 : ∀ (M : gM) (a1 : Int32) (a2 : Int32) (a3 : Int32) , gW p l e rm_X9_answered s m args below meth c 4 Z 1 0 0 M 4 [(0, .ref (zad Z 9)), (1, .int a1), (2, .int a2), (3, .int a3)] [] (self4 M a1 a2 a3)) (M : gM) (a1 : Int32) (a2 : Int32) (a3 : Int32) : gW p l e rm_X9_answered s m args below meth c 4 Z 1 0 0 M 4 [(0, .ref (zad Z 9)), (1, .int a1), (2, .int a2), (3, .int a3)] [] (f_X9_answered_lb4  self4 M a1 a2 a3) := by
  unfold f_X9_answered_lb4
  refine g_iload_n hC 3 dX9_answered_4 rfl rfl ?_
  refine g_aload_n hC 0 dX9_answered_5 rfl rfl ?_
  refine gf_X9_171 hC dX9_answered_6 ?_
  refine g_icmp_ge (tgt := 56) hC dX9_answered_9 (by decide) (fun _ => ?_) (fun _ => ?_)
  · refine g_iload_n hC 2 dX9_answered_56 rfl rfl ?_
    exact g_zret hC rfl (by decide) dX9_answered_57
  · refine g_iload_n hC 2 dX9_answered_12 rfl rfl ?_
    refine g_if_ne (tgt := 56) hC dX9_answered_13 (by decide) (fun _ => ?_) (fun _ => ?_)
    · refine g_aload_n hC 0 dX9_answered_16 rfl rfl ?_
      refine gf_X9_65 hC dX9_answered_17 ?_
      refine g_iload_n hC 3 dX9_answered_20 rfl rfl ?_
      refine g_iald hC 120 (by decide) rfl dX9_answered_21 ?_
      refine g_iconst hC (v := 1) dX9_answered_22 (by decide) ?_
      refine g_icmp_ne (tgt := 48) hC dX9_answered_23 (by decide) (fun _ => ?_) (fun _ => ?_)
      · refine g_aload_n hC 0 dX9_answered_26 rfl rfl ?_
        refine gf_X9_71 hC dX9_answered_27 ?_
        refine g_iload_n hC 3 dX9_answered_30 rfl rfl ?_
        refine g_iald hC 122 (by decide) rfl dX9_answered_31 ?_
        refine g_iload_n hC 1 dX9_answered_32 rfl rfl ?_
        refine g_icmp_ne (tgt := 48) hC dX9_answered_33 (by decide) (fun _ => ?_) (fun _ => ?_)
        · refine g_aload_n hC 0 dX9_answered_36 rfl rfl ?_
          refine g_iload_n hC 3 dX9_answered_37 rfl rfl ?_
          refine g_callVi (n := 1) hC [.int a3] 9 9 (by decide) rfl rfl (fun hne => c_X9_isCounted hC.2.2.2.2.2.2.2.1 Z M a3 hne) lk_X9_214 mw_X9_isCounted.1 mw_X9_isCounted.2.1 mw_X9_isCounted.2.2.1 mw_X9_isCounted.2.2.2 ⟨rfl, by decide, by decide, by decide +kernel⟩ rfl rfl ⟨by decide, by decide⟩ rfl rfl (Nat.le_of_ble_eq_true rfl) (by decide) (by decide) (by decide) dX9_answered_38 (fun x2 M1 => ?_)
          refine g_if_eq (tgt := 48) hC dX9_answered_41 (by decide) (fun _ => ?_) (fun _ => ?_)
          · refine g_iconst hC (v := 0) dX9_answered_48 (by decide) ?_
            refine g_istore_n hC (lv1 := [(2, .int 0), (0, .ref (zad Z 9)), (1, .int a1), (3, .int a3)]) dX9_answered_49 rfl (by decide) rfl ?_
            refine g_iinc hC 3 (v := 1) (fun x3 => [(3, .int x3), (2, .int 0), (0, .ref (zad Z 9)), (1, .int a1)]) dX9_answered_50 rfl (by decide) (by decide) (fun _ => rfl) (fun x3 => ?_)
            refine g_goto (tgt := 4) hC dX9_answered_53 (by decide) ?_
            refine g_sub (lv1 := [(0, .ref (zad Z 9)), (1, .int a1), (2, .int 0), (3, .int x3)]) [2, 3, 1, 0] rfl ?_
            exact hs4 M1 a1 0 x3
          · refine g_iconst hC (v := 1) dX9_answered_44 (by decide) ?_
            refine g_goto (tgt := 49) hC dX9_answered_45 (by decide) ?_
            refine g_istore_n hC (lv1 := [(2, .int 1), (0, .ref (zad Z 9)), (1, .int a1), (3, .int a3)]) dX9_answered_49 rfl (by decide) rfl ?_
            refine g_iinc hC 3 (v := 1) (fun x4 => [(3, .int x4), (2, .int 1), (0, .ref (zad Z 9)), (1, .int a1)]) dX9_answered_50 rfl (by decide) (by decide) (fun _ => rfl) (fun x4 => ?_)
            refine g_goto (tgt := 4) hC dX9_answered_53 (by decide) ?_
            refine g_sub (lv1 := [(0, .ref (zad Z 9)), (1, .int a1), (2, .int 1), (3, .int x4)]) [2, 3, 1, 0] rfl ?_
            exact hs4 M1 a1 1 x4
        · refine g_iconst hC (v := 0) dX9_answered_48 (by decide) ?_
          refine g_istore_n hC (lv1 := [(2, .int 0), (0, .ref (zad Z 9)), (1, .int a1), (3, .int a3)]) dX9_answered_49 rfl (by decide) rfl ?_
          refine g_iinc hC 3 (v := 1) (fun x5 => [(3, .int x5), (2, .int 0), (0, .ref (zad Z 9)), (1, .int a1)]) dX9_answered_50 rfl (by decide) (by decide) (fun _ => rfl) (fun x5 => ?_)
          refine g_goto (tgt := 4) hC dX9_answered_53 (by decide) ?_
          refine g_sub (lv1 := [(0, .ref (zad Z 9)), (1, .int a1), (2, .int 0), (3, .int x5)]) [2, 3, 1, 0] rfl ?_
          exact hs4 M a1 0 x5
      · refine g_iconst hC (v := 0) dX9_answered_48 (by decide) ?_
        refine g_istore_n hC (lv1 := [(2, .int 0), (0, .ref (zad Z 9)), (1, .int a1), (3, .int a3)]) dX9_answered_49 rfl (by decide) rfl ?_
        refine g_iinc hC 3 (v := 1) (fun x6 => [(3, .int x6), (2, .int 0), (0, .ref (zad Z 9)), (1, .int a1)]) dX9_answered_50 rfl (by decide) (by decide) (fun _ => rfl) (fun x6 => ?_)
        refine g_goto (tgt := 4) hC dX9_answered_53 (by decide) ?_
        refine g_sub (lv1 := [(0, .ref (zad Z 9)), (1, .int a1), (2, .int 0), (3, .int x6)]) [2, 3, 1, 0] rfl ?_
        exact hs4 M a1 0 x6
    · refine g_iload_n hC 2 dX9_answered_56 rfl rfl ?_
      exact g_zret hC rfl (by decide) dX9_answered_57
set_option maxRecDepth 20000 in
set_option maxHeartbeats 4000000 in
theorem g_X9_answered_l4 {p : Program} {l : Launch} {e : Env} {s : State} {m : MethodId} {args : Array Value} {below : List Frame} {meth : Method} {c : Code} {Z : gZ} (hC : gC p l s m args meth c cX9_answered 4 RX9 (some .boolean) Z)   : ∀ (n : Nat) (M : gM) (a1 : Int32) (a2 : Int32) (a3 : Int32), gW p l e rm_X9_answered s m args below meth c 4 Z 1 0 0 M 4 [(0, .ref (zad Z 9)), (1, .int a1), (2, .int a2), (3, .int a3)] [] (f_X9_answered_l4  n M a1 a2 a3)
  | 0, _, _, _, _ => g_stuck
  | n + 1, M, a1, a2, a3 => g_X9_answered_lb4 hC  (g_X9_answered_l4 hC  n) M a1 a2 a3
set_option maxRecDepth 20000 in
set_option maxHeartbeats 4000000 in
theorem c_X9_answered {l : Launch} (hfl : l.stackTraces = false) (Z : gZ) (M : gM) (a1 : Int32) : gMet l yX9_answered cX9_answered 4 (some .boolean) rm_X9_answered 1 0 Z M [.ref (zad Z 9), .int a1] (f_X9_answered M a1) := by
  refine g_enter hfl (by decide) (Nat.le_of_ble_eq_true rfl) (fun p e s m args below meth c hC => ?_)
  refine g_eq (F := f_X9_answered M a1) rfl ?_
  refine g_lv0 (lv1 := [(0, .ref (zad Z 9)), (1, .int a1)]) rfl ?_
  unfold f_X9_answered
  refine g_iconst hC (v := 0) dX9_answered_0 (by decide) ?_
  refine g_istore_n hC (lv1 := [(2, .int 0), (0, .ref (zad Z 9)), (1, .int a1)]) dX9_answered_1 rfl (by decide) rfl ?_
  refine g_iconst hC (v := 0) dX9_answered_2 (by decide) ?_
  refine g_istore_n hC (lv1 := [(3, .int 0), (2, .int 0), (0, .ref (zad Z 9)), (1, .int a1)]) dX9_answered_3 rfl (by decide) rfl ?_
  refine g_sub (lv1 := [(0, .ref (zad Z 9)), (1, .int a1), (2, .int 0), (3, .int 0)]) [2, 3, 1, 0] rfl ?_
  exact g_X9_answered_l4 hC  5000 M a1 0 0

-- ===== X9_answerFrom =====
def f_X9_answerFrom_b96 (self9 : gM → Int32 → Int32 → Int32 → gR) (M : gM) (a1 : Int32) (a3 : Int32)  : gR := (bV (a3 + 1) (fun x1 => (self9 M a1 a3 x1)))
def f_X9_answerFrom_b74 (self9 : gM → Int32 → Int32 → Int32 → gR) (M : gM) (a1 : Int32) (a2 : Int32) (a3 : Int32) (a4 : Int32) (t0 : Int32) : gR := (gI a3 160 (if (M 122 a3.toNatClampNeg) = a1 then (if a4 = 0 then (if t0 = 0 then (bV (a3 + 1) (fun x2 => (self9 M a1 a2 x2))) else (f_X9_answerFrom_b96 self9 M a1 a3 )) else (f_X9_answerFrom_b96 self9 M a1 a3 )) else (bV (a3 + 1) (fun x3 => (self9 M a1 a2 x3)))))
def f_X9_answerFrom_b73 (self9 : gM → Int32 → Int32 → Int32 → gR) (M : gM) (a1 : Int32) (a2 : Int32) (a3 : Int32) (a4 : Int32)  : gR := (f_X9_answerFrom_b74 self9 M a1 a2 a3 a4 0)
def f_X9_answerFrom_b41 (self9 : gM → Int32 → Int32 → Int32 → gR) (M : gM) (a1 : Int32) (a2 : Int32) (a3 : Int32) (t0 : Int32) : gR := (gI a3 160 (if (M 120 a3.toNatClampNeg) = 6 then (gI a3 160 (gI (M 123 a3.toNatClampNeg) 160 (if (M 120 (M 123 a3.toNatClampNeg).toNatClampNeg) = 4 then (f_X9_answerFrom_b74 self9 M a1 a2 a3 t0 1) else (f_X9_answerFrom_b73 self9 M a1 a2 a3 t0 )))) else (f_X9_answerFrom_b73 self9 M a1 a2 a3 t0 )))
def f_X9_answerFrom_b40 (self9 : gM → Int32 → Int32 → Int32 → gR) (M : gM) (a1 : Int32) (a2 : Int32) (a3 : Int32)  : gR := (f_X9_answerFrom_b41 self9 M a1 a2 a3 0)
def f_X9_answerFrom_lb9  (self9 : gM → Int32 → Int32 → Int32 → gR) (M : gM) (a1 : Int32) (a2 : Int32) (a3 : Int32) : gR := (if (M 9 23) ≤ a3 then (rRet a2 M) else (gI a3 160 (if (M 120 a3.toNatClampNeg) = 4 then (gI a3 160 (if (M 123 a3.toNatClampNeg) = 0 then (f_X9_answerFrom_b40 self9 M a1 a2 a3 ) else (f_X9_answerFrom_b41 self9 M a1 a2 a3 1))) else (f_X9_answerFrom_b40 self9 M a1 a2 a3 ))))
def f_X9_answerFrom_l9  : Nat → gM → Int32 → Int32 → Int32 → gR
  | 0, _, _, _, _ => rStuck
  | n + 1, M, a1, a2, a3 => f_X9_answerFrom_lb9  (f_X9_answerFrom_l9  n) M a1 a2 a3
def f_X9_answerFrom (M : gM) (a1 : Int32) : gR := (rb (f_X9_latest M a1 0) (fun x5 M4 => (f_X9_answerFrom_l9  5000 M4 a1 x5 0)))
abbrev rm_X9_answerFrom : Room := { frames := 1, cells := 0, slots := 0, locals := 24 }
set_option maxRecDepth 20000 in
set_option maxHeartbeats 4000000 in
theorem g_X9_answerFrom_b96 {p : Program} {l : Launch} {e : Env} {s : State} {m : MethodId} {args : Array Value} {below : List Frame} {meth : Method} {c : Code} {Z : gZ} (hC : gC p l s m args meth c cX9_answerFrom 6 RX9 (some .int) Z) {self9 : gM → Int32 → Int32 → Int32 → gR} (hs9 : ∀ (M : gM) (a1 : Int32) (a2 : Int32) (a3 : Int32) , gW p l e rm_X9_answerFrom s m args below meth c 6 Z 1 0 0 M 9 [(0, .ref (zad Z 9)), (1, .int a1), (2, .int a2), (3, .int a3)] [] (self9 M a1 a2 a3)) (M : gM) (a1 : Int32) (a3 : Int32)  : gW p l e rm_X9_answerFrom s m args below meth c 6 Z 1 0 0 M 96 [(0, .ref (zad Z 9)), (1, .int a1), (3, .int a3)] [] (f_X9_answerFrom_b96 self9 M a1 a3 ) := by
  unfold f_X9_answerFrom_b96
  refine g_iload_n hC 2 dX9_answerFrom_96 rfl rfl ?_
  refine g_goto (tgt := 101) hC dX9_answerFrom_97 (by decide) ?_
  refine g_istore_n hC (lv1 := [(2, .int a3), (0, .ref (zad Z 9)), (1, .int a1), (3, .int a3)]) dX9_answerFrom_101 rfl (by decide) rfl ?_
  refine g_iinc hC 3 (v := 1) (fun x1 => [(3, .int x1), (2, .int a3), (0, .ref (zad Z 9)), (1, .int a1)]) dX9_answerFrom_102 rfl (by decide) (by decide) (fun _ => rfl) (fun x1 => ?_)
  refine g_goto (tgt := 9) hC dX9_answerFrom_105 (by decide) ?_
  refine g_sub (lv1 := [(0, .ref (zad Z 9)), (1, .int a1), (2, .int a3), (3, .int x1)]) [2, 3, 1, 0] rfl ?_
  exact hs9 M a1 a3 x1
set_option maxRecDepth 20000 in
set_option maxHeartbeats 4000000 in
theorem g_X9_answerFrom_b74 {p : Program} {l : Launch} {e : Env} {s : State} {m : MethodId} {args : Array Value} {below : List Frame} {meth : Method} {c : Code} {Z : gZ} (hC : gC p l s m args meth c cX9_answerFrom 6 RX9 (some .int) Z) {self9 : gM → Int32 → Int32 → Int32 → gR} (hs9 : ∀ (M : gM) (a1 : Int32) (a2 : Int32) (a3 : Int32) , gW p l e rm_X9_answerFrom s m args below meth c 6 Z 1 0 0 M 9 [(0, .ref (zad Z 9)), (1, .int a1), (2, .int a2), (3, .int a3)] [] (self9 M a1 a2 a3)) (M : gM) (a1 : Int32) (a2 : Int32) (a3 : Int32) (a4 : Int32) (t0 : Int32) : gW p l e rm_X9_answerFrom s m args below meth c 6 Z 1 0 0 M 74 [(0, .ref (zad Z 9)), (1, .int a1), (2, .int a2), (3, .int a3), (4, .int a4)] [.int t0] (f_X9_answerFrom_b74 self9 M a1 a2 a3 a4 t0) := by
  unfold f_X9_answerFrom_b74
  refine g_istore hC (lv1 := [(5, .int t0), (0, .ref (zad Z 9)), (1, .int a1), (2, .int a2), (3, .int a3), (4, .int a4)]) dX9_answerFrom_74 (by decide) rfl ?_
  refine g_aload_n hC 1 dX9_answerFrom_76 rfl rfl ?_
  refine gf_X9_71 hC dX9_answerFrom_77 ?_
  refine g_iload_n hC 4 dX9_answerFrom_80 rfl rfl ?_
  refine g_iald hC 122 (by decide) rfl dX9_answerFrom_81 ?_
  refine g_iload_n hC 2 dX9_answerFrom_82 rfl rfl ?_
  refine g_icmp_ne (tgt := 100) hC dX9_answerFrom_83 (by decide) (fun _ => ?_) (fun _ => ?_)
  · refine g_iload hC 5 dX9_answerFrom_86 rfl ?_
    refine g_if_ne (tgt := 96) hC dX9_answerFrom_88 (by decide) (fun _ => ?_) (fun _ => ?_)
    · refine g_iload hC 0 dX9_answerFrom_91 rfl ?_
      refine g_if_eq (tgt := 100) hC dX9_answerFrom_93 (by decide) (fun _ => ?_) (fun _ => ?_)
      · refine g_iload_n hC 3 dX9_answerFrom_100 rfl rfl ?_
        refine g_istore_n hC (lv1 := [(2, .int a2), (5, .int t0), (0, .ref (zad Z 9)), (1, .int a1), (3, .int a3), (4, .int a4)]) dX9_answerFrom_101 rfl (by decide) rfl ?_
        refine g_iinc hC 4 (v := 1) (fun x2 => [(3, .int x2), (2, .int a2), (5, .int t0), (0, .ref (zad Z 9)), (1, .int a1), (4, .int a4)]) dX9_answerFrom_102 rfl (by decide) (by decide) (fun _ => rfl) (fun x2 => ?_)
        refine g_goto (tgt := 9) hC dX9_answerFrom_105 (by decide) ?_
        refine g_sub (lv1 := [(0, .ref (zad Z 9)), (1, .int a1), (2, .int a2), (3, .int x2)]) [3, 4, 1, 0] rfl ?_
        exact hs9 M a1 a2 x2
      · refine g_sub (lv1 := [(0, .ref (zad Z 9)), (1, .int a1), (3, .int a3)]) [1, 2, 4] rfl ?_
        exact g_X9_answerFrom_b96 hC hs9 M a1 a3 
    · refine g_sub (lv1 := [(0, .ref (zad Z 9)), (1, .int a1), (3, .int a3)]) [1, 2, 4] rfl ?_
      exact g_X9_answerFrom_b96 hC hs9 M a1 a3 
  · refine g_iload_n hC 3 dX9_answerFrom_100 rfl rfl ?_
    refine g_istore_n hC (lv1 := [(2, .int a2), (5, .int t0), (0, .ref (zad Z 9)), (1, .int a1), (3, .int a3), (4, .int a4)]) dX9_answerFrom_101 rfl (by decide) rfl ?_
    refine g_iinc hC 4 (v := 1) (fun x3 => [(3, .int x3), (2, .int a2), (5, .int t0), (0, .ref (zad Z 9)), (1, .int a1), (4, .int a4)]) dX9_answerFrom_102 rfl (by decide) (by decide) (fun _ => rfl) (fun x3 => ?_)
    refine g_goto (tgt := 9) hC dX9_answerFrom_105 (by decide) ?_
    refine g_sub (lv1 := [(0, .ref (zad Z 9)), (1, .int a1), (2, .int a2), (3, .int x3)]) [3, 4, 1, 0] rfl ?_
    exact hs9 M a1 a2 x3
set_option maxRecDepth 20000 in
set_option maxHeartbeats 4000000 in
theorem g_X9_answerFrom_b73 {p : Program} {l : Launch} {e : Env} {s : State} {m : MethodId} {args : Array Value} {below : List Frame} {meth : Method} {c : Code} {Z : gZ} (hC : gC p l s m args meth c cX9_answerFrom 6 RX9 (some .int) Z) {self9 : gM → Int32 → Int32 → Int32 → gR} (hs9 : ∀ (M : gM) (a1 : Int32) (a2 : Int32) (a3 : Int32) , gW p l e rm_X9_answerFrom s m args below meth c 6 Z 1 0 0 M 9 [(0, .ref (zad Z 9)), (1, .int a1), (2, .int a2), (3, .int a3)] [] (self9 M a1 a2 a3)) (M : gM) (a1 : Int32) (a2 : Int32) (a3 : Int32) (a4 : Int32)  : gW p l e rm_X9_answerFrom s m args below meth c 6 Z 1 0 0 M 73 [(0, .ref (zad Z 9)), (1, .int a1), (2, .int a2), (3, .int a3), (4, .int a4)] [] (f_X9_answerFrom_b73 self9 M a1 a2 a3 a4 ) := by
  unfold f_X9_answerFrom_b73
  refine g_iconst hC (v := 0) dX9_answerFrom_73 (by decide) ?_
  exact g_X9_answerFrom_b74 hC hs9 M a1 a2 a3 a4 0
set_option maxRecDepth 20000 in
set_option maxHeartbeats 4000000 in
theorem g_X9_answerFrom_b41 {p : Program} {l : Launch} {e : Env} {s : State} {m : MethodId} {args : Array Value} {below : List Frame} {meth : Method} {c : Code} {Z : gZ} (hC : gC p l s m args meth c cX9_answerFrom 6 RX9 (some .int) Z) {self9 : gM → Int32 → Int32 → Int32 → gR} (hs9 : ∀ (M : gM) (a1 : Int32) (a2 : Int32) (a3 : Int32) , gW p l e rm_X9_answerFrom s m args below meth c 6 Z 1 0 0 M 9 [(0, .ref (zad Z 9)), (1, .int a1), (2, .int a2), (3, .int a3)] [] (self9 M a1 a2 a3)) (M : gM) (a1 : Int32) (a2 : Int32) (a3 : Int32) (t0 : Int32) : gW p l e rm_X9_answerFrom s m args below meth c 6 Z 1 0 0 M 41 [(0, .ref (zad Z 9)), (1, .int a1), (2, .int a2), (3, .int a3)] [.int t0] (f_X9_answerFrom_b41 self9 M a1 a2 a3 t0) := by
  unfold f_X9_answerFrom_b41
  refine g_istore hC (lv1 := [(4, .int t0), (0, .ref (zad Z 9)), (1, .int a1), (2, .int a2), (3, .int a3)]) dX9_answerFrom_41 (by decide) rfl ?_
  refine g_aload_n hC 1 dX9_answerFrom_43 rfl rfl ?_
  refine gf_X9_65 hC dX9_answerFrom_44 ?_
  refine g_iload_n hC 4 dX9_answerFrom_47 rfl rfl ?_
  refine g_iald hC 120 (by decide) rfl dX9_answerFrom_48 ?_
  refine g_bipush hC (v := 6) dX9_answerFrom_49 (by decide) ?_
  refine g_icmp_ne (tgt := 73) hC dX9_answerFrom_51 (by decide) (fun _ => ?_) (fun _ => ?_)
  · refine g_aload_n hC 1 dX9_answerFrom_54 rfl rfl ?_
    refine gf_X9_65 hC dX9_answerFrom_55 ?_
    refine g_aload_n hC 1 dX9_answerFrom_58 rfl rfl ?_
    refine gf_X9_74 hC dX9_answerFrom_59 ?_
    refine g_iload_n hC 4 dX9_answerFrom_62 rfl rfl ?_
    refine g_iald hC 123 (by decide) rfl dX9_answerFrom_63 ?_
    refine g_iald hC 120 (by decide) rfl dX9_answerFrom_64 ?_
    refine g_iconst hC (v := 4) dX9_answerFrom_65 (by decide) ?_
    refine g_icmp_ne (tgt := 73) hC dX9_answerFrom_66 (by decide) (fun _ => ?_) (fun _ => ?_)
    · refine g_iconst hC (v := 1) dX9_answerFrom_69 (by decide) ?_
      refine g_goto (tgt := 74) hC dX9_answerFrom_70 (by decide) ?_
      refine g_sub (lv1 := [(0, .ref (zad Z 9)), (1, .int a1), (2, .int a2), (3, .int a3), (4, .int t0)]) [1, 2, 3, 4, 0] rfl ?_
      exact g_X9_answerFrom_b74 hC hs9 M a1 a2 a3 t0 1
    · refine g_sub (lv1 := [(0, .ref (zad Z 9)), (1, .int a1), (2, .int a2), (3, .int a3), (4, .int t0)]) [1, 2, 3, 4, 0] rfl ?_
      exact g_X9_answerFrom_b73 hC hs9 M a1 a2 a3 t0 
  · refine g_sub (lv1 := [(0, .ref (zad Z 9)), (1, .int a1), (2, .int a2), (3, .int a3), (4, .int t0)]) [1, 2, 3, 4, 0] rfl ?_
    exact g_X9_answerFrom_b73 hC hs9 M a1 a2 a3 t0 
set_option maxRecDepth 20000 in
set_option maxHeartbeats 4000000 in
theorem g_X9_answerFrom_b40 {p : Program} {l : Launch} {e : Env} {s : State} {m : MethodId} {args : Array Value} {below : List Frame} {meth : Method} {c : Code} {Z : gZ} (hC : gC p l s m args meth c cX9_answerFrom 6 RX9 (some .int) Z) {self9 : gM → Int32 → Int32 → Int32 → gR} (hs9 : ∀ (M : gM) (a1 : Int32) (a2 : Int32) (a3 : Int32) , gW p l e rm_X9_answerFrom s m args below meth c 6 Z 1 0 0 M 9 [(0, .ref (zad Z 9)), (1, .int a1), (2, .int a2), (3, .int a3)] [] (self9 M a1 a2 a3)) (M : gM) (a1 : Int32) (a2 : Int32) (a3 : Int32)  : gW p l e rm_X9_answerFrom s m args below meth c 6 Z 1 0 0 M 40 [(0, .ref (zad Z 9)), (1, .int a1), (2, .int a2), (3, .int a3)] [] (f_X9_answerFrom_b40 self9 M a1 a2 a3 ) := by
  unfold f_X9_answerFrom_b40
  refine g_iconst hC (v := 0) dX9_answerFrom_40 (by decide) ?_
  exact g_X9_answerFrom_b41 hC hs9 M a1 a2 a3 0
set_option maxRecDepth 20000 in
set_option maxHeartbeats 4000000 in
theorem g_X9_answerFrom_lb9 {p : Program} {l : Launch} {e : Env} {s : State} {m : MethodId} {args : Array Value} {below : List Frame} {meth : Method} {c : Code} {Z : gZ} (hC : gC p l s m args meth c cX9_answerFrom 6 RX9 (some .int) Z)  {self9 : gM → Int32 → Int32 → Int32 → gR}  (hs9 : ∀ (M : gM) (a1 : Int32) (a2 : Int32) (a3 : Int32) , gW p l e rm_X9_answerFrom s m args below meth c 6 Z 1 0 0 M 9 [(0, .ref (zad Z 9)), (1, .int a1), (2, .int a2), (3, .int a3)] [] (self9 M a1 a2 a3)) (M : gM) (a1 : Int32) (a2 : Int32) (a3 : Int32) : gW p l e rm_X9_answerFrom s m args below meth c 6 Z 1 0 0 M 9 [(0, .ref (zad Z 9)), (1, .int a1), (2, .int a2), (3, .int a3)] [] (f_X9_answerFrom_lb9  self9 M a1 a2 a3) := by
  unfold f_X9_answerFrom_lb9
  refine g_iload_n hC 3 dX9_answerFrom_9 rfl rfl ?_
  refine g_aload_n hC 0 dX9_answerFrom_10 rfl rfl ?_
  refine gf_X9_171 hC dX9_answerFrom_11 ?_
  refine g_icmp_ge (tgt := 108) hC dX9_answerFrom_14 (by decide) (fun _ => ?_) (fun _ => ?_)
  · refine g_iload_n hC 2 dX9_answerFrom_108 rfl rfl ?_
    exact g_iret hC rfl (by decide) dX9_answerFrom_109
  · refine g_aload_n hC 0 dX9_answerFrom_17 rfl rfl ?_
    refine gf_X9_65 hC dX9_answerFrom_18 ?_
    refine g_iload_n hC 3 dX9_answerFrom_21 rfl rfl ?_
    refine g_iald hC 120 (by decide) rfl dX9_answerFrom_22 ?_
    refine g_iconst hC (v := 4) dX9_answerFrom_23 (by decide) ?_
    refine g_icmp_ne (tgt := 40) hC dX9_answerFrom_24 (by decide) (fun _ => ?_) (fun _ => ?_)
    · refine g_aload_n hC 0 dX9_answerFrom_27 rfl rfl ?_
      refine gf_X9_74 hC dX9_answerFrom_28 ?_
      refine g_iload_n hC 3 dX9_answerFrom_31 rfl rfl ?_
      refine g_iald hC 123 (by decide) rfl dX9_answerFrom_32 ?_
      refine g_if_eq (tgt := 40) hC dX9_answerFrom_33 (by decide) (fun _ => ?_) (fun _ => ?_)
      · exact g_X9_answerFrom_b40 hC hs9 M a1 a2 a3
      · refine g_iconst hC (v := 1) dX9_answerFrom_36 (by decide) ?_
        refine g_goto (tgt := 41) hC dX9_answerFrom_37 (by decide) ?_
        exact g_X9_answerFrom_b41 hC hs9 M a1 a2 a3 1
    · exact g_X9_answerFrom_b40 hC hs9 M a1 a2 a3
set_option maxRecDepth 20000 in
set_option maxHeartbeats 4000000 in
theorem g_X9_answerFrom_l9 {p : Program} {l : Launch} {e : Env} {s : State} {m : MethodId} {args : Array Value} {below : List Frame} {meth : Method} {c : Code} {Z : gZ} (hC : gC p l s m args meth c cX9_answerFrom 6 RX9 (some .int) Z)   : ∀ (n : Nat) (M : gM) (a1 : Int32) (a2 : Int32) (a3 : Int32), gW p l e rm_X9_answerFrom s m args below meth c 6 Z 1 0 0 M 9 [(0, .ref (zad Z 9)), (1, .int a1), (2, .int a2), (3, .int a3)] [] (f_X9_answerFrom_l9  n M a1 a2 a3)
  | 0, _, _, _, _ => g_stuck
  | n + 1, M, a1, a2, a3 => g_X9_answerFrom_lb9 hC  (g_X9_answerFrom_l9 hC  n) M a1 a2 a3
set_option maxRecDepth 20000 in
set_option maxHeartbeats 4000000 in
theorem c_X9_answerFrom {l : Launch} (hfl : l.stackTraces = false) (Z : gZ) (M : gM) (a1 : Int32) : gMet l yX9_answerFrom cX9_answerFrom 6 (some .int) rm_X9_answerFrom 1 0 Z M [.ref (zad Z 9), .int a1] (f_X9_answerFrom M a1) := by
  refine g_enter hfl (by decide) (Nat.le_of_ble_eq_true rfl) (fun p e s m args below meth c hC => ?_)
  refine g_eq (F := f_X9_answerFrom M a1) rfl ?_
  refine g_lv0 (lv1 := [(0, .ref (zad Z 9)), (1, .int a1)]) rfl ?_
  unfold f_X9_answerFrom
  refine g_aload_n hC 0 dX9_answerFrom_0 rfl rfl ?_
  refine g_iload_n hC 1 dX9_answerFrom_1 rfl rfl ?_
  refine g_iconst hC (v := 0) dX9_answerFrom_2 (by decide) ?_
  refine g_callVi (n := 2) hC [.int a1, .int 0] 9 9 (by decide) rfl rfl (fun hne => c_X9_latest hC.2.2.2.2.2.2.2.1 Z M a1 0 hne) lk_X9_220 mw_X9_latest.1 mw_X9_latest.2.1 mw_X9_latest.2.2.1 mw_X9_latest.2.2.2 ⟨rfl, by decide, by decide, by decide +kernel⟩ rfl rfl ⟨by decide, by decide⟩ rfl rfl (Nat.le_of_ble_eq_true rfl) (by decide) (by decide) (by decide) dX9_answerFrom_3 (fun x5 M4 => ?_)
  refine g_istore_n hC (lv1 := [(2, .int x5), (0, .ref (zad Z 9)), (1, .int a1)]) dX9_answerFrom_6 rfl (by decide) rfl ?_
  refine g_iconst hC (v := 0) dX9_answerFrom_7 (by decide) ?_
  refine g_istore_n hC (lv1 := [(3, .int 0), (2, .int x5), (0, .ref (zad Z 9)), (1, .int a1)]) dX9_answerFrom_8 rfl (by decide) rfl ?_
  refine g_sub (lv1 := [(0, .ref (zad Z 9)), (1, .int a1), (2, .int x5), (3, .int 0)]) [2, 3, 1, 0] rfl ?_
  exact g_X9_answerFrom_l9 hC  5000 M4 a1 x5 0

-- ===== X9_answerDue =====
def f_X9_answerDue_b88  (M : gM) (a1 : Int32) (a2 : Int32) (t0 : Int32) (t1 : Int32) : gR := (bV (t0 + t1) (fun x1 => (gI a2 160 (gI a2 160 (gI a1 24 (rb (f_X9_deadline M (M 121 a2.toNatClampNeg) x1 (M 126 a2.toNatClampNeg) (M 109 a1.toNatClampNeg)) (fun x3 M2 => (rRet x3 M2))))))))
def f_X9_answerDue_b67  (M : gM) (a1 : Int32) (a2 : Int32) (t0 : Int32) (t1 : Int32) : gR := (gI a1 24 (if (M 117 a1.toNatClampNeg) = a2 then (gI a1 24 (f_X9_answerDue_b88  M a1 a2 (t0 + t1) (M 116 a1.toNatClampNeg))) else (f_X9_answerDue_b88  M a1 a2 (t0 + t1) 0)))
def f_X9_answerDue_b40  (M : gM) (a1 : Int32) (a2 : Int32) (t0 : Int32) : gR := (gI a2 160 (if t0 = 1 then (f_X9_answerDue_b67  M a1 a2 (M 125 a2.toNatClampNeg) 3) else (if t0 = 2 then (f_X9_answerDue_b67  M a1 a2 (M 125 a2.toNatClampNeg) 7) else (f_X9_answerDue_b67  M a1 a2 (M 125 a2.toNatClampNeg) 0))))
def f_X9_answerDue (M : gM) (a1 : Int32) : gR := (rb (f_X9_answerFrom M a1) (fun x5 M4 => (if x5 = (-1) then (rRet (-1) M4) else (rb (f_X9_hasOpenMotion M4 a1) (fun x7 M6 => (if x7 = 0 then (gI x5 160 (if (M6 120 x5.toNatClampNeg) = 0 then (gI x5 160 (f_X9_answerDue_b40  M6 a1 x5 (M6 123 x5.toNatClampNeg))) else (f_X9_answerDue_b40  M6 a1 x5 0))) else (rRet (-1) M6)))))))
abbrev rm_X9_answerDue : Room := { frames := 7, cells := 0, slots := 0, locals := 160 }
set_option maxRecDepth 20000 in
set_option maxHeartbeats 4000000 in
theorem g_X9_answerDue_b88 {p : Program} {l : Launch} {e : Env} {s : State} {m : MethodId} {args : Array Value} {below : List Frame} {meth : Method} {c : Code} {Z : gZ} (hC : gC p l s m args meth c cX9_answerDue 5 RX9 (some .int) Z)   (M : gM) (a1 : Int32) (a2 : Int32) (t0 : Int32) (t1 : Int32) : gW p l e rm_X9_answerDue s m args below meth c 5 Z 1 0 0 M 88 [(0, .ref (zad Z 9)), (1, .int a1), (2, .int a2)] [.int t1, .int t0] (f_X9_answerDue_b88  M a1 a2 t0 t1) := by
  unfold f_X9_answerDue_b88
  refine g_iadd hC dX9_answerDue_88 ?_
  refine g_bv (fun x1 => ?_)
  refine g_istore hC (lv1 := [(4, .int x1), (0, .ref (zad Z 9)), (1, .int a1), (2, .int a2)]) dX9_answerDue_89 (by decide) rfl ?_
  refine g_aload_n hC 1 dX9_answerDue_91 rfl rfl ?_
  refine g_aload_n hC 1 dX9_answerDue_92 rfl rfl ?_
  refine gf_X9_68 hC dX9_answerDue_93 ?_
  refine g_iload_n hC 3 dX9_answerDue_96 rfl rfl ?_
  refine g_iald hC 121 (by decide) rfl dX9_answerDue_97 ?_
  refine g_iload hC 0 dX9_answerDue_98 rfl ?_
  refine g_aload_n hC 1 dX9_answerDue_100 rfl rfl ?_
  refine gf_X9_83 hC dX9_answerDue_101 ?_
  refine g_iload_n hC 3 dX9_answerDue_104 rfl rfl ?_
  refine g_zald hC 126 (by decide) rfl dX9_answerDue_105 ?_
  refine g_aload_n hC 1 dX9_answerDue_106 rfl rfl ?_
  refine gf_X9_32 hC dX9_answerDue_107 ?_
  refine g_iload_n hC 2 dX9_answerDue_110 rfl rfl ?_
  refine g_iald hC 109 (by decide) rfl dX9_answerDue_111 ?_
  refine g_callVi (n := 4) hC [.int (M 121 a2.toNatClampNeg), .int x1, .int (M 126 a2.toNatClampNeg), .int (M 109 a1.toNatClampNeg)] 9 9 (by decide) rfl rfl (fun hne => c_X9_deadline hC.2.2.2.2.2.2.2.1 Z M (M 121 a2.toNatClampNeg) x1 (M 126 a2.toNatClampNeg) (M 109 a1.toNatClampNeg) hne) lk_X9_210 mw_X9_deadline.1 mw_X9_deadline.2.1 mw_X9_deadline.2.2.1 mw_X9_deadline.2.2.2 ⟨rfl, by decide, by decide, by decide +kernel⟩ rfl rfl ⟨by decide, by decide⟩ rfl rfl (Nat.le_of_ble_eq_true rfl) (by decide) (by decide) (by decide) dX9_answerDue_112 (fun x3 M2 => ?_)
  exact g_iret hC rfl (by decide) dX9_answerDue_115
set_option maxRecDepth 20000 in
set_option maxHeartbeats 4000000 in
theorem g_X9_answerDue_b67 {p : Program} {l : Launch} {e : Env} {s : State} {m : MethodId} {args : Array Value} {below : List Frame} {meth : Method} {c : Code} {Z : gZ} (hC : gC p l s m args meth c cX9_answerDue 5 RX9 (some .int) Z)   (M : gM) (a1 : Int32) (a2 : Int32) (t0 : Int32) (t1 : Int32) : gW p l e rm_X9_answerDue s m args below meth c 5 Z 1 0 0 M 67 [(0, .ref (zad Z 9)), (1, .int a1), (2, .int a2)] [.int t1, .int t0] (f_X9_answerDue_b67  M a1 a2 t0 t1) := by
  unfold f_X9_answerDue_b67
  refine g_iadd hC dX9_answerDue_67 ?_
  refine g_aload_n hC 0 dX9_answerDue_68 rfl rfl ?_
  refine gf_X9_56 hC dX9_answerDue_69 ?_
  refine g_iload_n hC 1 dX9_answerDue_72 rfl rfl ?_
  refine g_iald hC 117 (by decide) rfl dX9_answerDue_73 ?_
  refine g_iload_n hC 2 dX9_answerDue_74 rfl rfl ?_
  refine g_icmp_ne (tgt := 87) hC dX9_answerDue_75 (by decide) (fun _ => ?_) (fun _ => ?_)
  · refine g_aload_n hC 0 dX9_answerDue_78 rfl rfl ?_
    refine gf_X9_53 hC dX9_answerDue_79 ?_
    refine g_iload_n hC 1 dX9_answerDue_82 rfl rfl ?_
    refine g_iald hC 116 (by decide) rfl dX9_answerDue_83 ?_
    refine g_goto (tgt := 88) hC dX9_answerDue_84 (by decide) ?_
    exact g_X9_answerDue_b88 hC  M a1 a2 (t0 + t1) (M 116 a1.toNatClampNeg)
  · refine g_iconst hC (v := 0) dX9_answerDue_87 (by decide) ?_
    exact g_X9_answerDue_b88 hC  M a1 a2 (t0 + t1) 0
set_option maxRecDepth 20000 in
set_option maxHeartbeats 4000000 in
theorem g_X9_answerDue_b40 {p : Program} {l : Launch} {e : Env} {s : State} {m : MethodId} {args : Array Value} {below : List Frame} {meth : Method} {c : Code} {Z : gZ} (hC : gC p l s m args meth c cX9_answerDue 5 RX9 (some .int) Z)   (M : gM) (a1 : Int32) (a2 : Int32) (t0 : Int32) : gW p l e rm_X9_answerDue s m args below meth c 5 Z 1 0 0 M 40 [(0, .ref (zad Z 9)), (1, .int a1), (2, .int a2)] [.int t0] (f_X9_answerDue_b40  M a1 a2 t0) := by
  unfold f_X9_answerDue_b40
  refine g_istore_n hC (lv1 := [(3, .int t0), (0, .ref (zad Z 9)), (1, .int a1), (2, .int a2)]) dX9_answerDue_40 rfl (by decide) rfl ?_
  refine g_aload_n hC 1 dX9_answerDue_41 rfl rfl ?_
  refine gf_X9_80 hC dX9_answerDue_42 ?_
  refine g_iload_n hC 3 dX9_answerDue_45 rfl rfl ?_
  refine g_iald hC 125 (by decide) rfl dX9_answerDue_46 ?_
  refine g_iload_n hC 0 dX9_answerDue_47 rfl rfl ?_
  refine g_iconst hC (v := 1) dX9_answerDue_48 (by decide) ?_
  refine g_icmp_ne (tgt := 56) hC dX9_answerDue_49 (by decide) (fun _ => ?_) (fun _ => ?_)
  · refine g_iconst hC (v := 3) dX9_answerDue_52 (by decide) ?_
    refine g_goto (tgt := 67) hC dX9_answerDue_53 (by decide) ?_
    refine g_sub (lv1 := [(0, .ref (zad Z 9)), (1, .int a1), (2, .int a2)]) [1, 2, 3] rfl ?_
    exact g_X9_answerDue_b67 hC  M a1 a2 (M 125 a2.toNatClampNeg) 3
  · refine g_iload_n hC 0 dX9_answerDue_56 rfl rfl ?_
    refine g_iconst hC (v := 2) dX9_answerDue_57 (by decide) ?_
    refine g_icmp_ne (tgt := 66) hC dX9_answerDue_58 (by decide) (fun _ => ?_) (fun _ => ?_)
    · refine g_bipush hC (v := 7) dX9_answerDue_61 (by decide) ?_
      refine g_goto (tgt := 67) hC dX9_answerDue_63 (by decide) ?_
      refine g_sub (lv1 := [(0, .ref (zad Z 9)), (1, .int a1), (2, .int a2)]) [1, 2, 3] rfl ?_
      exact g_X9_answerDue_b67 hC  M a1 a2 (M 125 a2.toNatClampNeg) 7
    · refine g_iconst hC (v := 0) dX9_answerDue_66 (by decide) ?_
      refine g_sub (lv1 := [(0, .ref (zad Z 9)), (1, .int a1), (2, .int a2)]) [1, 2, 3] rfl ?_
      exact g_X9_answerDue_b67 hC  M a1 a2 (M 125 a2.toNatClampNeg) 0
set_option maxRecDepth 20000 in
set_option maxHeartbeats 4000000 in
theorem c_X9_answerDue {l : Launch} (hfl : l.stackTraces = false) (Z : gZ) (M : gM) (a1 : Int32) : gMet l yX9_answerDue cX9_answerDue 5 (some .int) rm_X9_answerDue 1 0 Z M [.ref (zad Z 9), .int a1] (f_X9_answerDue M a1) := by
  refine g_enter hfl (by decide) (Nat.le_of_ble_eq_true rfl) (fun p e s m args below meth c hC => ?_)
  refine g_eq (F := f_X9_answerDue M a1) rfl ?_
  refine g_lv0 (lv1 := [(0, .ref (zad Z 9)), (1, .int a1)]) rfl ?_
  unfold f_X9_answerDue
  refine g_aload_n hC 0 dX9_answerDue_0 rfl rfl ?_
  refine g_iload_n hC 1 dX9_answerDue_1 rfl rfl ?_
  refine g_callVi (n := 1) hC [.int a1] 9 9 (by decide) rfl rfl (fun hne => c_X9_answerFrom hC.2.2.2.2.2.2.2.1 Z M a1 hne) lk_X9_224 mw_X9_answerFrom.1 mw_X9_answerFrom.2.1 mw_X9_answerFrom.2.2.1 mw_X9_answerFrom.2.2.2 ⟨rfl, by decide, by decide, by decide +kernel⟩ rfl rfl ⟨by decide, by decide⟩ rfl rfl (Nat.le_of_ble_eq_true rfl) (by decide) (by decide) (by decide) dX9_answerDue_2 (fun x5 M4 => ?_)
  refine g_istore_n hC (lv1 := [(2, .int x5), (0, .ref (zad Z 9)), (1, .int a1)]) dX9_answerDue_5 rfl (by decide) rfl ?_
  refine g_iload_n hC 0 dX9_answerDue_6 rfl rfl ?_
  refine g_iconst hC (v := (-1)) dX9_answerDue_7 (by decide) ?_
  refine g_icmp_eq (tgt := 19) hC dX9_answerDue_8 (by decide) (fun _ => ?_) (fun _ => ?_)
  · refine g_iconst hC (v := (-1)) dX9_answerDue_19 (by decide) ?_
    exact g_iret hC rfl (by decide) dX9_answerDue_20
  · refine g_aload_n hC 1 dX9_answerDue_11 rfl rfl ?_
    refine g_iload_n hC 2 dX9_answerDue_12 rfl rfl ?_
    refine g_callVi (n := 1) hC [.int a1] 9 9 (by decide) rfl rfl (fun hne => c_X9_hasOpenMotion hC.2.2.2.2.2.2.2.1 Z M4 a1 hne) lk_X9_227 mw_X9_hasOpenMotion.1 mw_X9_hasOpenMotion.2.1 mw_X9_hasOpenMotion.2.2.1 mw_X9_hasOpenMotion.2.2.2 ⟨rfl, by decide, by decide, by decide +kernel⟩ rfl rfl ⟨by decide, by decide⟩ rfl rfl (Nat.le_of_ble_eq_true rfl) (by decide) (by decide) (by decide) dX9_answerDue_13 (fun x7 M6 => ?_)
    refine g_if_eq (tgt := 21) hC dX9_answerDue_16 (by decide) (fun _ => ?_) (fun _ => ?_)
    · refine g_aload_n hC 1 dX9_answerDue_21 rfl rfl ?_
      refine gf_X9_65 hC dX9_answerDue_22 ?_
      refine g_iload_n hC 0 dX9_answerDue_25 rfl rfl ?_
      refine g_iald hC 120 (by decide) rfl dX9_answerDue_26 ?_
      refine g_if_ne (tgt := 39) hC dX9_answerDue_27 (by decide) (fun _ => ?_) (fun _ => ?_)
      · refine g_aload_n hC 1 dX9_answerDue_30 rfl rfl ?_
        refine gf_X9_74 hC dX9_answerDue_31 ?_
        refine g_iload_n hC 0 dX9_answerDue_34 rfl rfl ?_
        refine g_iald hC 123 (by decide) rfl dX9_answerDue_35 ?_
        refine g_goto (tgt := 40) hC dX9_answerDue_36 (by decide) ?_
        refine g_sub (lv1 := [(0, .ref (zad Z 9)), (1, .int a1), (2, .int x5)]) [1, 2, 0] rfl ?_
        exact g_X9_answerDue_b40 hC  M6 a1 x5 (M6 123 x5.toNatClampNeg)
      · refine g_iconst hC (v := 0) dX9_answerDue_39 (by decide) ?_
        refine g_sub (lv1 := [(0, .ref (zad Z 9)), (1, .int a1), (2, .int x5)]) [1, 2, 0] rfl ?_
        exact g_X9_answerDue_b40 hC  M6 a1 x5 0
    · refine g_iconst hC (v := (-1)) dX9_answerDue_19 (by decide) ?_
      exact g_iret hC rfl (by decide) dX9_answerDue_20

-- ===== X9_responseDue =====
def f_X9_responseDue (M : gM) (a1 : Int32) : gR := (gI a1 160 (gI a1 160 (gI a1 160 (gI a1 160 (gI a1 160 (gI (M 122 a1.toNatClampNeg) 24 (rb (f_X9_deadline M (M 121 a1.toNatClampNeg) ((M 125 a1.toNatClampNeg) + (M 131 a1.toNatClampNeg)) (M 126 a1.toNatClampNeg) (M 109 (M 122 a1.toNatClampNeg).toNatClampNeg)) (fun x2 M1 => (rRet x2 M1)))))))))
abbrev rm_X9_responseDue : Room := { frames := 3, cells := 0, slots := 0, locals := 72 }
set_option maxRecDepth 20000 in
set_option maxHeartbeats 4000000 in
theorem c_X9_responseDue {l : Launch} (hfl : l.stackTraces = false) (Z : gZ) (M : gM) (a1 : Int32) : gMet l yX9_responseDue cX9_responseDue 2 (some .int) rm_X9_responseDue 1 0 Z M [.ref (zad Z 9), .int a1] (f_X9_responseDue M a1) := by
  refine g_enter hfl (by decide) (Nat.le_of_ble_eq_true rfl) (fun p e s m args below meth c hC => ?_)
  refine g_eq (F := f_X9_responseDue M a1) rfl ?_
  refine g_lv0 (lv1 := [(0, .ref (zad Z 9)), (1, .int a1)]) rfl ?_
  unfold f_X9_responseDue
  refine g_aload_n hC 0 dX9_responseDue_0 rfl rfl ?_
  refine g_aload_n hC 0 dX9_responseDue_1 rfl rfl ?_
  refine gf_X9_68 hC dX9_responseDue_2 ?_
  refine g_iload_n hC 1 dX9_responseDue_5 rfl rfl ?_
  refine g_iald hC 121 (by decide) rfl dX9_responseDue_6 ?_
  refine g_aload_n hC 0 dX9_responseDue_7 rfl rfl ?_
  refine gf_X9_80 hC dX9_responseDue_8 ?_
  refine g_iload_n hC 1 dX9_responseDue_11 rfl rfl ?_
  refine g_iald hC 125 (by decide) rfl dX9_responseDue_12 ?_
  refine g_aload_n hC 0 dX9_responseDue_13 rfl rfl ?_
  refine gf_X9_98 hC dX9_responseDue_14 ?_
  refine g_iload_n hC 1 dX9_responseDue_17 rfl rfl ?_
  refine g_iald hC 131 (by decide) rfl dX9_responseDue_18 ?_
  refine g_iadd hC dX9_responseDue_19 ?_
  refine g_aload_n hC 0 dX9_responseDue_20 rfl rfl ?_
  refine gf_X9_83 hC dX9_responseDue_21 ?_
  refine g_iload_n hC 1 dX9_responseDue_24 rfl rfl ?_
  refine g_zald hC 126 (by decide) rfl dX9_responseDue_25 ?_
  refine g_aload_n hC 0 dX9_responseDue_26 rfl rfl ?_
  refine gf_X9_32 hC dX9_responseDue_27 ?_
  refine g_aload_n hC 0 dX9_responseDue_30 rfl rfl ?_
  refine gf_X9_71 hC dX9_responseDue_31 ?_
  refine g_iload_n hC 1 dX9_responseDue_34 rfl rfl ?_
  refine g_iald hC 122 (by decide) rfl dX9_responseDue_35 ?_
  refine g_iald hC 109 (by decide) rfl dX9_responseDue_36 ?_
  refine g_callVi (n := 4) hC [.int (M 121 a1.toNatClampNeg), .int ((M 125 a1.toNatClampNeg) + (M 131 a1.toNatClampNeg)), .int (M 126 a1.toNatClampNeg), .int (M 109 (M 122 a1.toNatClampNeg).toNatClampNeg)] 9 9 (by decide) rfl rfl (fun hne => c_X9_deadline hC.2.2.2.2.2.2.2.1 Z M (M 121 a1.toNatClampNeg) ((M 125 a1.toNatClampNeg) + (M 131 a1.toNatClampNeg)) (M 126 a1.toNatClampNeg) (M 109 (M 122 a1.toNatClampNeg).toNatClampNeg) hne) lk_X9_210 mw_X9_deadline.1 mw_X9_deadline.2.1 mw_X9_deadline.2.2.1 mw_X9_deadline.2.2.2 ⟨rfl, by decide, by decide, by decide +kernel⟩ rfl rfl ⟨by decide, by decide⟩ rfl rfl (Nat.le_of_ble_eq_true rfl) (by decide) (by decide) (by decide) dX9_responseDue_37 (fun x2 M1 => ?_)
  exact g_iret hC rfl (by decide) dX9_responseDue_40

-- ===== X9_appealFrom =====
def f_X9_appealFrom (M : gM) (a1 : Int32) : gR := (rb (f_X9_latest M a1 5) (fun x2 M1 => (rb (f_X9_latest M1 a1 8) (fun x4 M3 => (gI a1 24 (if (M3 112 a1.toNatClampNeg) = 2 then (if x2 ≤ x4 then (rRet x4 M3) else (rRet x2 M3)) else (rRet (-1) M3)))))))
abbrev rm_X9_appealFrom : Room := { frames := 1, cells := 0, slots := 0, locals := 24 }
set_option maxRecDepth 20000 in
set_option maxHeartbeats 4000000 in
theorem c_X9_appealFrom {l : Launch} (hfl : l.stackTraces = false) (Z : gZ) (M : gM) (a1 : Int32) : gMet l yX9_appealFrom cX9_appealFrom 4 (some .int) rm_X9_appealFrom 1 0 Z M [.ref (zad Z 9), .int a1] (f_X9_appealFrom M a1) := by
  refine g_enter hfl (by decide) (Nat.le_of_ble_eq_true rfl) (fun p e s m args below meth c hC => ?_)
  refine g_eq (F := f_X9_appealFrom M a1) rfl ?_
  refine g_lv0 (lv1 := [(0, .ref (zad Z 9)), (1, .int a1)]) rfl ?_
  unfold f_X9_appealFrom
  refine g_aload_n hC 0 dX9_appealFrom_0 rfl rfl ?_
  refine g_iload_n hC 1 dX9_appealFrom_1 rfl rfl ?_
  refine g_iconst hC (v := 5) dX9_appealFrom_2 (by decide) ?_
  refine g_callVi (n := 2) hC [.int a1, .int 5] 9 9 (by decide) rfl rfl (fun hne => c_X9_latest hC.2.2.2.2.2.2.2.1 Z M a1 5 hne) lk_X9_220 mw_X9_latest.1 mw_X9_latest.2.1 mw_X9_latest.2.2.1 mw_X9_latest.2.2.2 ⟨rfl, by decide, by decide, by decide +kernel⟩ rfl rfl ⟨by decide, by decide⟩ rfl rfl (Nat.le_of_ble_eq_true rfl) (by decide) (by decide) (by decide) dX9_appealFrom_3 (fun x2 M1 => ?_)
  refine g_istore_n hC (lv1 := [(2, .int x2), (0, .ref (zad Z 9)), (1, .int a1)]) dX9_appealFrom_6 rfl (by decide) rfl ?_
  refine g_aload_n hC 1 dX9_appealFrom_7 rfl rfl ?_
  refine g_iload_n hC 2 dX9_appealFrom_8 rfl rfl ?_
  refine g_bipush hC (v := 8) dX9_appealFrom_9 (by decide) ?_
  refine g_callVi (n := 2) hC [.int a1, .int 8] 9 9 (by decide) rfl rfl (fun hne => c_X9_latest hC.2.2.2.2.2.2.2.1 Z M1 a1 8 hne) lk_X9_220 mw_X9_latest.1 mw_X9_latest.2.1 mw_X9_latest.2.2.1 mw_X9_latest.2.2.2 ⟨rfl, by decide, by decide, by decide +kernel⟩ rfl rfl ⟨by decide, by decide⟩ rfl rfl (Nat.le_of_ble_eq_true rfl) (by decide) (by decide) (by decide) dX9_appealFrom_11 (fun x4 M3 => ?_)
  refine g_istore_n hC (lv1 := [(3, .int x4), (2, .int x2), (0, .ref (zad Z 9)), (1, .int a1)]) dX9_appealFrom_14 rfl (by decide) rfl ?_
  refine g_aload_n hC 2 dX9_appealFrom_15 rfl rfl ?_
  refine gf_X9_41 hC dX9_appealFrom_16 ?_
  refine g_iload_n hC 3 dX9_appealFrom_19 rfl rfl ?_
  refine g_iald hC 112 (by decide) rfl dX9_appealFrom_20 ?_
  refine g_iconst hC (v := 2) dX9_appealFrom_21 (by decide) ?_
  refine g_icmp_eq (tgt := 29) hC dX9_appealFrom_22 (by decide) (fun _ => ?_) (fun _ => ?_)
  · refine g_iload_n hC 1 dX9_appealFrom_29 rfl rfl ?_
    refine g_iload_n hC 0 dX9_appealFrom_30 rfl rfl ?_
    refine g_icmp_le (tgt := 38) hC dX9_appealFrom_31 (by decide) (fun _ => ?_) (fun _ => ?_)
    · refine g_iload_n hC 0 dX9_appealFrom_38 rfl rfl ?_
      exact g_iret hC rfl (by decide) dX9_appealFrom_39
    · refine g_iload_n hC 1 dX9_appealFrom_34 rfl rfl ?_
      refine g_goto (tgt := 39) hC dX9_appealFrom_35 (by decide) ?_
      exact g_iret hC rfl (by decide) dX9_appealFrom_39
  · refine g_iconst hC (v := (-1)) dX9_appealFrom_25 (by decide) ?_
    refine g_goto (tgt := 39) hC dX9_appealFrom_26 (by decide) ?_
    exact g_iret hC rfl (by decide) dX9_appealFrom_39

-- ===== X9_appealDue =====
def f_X9_appealDue_b39  (M : gM) (a1 : Int32) (a2 : Int32) (t0 : Int32) (t1 : Int32) : gR := (bV (t0 + t1) (fun x1 => (gI a2 160 (gI a2 160 (gI a1 24 (rb (f_X9_deadline M (M 121 a2.toNatClampNeg) x1 (M 126 a2.toNatClampNeg) (M 109 a1.toNatClampNeg)) (fun x3 M2 => (rRet x3 M2))))))))
def f_X9_appealDue (M : gM) (a1 : Int32) : gR := (rb (f_X9_appealFrom M a1) (fun x5 M4 => (if x5 = (-1) then (rRet (-1) M4) else (gI x5 160 (gI a1 24 (if (M4 119 a1.toNatClampNeg) = x5 then (gI a1 24 (f_X9_appealDue_b39  M4 a1 x5 (M4 125 x5.toNatClampNeg) (M4 118 a1.toNatClampNeg))) else (f_X9_appealDue_b39  M4 a1 x5 (M4 125 x5.toNatClampNeg) 0)))))))
abbrev rm_X9_appealDue : Room := { frames := 3, cells := 0, slots := 0, locals := 72 }
set_option maxRecDepth 20000 in
set_option maxHeartbeats 4000000 in
theorem g_X9_appealDue_b39 {p : Program} {l : Launch} {e : Env} {s : State} {m : MethodId} {args : Array Value} {below : List Frame} {meth : Method} {c : Code} {Z : gZ} (hC : gC p l s m args meth c cX9_appealDue 4 RX9 (some .int) Z)   (M : gM) (a1 : Int32) (a2 : Int32) (t0 : Int32) (t1 : Int32) : gW p l e rm_X9_appealDue s m args below meth c 4 Z 1 0 0 M 39 [(0, .ref (zad Z 9)), (1, .int a1), (2, .int a2)] [.int t1, .int t0] (f_X9_appealDue_b39  M a1 a2 t0 t1) := by
  unfold f_X9_appealDue_b39
  refine g_iadd hC dX9_appealDue_39 ?_
  refine g_bv (fun x1 => ?_)
  refine g_istore_n hC (lv1 := [(3, .int x1), (0, .ref (zad Z 9)), (1, .int a1), (2, .int a2)]) dX9_appealDue_40 rfl (by decide) rfl ?_
  refine g_aload_n hC 1 dX9_appealDue_41 rfl rfl ?_
  refine g_aload_n hC 1 dX9_appealDue_42 rfl rfl ?_
  refine gf_X9_68 hC dX9_appealDue_43 ?_
  refine g_iload_n hC 3 dX9_appealDue_46 rfl rfl ?_
  refine g_iald hC 121 (by decide) rfl dX9_appealDue_47 ?_
  refine g_iload_n hC 0 dX9_appealDue_48 rfl rfl ?_
  refine g_aload_n hC 1 dX9_appealDue_49 rfl rfl ?_
  refine gf_X9_83 hC dX9_appealDue_50 ?_
  refine g_iload_n hC 3 dX9_appealDue_53 rfl rfl ?_
  refine g_zald hC 126 (by decide) rfl dX9_appealDue_54 ?_
  refine g_aload_n hC 1 dX9_appealDue_55 rfl rfl ?_
  refine gf_X9_32 hC dX9_appealDue_56 ?_
  refine g_iload_n hC 2 dX9_appealDue_59 rfl rfl ?_
  refine g_iald hC 109 (by decide) rfl dX9_appealDue_60 ?_
  refine g_callVi (n := 4) hC [.int (M 121 a2.toNatClampNeg), .int x1, .int (M 126 a2.toNatClampNeg), .int (M 109 a1.toNatClampNeg)] 9 9 (by decide) rfl rfl (fun hne => c_X9_deadline hC.2.2.2.2.2.2.2.1 Z M (M 121 a2.toNatClampNeg) x1 (M 126 a2.toNatClampNeg) (M 109 a1.toNatClampNeg) hne) lk_X9_210 mw_X9_deadline.1 mw_X9_deadline.2.1 mw_X9_deadline.2.2.1 mw_X9_deadline.2.2.2 ⟨rfl, by decide, by decide, by decide +kernel⟩ rfl rfl ⟨by decide, by decide⟩ rfl rfl (Nat.le_of_ble_eq_true rfl) (by decide) (by decide) (by decide) dX9_appealDue_61 (fun x3 M2 => ?_)
  exact g_iret hC rfl (by decide) dX9_appealDue_64
set_option maxRecDepth 20000 in
set_option maxHeartbeats 4000000 in
theorem c_X9_appealDue {l : Launch} (hfl : l.stackTraces = false) (Z : gZ) (M : gM) (a1 : Int32) : gMet l yX9_appealDue cX9_appealDue 4 (some .int) rm_X9_appealDue 1 0 Z M [.ref (zad Z 9), .int a1] (f_X9_appealDue M a1) := by
  refine g_enter hfl (by decide) (Nat.le_of_ble_eq_true rfl) (fun p e s m args below meth c hC => ?_)
  refine g_eq (F := f_X9_appealDue M a1) rfl ?_
  refine g_lv0 (lv1 := [(0, .ref (zad Z 9)), (1, .int a1)]) rfl ?_
  unfold f_X9_appealDue
  refine g_aload_n hC 0 dX9_appealDue_0 rfl rfl ?_
  refine g_iload_n hC 1 dX9_appealDue_1 rfl rfl ?_
  refine g_callVi (n := 1) hC [.int a1] 9 9 (by decide) rfl rfl (fun hne => c_X9_appealFrom hC.2.2.2.2.2.2.2.1 Z M a1 hne) lk_X9_230 mw_X9_appealFrom.1 mw_X9_appealFrom.2.1 mw_X9_appealFrom.2.2.1 mw_X9_appealFrom.2.2.2 ⟨rfl, by decide, by decide, by decide +kernel⟩ rfl rfl ⟨by decide, by decide⟩ rfl rfl (Nat.le_of_ble_eq_true rfl) (by decide) (by decide) (by decide) dX9_appealDue_2 (fun x5 M4 => ?_)
  refine g_istore_n hC (lv1 := [(2, .int x5), (0, .ref (zad Z 9)), (1, .int a1)]) dX9_appealDue_5 rfl (by decide) rfl ?_
  refine g_iload_n hC 0 dX9_appealDue_6 rfl rfl ?_
  refine g_iconst hC (v := (-1)) dX9_appealDue_7 (by decide) ?_
  refine g_icmp_ne (tgt := 13) hC dX9_appealDue_8 (by decide) (fun _ => ?_) (fun _ => ?_)
  · refine g_iconst hC (v := (-1)) dX9_appealDue_11 (by decide) ?_
    exact g_iret hC rfl (by decide) dX9_appealDue_12
  · refine g_aload_n hC 1 dX9_appealDue_13 rfl rfl ?_
    refine gf_X9_80 hC dX9_appealDue_14 ?_
    refine g_iload_n hC 0 dX9_appealDue_17 rfl rfl ?_
    refine g_iald hC 125 (by decide) rfl dX9_appealDue_18 ?_
    refine g_aload_n hC 1 dX9_appealDue_19 rfl rfl ?_
    refine gf_X9_62 hC dX9_appealDue_20 ?_
    refine g_iload_n hC 2 dX9_appealDue_23 rfl rfl ?_
    refine g_iald hC 119 (by decide) rfl dX9_appealDue_24 ?_
    refine g_iload_n hC 0 dX9_appealDue_25 rfl rfl ?_
    refine g_icmp_ne (tgt := 38) hC dX9_appealDue_26 (by decide) (fun _ => ?_) (fun _ => ?_)
    · refine g_aload_n hC 1 dX9_appealDue_29 rfl rfl ?_
      refine gf_X9_59 hC dX9_appealDue_30 ?_
      refine g_iload_n hC 2 dX9_appealDue_33 rfl rfl ?_
      refine g_iald hC 118 (by decide) rfl dX9_appealDue_34 ?_
      refine g_goto (tgt := 39) hC dX9_appealDue_35 (by decide) ?_
      refine g_sub (lv1 := [(0, .ref (zad Z 9)), (1, .int a1), (2, .int x5)]) [1, 2, 0] rfl ?_
      exact g_X9_appealDue_b39 hC  M4 a1 x5 (M4 125 x5.toNatClampNeg) (M4 118 a1.toNatClampNeg)
    · refine g_iconst hC (v := 0) dX9_appealDue_38 (by decide) ?_
      refine g_sub (lv1 := [(0, .ref (zad Z 9)), (1, .int a1), (2, .int x5)]) [1, 2, 0] rfl ?_
      exact g_X9_appealDue_b39 hC  M4 a1 x5 (M4 125 x5.toNatClampNeg) 0

-- ===== X9_enter =====
def f_X9_enter_b172  (M : gM)   : gR := (bM (gset M 9 23 ((M 9 23) + 1)) (fun M1 => (rRet ((M1 9 23) - 1) M1)))
def f_X9_enter_b87  (M : gM) (a1 : Int32) (a2 : Int32) (t0 : Int32) : gR := (gI t0 5 (gI (M 9 23) 160 (bM (gset M 125 (M 9 23).toNatClampNeg (M 103 t0.toNatClampNeg)) (fun M2 => (gI t0 5 (gZ01 (M2 104 t0.toNatClampNeg) (gI (M2 9 23) 160 (bM (gset M2 126 (M2 9 23).toNatClampNeg (M2 104 t0.toNatClampNeg)) (fun M3 => (if 11 ≤ a1 then (f_X9_enter_b172  M3  ) else (gI a2 24 (gI (M3 9 23) 160 (bM (gset M3 127 (M3 9 23).toNatClampNeg (M3 112 a2.toNatClampNeg)) (fun M4 => (gI a2 24 (gI (M4 9 23) 160 (bM (gset M4 128 (M4 9 23).toNatClampNeg (M4 113 a2.toNatClampNeg)) (fun M5 => (gI a2 24 (gI (M5 9 23) 160 (bM (gset M5 129 (M5 9 23).toNatClampNeg (M5 114 a2.toNatClampNeg)) (fun M6 => (f_X9_enter_b172  M6  )))))))))))))))))))))))
def f_X9_enter_b82  (M : gM) (a1 : Int32) (a2 : Int32)  : gR := (f_X9_enter_b87  M a1 a2 2)
def f_X9_enter (M : gM) (a1 : Int32) (a2 : Int32) (a3 : Int32) (a4 : Int32) : gR := (gI (M 9 23) 160 (bM (gset M 120 (M 9 23).toNatClampNeg a1) (fun M7 => (gI (M7 9 23) 160 (bM (gset M7 121 (M7 9 23).toNatClampNeg (M7 9 1)) (fun M8 => (gI (M8 9 23) 160 (bM (gset M8 122 (M8 9 23).toNatClampNeg a2) (fun M9 => (gI (M9 9 23) 160 (bM (gset M9 123 (M9 9 23).toNatClampNeg a3) (fun M10 => (gI (M10 9 23) 160 (bM (gset M10 124 (M10 9 23).toNatClampNeg a4) (fun M11 => (if a1 = 0 then (f_X9_enter_b87  M11 a1 a2 0) else (if a1 = 2 then (f_X9_enter_b87  M11 a1 a2 1) else (if a1 = 5 then (f_X9_enter_b82  M11 a1 a2 ) else (if a1 = 8 then (f_X9_enter_b82  M11 a1 a2 ) else (f_X9_enter_b87  M11 a1 a2 3))))))))))))))))))))
abbrev rm_X9_enter : Room := { frames := 0, cells := 0, slots := 0, locals := 0 }
set_option maxRecDepth 20000 in
set_option maxHeartbeats 4000000 in
theorem g_X9_enter_b172 {p : Program} {l : Launch} {e : Env} {s : State} {m : MethodId} {args : Array Value} {below : List Frame} {meth : Method} {c : Code} {Z : gZ} (hC : gC p l s m args meth c cX9_enter 6 RX9 (some .int) Z)   (M : gM)   : gW p l e rm_X9_enter s m args below meth c 6 Z 1 0 0 M 172 [(0, .ref (zad Z 9))] [] (f_X9_enter_b172  M  ) := by
  unfold f_X9_enter_b172
  refine g_aload_n hC 0 dX9_enter_172 rfl rfl ?_
  refine g_dup hC dX9_enter_173 rfl ?_
  refine gf_X9_171 hC dX9_enter_174 ?_
  refine g_iconst hC (v := 1) dX9_enter_177 (by decide) ?_
  refine g_iadd hC dX9_enter_178 ?_
  refine gp_X9_171 hC dX9_enter_179 (fun M1 => ?_)
  refine g_aload_n hC 0 dX9_enter_182 rfl rfl ?_
  refine gf_X9_171 hC dX9_enter_183 ?_
  refine g_iconst hC (v := 1) dX9_enter_186 (by decide) ?_
  refine g_isub hC dX9_enter_187 ?_
  exact g_iret hC rfl (by decide) dX9_enter_188
set_option maxRecDepth 20000 in
set_option maxHeartbeats 4000000 in
theorem g_X9_enter_b87 {p : Program} {l : Launch} {e : Env} {s : State} {m : MethodId} {args : Array Value} {below : List Frame} {meth : Method} {c : Code} {Z : gZ} (hC : gC p l s m args meth c cX9_enter 6 RX9 (some .int) Z)   (M : gM) (a1 : Int32) (a2 : Int32) (t0 : Int32) : gW p l e rm_X9_enter s m args below meth c 6 Z 1 0 0 M 87 [(0, .ref (zad Z 9)), (1, .int a1), (2, .int a2)] [.int t0] (f_X9_enter_b87  M a1 a2 t0) := by
  unfold f_X9_enter_b87
  refine g_istore hC (lv1 := [(5, .int t0), (0, .ref (zad Z 9)), (1, .int a1), (2, .int a2)]) dX9_enter_87 (by decide) rfl ?_
  refine g_aload_n hC 1 dX9_enter_89 rfl rfl ?_
  refine gf_X9_80 hC dX9_enter_90 ?_
  refine g_aload_n hC 1 dX9_enter_93 rfl rfl ?_
  refine gf_X9_171 hC dX9_enter_94 ?_
  refine g_aload_n hC 1 dX9_enter_97 rfl rfl ?_
  refine gf_X9_13 hC dX9_enter_98 ?_
  refine g_iload hC 0 dX9_enter_101 rfl ?_
  refine g_iald hC 103 (by decide) rfl dX9_enter_103 ?_
  refine g_iast hC 125 (by decide) rfl dX9_enter_104 (fun M2 => ?_)
  refine g_aload_n hC 1 dX9_enter_105 rfl rfl ?_
  refine gf_X9_83 hC dX9_enter_106 ?_
  refine g_aload_n hC 1 dX9_enter_109 rfl rfl ?_
  refine gf_X9_171 hC dX9_enter_110 ?_
  refine g_aload_n hC 1 dX9_enter_113 rfl rfl ?_
  refine gf_X9_17 hC dX9_enter_114 ?_
  refine g_iload hC 0 dX9_enter_117 rfl ?_
  refine g_zald hC 104 (by decide) rfl dX9_enter_119 ?_
  refine g_zast hC 126 (by decide) rfl dX9_enter_120 (fun M3 => ?_)
  refine g_iload_n hC 2 dX9_enter_121 rfl rfl ?_
  refine g_bipush hC (v := 11) dX9_enter_122 (by decide) ?_
  refine g_icmp_ge (tgt := 172) hC dX9_enter_124 (by decide) (fun _ => ?_) (fun _ => ?_)
  · refine g_sub (lv1 := [(0, .ref (zad Z 9))]) [1] rfl ?_
    exact g_X9_enter_b172 hC  M3  
  · refine g_aload_n hC 1 dX9_enter_127 rfl rfl ?_
    refine gf_X9_86 hC dX9_enter_128 ?_
    refine g_aload_n hC 1 dX9_enter_131 rfl rfl ?_
    refine gf_X9_171 hC dX9_enter_132 ?_
    refine g_aload_n hC 1 dX9_enter_135 rfl rfl ?_
    refine gf_X9_41 hC dX9_enter_136 ?_
    refine g_iload_n hC 3 dX9_enter_139 rfl rfl ?_
    refine g_iald hC 112 (by decide) rfl dX9_enter_140 ?_
    refine g_iast hC 127 (by decide) rfl dX9_enter_141 (fun M4 => ?_)
    refine g_aload_n hC 1 dX9_enter_142 rfl rfl ?_
    refine gf_X9_89 hC dX9_enter_143 ?_
    refine g_aload_n hC 1 dX9_enter_146 rfl rfl ?_
    refine gf_X9_171 hC dX9_enter_147 ?_
    refine g_aload_n hC 1 dX9_enter_150 rfl rfl ?_
    refine gf_X9_44 hC dX9_enter_151 ?_
    refine g_iload_n hC 3 dX9_enter_154 rfl rfl ?_
    refine g_iald hC 113 (by decide) rfl dX9_enter_155 ?_
    refine g_iast hC 128 (by decide) rfl dX9_enter_156 (fun M5 => ?_)
    refine g_aload_n hC 1 dX9_enter_157 rfl rfl ?_
    refine gf_X9_92 hC dX9_enter_158 ?_
    refine g_aload_n hC 1 dX9_enter_161 rfl rfl ?_
    refine gf_X9_171 hC dX9_enter_162 ?_
    refine g_aload_n hC 1 dX9_enter_165 rfl rfl ?_
    refine gf_X9_47 hC dX9_enter_166 ?_
    refine g_iload_n hC 3 dX9_enter_169 rfl rfl ?_
    refine g_iald hC 114 (by decide) rfl dX9_enter_170 ?_
    refine g_iast hC 129 (by decide) rfl dX9_enter_171 (fun M6 => ?_)
    refine g_sub (lv1 := [(0, .ref (zad Z 9))]) [1] rfl ?_
    exact g_X9_enter_b172 hC  M6  
set_option maxRecDepth 20000 in
set_option maxHeartbeats 4000000 in
theorem g_X9_enter_b82 {p : Program} {l : Launch} {e : Env} {s : State} {m : MethodId} {args : Array Value} {below : List Frame} {meth : Method} {c : Code} {Z : gZ} (hC : gC p l s m args meth c cX9_enter 6 RX9 (some .int) Z)   (M : gM) (a1 : Int32) (a2 : Int32)  : gW p l e rm_X9_enter s m args below meth c 6 Z 1 0 0 M 82 [(0, .ref (zad Z 9)), (1, .int a1), (2, .int a2)] [] (f_X9_enter_b82  M a1 a2 ) := by
  unfold f_X9_enter_b82
  refine g_iconst hC (v := 2) dX9_enter_82 (by decide) ?_
  refine g_goto (tgt := 87) hC dX9_enter_83 (by decide) ?_
  exact g_X9_enter_b87 hC  M a1 a2 2
set_option maxRecDepth 20000 in
set_option maxHeartbeats 4000000 in
theorem c_X9_enter {l : Launch} (hfl : l.stackTraces = false) (Z : gZ) (M : gM) (a1 : Int32) (a2 : Int32) (a3 : Int32) (a4 : Int32) : gMet l yX9_enter cX9_enter 6 (some .int) rm_X9_enter 1 0 Z M [.ref (zad Z 9), .int a1, .int a2, .int a3, .int a4] (f_X9_enter M a1 a2 a3 a4) := by
  refine g_enter hfl (by decide) (Nat.le_of_ble_eq_true rfl) (fun p e s m args below meth c hC => ?_)
  refine g_eq (F := f_X9_enter M a1 a2 a3 a4) rfl ?_
  refine g_lv0 (lv1 := [(0, .ref (zad Z 9)), (1, .int a1), (2, .int a2), (3, .int a3), (4, .int a4)]) rfl ?_
  unfold f_X9_enter
  refine g_aload_n hC 0 dX9_enter_0 rfl rfl ?_
  refine gf_X9_65 hC dX9_enter_1 ?_
  refine g_aload_n hC 0 dX9_enter_4 rfl rfl ?_
  refine gf_X9_171 hC dX9_enter_5 ?_
  refine g_iload_n hC 1 dX9_enter_8 rfl rfl ?_
  refine g_iast hC 120 (by decide) rfl dX9_enter_9 (fun M7 => ?_)
  refine g_aload_n hC 0 dX9_enter_10 rfl rfl ?_
  refine gf_X9_68 hC dX9_enter_11 ?_
  refine g_aload_n hC 0 dX9_enter_14 rfl rfl ?_
  refine gf_X9_171 hC dX9_enter_15 ?_
  refine g_aload_n hC 0 dX9_enter_18 rfl rfl ?_
  refine gf_X9_152 hC dX9_enter_19 ?_
  refine g_iast hC 121 (by decide) rfl dX9_enter_22 (fun M8 => ?_)
  refine g_aload_n hC 0 dX9_enter_23 rfl rfl ?_
  refine gf_X9_71 hC dX9_enter_24 ?_
  refine g_aload_n hC 0 dX9_enter_27 rfl rfl ?_
  refine gf_X9_171 hC dX9_enter_28 ?_
  refine g_iload_n hC 2 dX9_enter_31 rfl rfl ?_
  refine g_iast hC 122 (by decide) rfl dX9_enter_32 (fun M9 => ?_)
  refine g_aload_n hC 0 dX9_enter_33 rfl rfl ?_
  refine gf_X9_74 hC dX9_enter_34 ?_
  refine g_aload_n hC 0 dX9_enter_37 rfl rfl ?_
  refine gf_X9_171 hC dX9_enter_38 ?_
  refine g_iload_n hC 3 dX9_enter_41 rfl rfl ?_
  refine g_iast hC 123 (by decide) rfl dX9_enter_42 (fun M10 => ?_)
  refine g_aload_n hC 0 dX9_enter_43 rfl rfl ?_
  refine gf_X9_77 hC dX9_enter_44 ?_
  refine g_aload_n hC 0 dX9_enter_47 rfl rfl ?_
  refine gf_X9_171 hC dX9_enter_48 ?_
  refine g_iload hC 4 dX9_enter_51 rfl ?_
  refine g_iast hC 124 (by decide) rfl dX9_enter_53 (fun M11 => ?_)
  refine g_iload_n hC 1 dX9_enter_54 rfl rfl ?_
  refine g_if_ne (tgt := 62) hC dX9_enter_55 (by decide) (fun _ => ?_) (fun _ => ?_)
  · refine g_iconst hC (v := 0) dX9_enter_58 (by decide) ?_
    refine g_goto (tgt := 87) hC dX9_enter_59 (by decide) ?_
    refine g_sub (lv1 := [(0, .ref (zad Z 9)), (1, .int a1), (2, .int a2)]) [0, 1, 2] rfl ?_
    exact g_X9_enter_b87 hC  M11 a1 a2 0
  · refine g_iload_n hC 1 dX9_enter_62 rfl rfl ?_
    refine g_iconst hC (v := 2) dX9_enter_63 (by decide) ?_
    refine g_icmp_ne (tgt := 71) hC dX9_enter_64 (by decide) (fun _ => ?_) (fun _ => ?_)
    · refine g_iconst hC (v := 1) dX9_enter_67 (by decide) ?_
      refine g_goto (tgt := 87) hC dX9_enter_68 (by decide) ?_
      refine g_sub (lv1 := [(0, .ref (zad Z 9)), (1, .int a1), (2, .int a2)]) [0, 1, 2] rfl ?_
      exact g_X9_enter_b87 hC  M11 a1 a2 1
    · refine g_iload_n hC 1 dX9_enter_71 rfl rfl ?_
      refine g_iconst hC (v := 5) dX9_enter_72 (by decide) ?_
      refine g_icmp_eq (tgt := 82) hC dX9_enter_73 (by decide) (fun _ => ?_) (fun _ => ?_)
      · refine g_sub (lv1 := [(0, .ref (zad Z 9)), (1, .int a1), (2, .int a2)]) [0, 1, 2] rfl ?_
        exact g_X9_enter_b82 hC  M11 a1 a2 
      · refine g_iload_n hC 1 dX9_enter_76 rfl rfl ?_
        refine g_bipush hC (v := 8) dX9_enter_77 (by decide) ?_
        refine g_icmp_ne (tgt := 86) hC dX9_enter_79 (by decide) (fun _ => ?_) (fun _ => ?_)
        · refine g_sub (lv1 := [(0, .ref (zad Z 9)), (1, .int a1), (2, .int a2)]) [0, 1, 2] rfl ?_
          exact g_X9_enter_b82 hC  M11 a1 a2 
        · refine g_iconst hC (v := 3) dX9_enter_86 (by decide) ?_
          refine g_sub (lv1 := [(0, .ref (zad Z 9)), (1, .int a1), (2, .int a2)]) [0, 1, 2] rfl ?_
          exact g_X9_enter_b87 hC  M11 a1 a2 3

-- ===== X9_hasRoom =====
def f_X9_hasRoom (M : gM)  : gR := (if 160 ≤ (M 9 23) then (rRet 0 M) else (rRet 1 M))
abbrev rm_X9_hasRoom : Room := { frames := 0, cells := 0, slots := 0, locals := 0 }
set_option maxRecDepth 20000 in
set_option maxHeartbeats 4000000 in
theorem c_X9_hasRoom {l : Launch} (hfl : l.stackTraces = false) (Z : gZ) (M : gM)  : gMet l yX9_hasRoom cX9_hasRoom 1 (some .boolean) rm_X9_hasRoom 1 0 Z M [.ref (zad Z 9)] (f_X9_hasRoom M ) := by
  refine g_enter hfl (by decide) (Nat.le_of_ble_eq_true rfl) (fun p e s m args below meth c hC => ?_)
  refine g_eq (F := f_X9_hasRoom M ) rfl ?_
  refine g_lv0 (lv1 := [(0, .ref (zad Z 9))]) rfl ?_
  unfold f_X9_hasRoom
  refine g_aload_n hC 0 dX9_hasRoom_0 rfl rfl ?_
  refine gf_X9_171 hC dX9_hasRoom_1 ?_
  refine g_sipush hC (v := 160) dX9_hasRoom_4 (by decide) ?_
  refine g_icmp_ge (tgt := 14) hC dX9_hasRoom_7 (by decide) (fun _ => ?_) (fun _ => ?_)
  · refine g_iconst hC (v := 0) dX9_hasRoom_14 (by decide) ?_
    exact g_zret0 hC rfl (by decide) dX9_hasRoom_15
  · refine g_iconst hC (v := 1) dX9_hasRoom_10 (by decide) ?_
    refine g_goto (tgt := 15) hC dX9_hasRoom_11 (by decide) ?_
    exact g_zret1 hC rfl (by decide) dX9_hasRoom_15

-- ===== X9_serve =====
def f_X9_serve_b79  (M : gM) (a1 : Int32) (a2 : Int32) (t1 : Int32) : gR := (rb (f_X9_refused M t1) (fun x2 M1 => (if x2 = 0 then (rb (f_X9_enter M1 0 a1 a2 0) (fun x4 M3 => (rRet x4 M3))) else (rRet 0 M1))))
def f_X9_serve_b58  (M : gM) (a1 : Int32) (a2 : Int32) (a3 : Int32) (t0 : Int32) : gR := (if a3 = 0 then (f_X9_serve_b79  M a1 a2 1) else (if t0 = 0 then (f_X9_serve_b79  M a1 a2 2) else (f_X9_serve_b79  M a1 a2 0)))
def f_X9_serve_b57  (M : gM) (a1 : Int32) (a2 : Int32) (a3 : Int32)  : gR := (f_X9_serve_b58  M a1 a2 a3 0)
def f_X9_serve_b22  (M : gM) (a1 : Int32) (a2 : Int32) (t0 : Int32) : gR := (if t0 = 0 then (f_X9_serve_b57  M a1 a2 t0 ) else (rb (f_X9_hasRoom M ) (fun x6 M5 => (if x6 = 0 then (f_X9_serve_b57  M5 a1 a2 t0 ) else (gI a1 24 (if (M5 112 a1.toNatClampNeg) = 0 then (rb (f_X9_latest M5 a1 0) (fun x8 M7 => (if x8 = (-1) then (f_X9_serve_b58  M7 a1 a2 t0 1) else (f_X9_serve_b57  M7 a1 a2 t0 )))) else (f_X9_serve_b57  M5 a1 a2 t0 )))))))
def f_X9_serve_b21  (M : gM) (a1 : Int32) (a2 : Int32)  : gR := (f_X9_serve_b22  M a1 a2 0)
def f_X9_serve (M : gM) (a1 : Int32) (a2 : Int32) : gR := (rb (f_X9_isClaim M a1) (fun x10 M9 => (if x10 = 0 then (f_X9_serve_b21  M9 a1 a2 ) else (rb (f_X9_within M9 a2 0 2) (fun x12 M11 => (if x12 = 0 then (f_X9_serve_b21  M11 a1 a2 ) else (f_X9_serve_b22  M11 a1 a2 1)))))))
abbrev rm_X9_serve : Room := { frames := 2, cells := 0, slots := 0, locals := 43 }
set_option maxRecDepth 20000 in
set_option maxHeartbeats 4000000 in
theorem g_X9_serve_b79 {p : Program} {l : Launch} {e : Env} {s : State} {m : MethodId} {args : Array Value} {below : List Frame} {meth : Method} {c : Code} {Z : gZ} (hC : gC p l s m args meth c cX9_serve 5 RX9 (some .int) Z)   (M : gM) (a1 : Int32) (a2 : Int32) (t1 : Int32) : gW p l e rm_X9_serve s m args below meth c 5 Z 1 0 0 M 79 [(0, .ref (zad Z 9)), (1, .int a1), (2, .int a2)] [.int t1, .ref (zad Z 9)] (f_X9_serve_b79  M a1 a2 t1) := by
  unfold f_X9_serve_b79
  refine g_callVi (n := 1) hC [.int t1] 9 9 (by decide) rfl rfl (fun hne => c_X9_refused hC.2.2.2.2.2.2.2.1 Z M t1 hne) lk_X9_155 mw_X9_refused.1 mw_X9_refused.2.1 mw_X9_refused.2.2.1 mw_X9_refused.2.2.2 ⟨rfl, by decide, by decide, by decide +kernel⟩ rfl rfl ⟨by decide, by decide⟩ rfl rfl (Nat.le_of_ble_eq_true rfl) (by decide) (by decide) (by decide) dX9_serve_79 (fun x2 M1 => ?_)
  refine g_if_eq (tgt := 89) hC dX9_serve_82 (by decide) (fun _ => ?_) (fun _ => ?_)
  · refine g_aload_n hC 0 dX9_serve_89 rfl rfl ?_
    refine g_iconst hC (v := 0) dX9_serve_90 (by decide) ?_
    refine g_iload_n hC 1 dX9_serve_91 rfl rfl ?_
    refine g_iload_n hC 2 dX9_serve_92 rfl rfl ?_
    refine g_iconst hC (v := 0) dX9_serve_93 (by decide) ?_
    refine g_callVi (n := 4) hC [.int 0, .int a1, .int a2, .int 0] 9 9 (by decide) rfl rfl (fun hne => c_X9_enter hC.2.2.2.2.2.2.2.1 Z M1 0 a1 a2 0 hne) lk_X9_237 mw_X9_enter.1 mw_X9_enter.2.1 mw_X9_enter.2.2.1 mw_X9_enter.2.2.2 ⟨rfl, by decide, by decide, by decide +kernel⟩ rfl rfl ⟨by decide, by decide⟩ rfl rfl (Nat.le_of_ble_eq_true rfl) (by decide) (by decide) (by decide) dX9_serve_94 (fun x4 M3 => ?_)
    exact g_iret hC rfl (by decide) dX9_serve_97
  · refine g_iconst hC (v := 0) dX9_serve_85 (by decide) ?_
    refine g_goto (tgt := 97) hC dX9_serve_86 (by decide) ?_
    exact g_iret hC rfl (by decide) dX9_serve_97
set_option maxRecDepth 20000 in
set_option maxHeartbeats 4000000 in
theorem g_X9_serve_b58 {p : Program} {l : Launch} {e : Env} {s : State} {m : MethodId} {args : Array Value} {below : List Frame} {meth : Method} {c : Code} {Z : gZ} (hC : gC p l s m args meth c cX9_serve 5 RX9 (some .int) Z)   (M : gM) (a1 : Int32) (a2 : Int32) (a3 : Int32) (t0 : Int32) : gW p l e rm_X9_serve s m args below meth c 5 Z 1 0 0 M 58 [(0, .ref (zad Z 9)), (1, .int a1), (2, .int a2), (3, .int a3)] [.int t0] (f_X9_serve_b58  M a1 a2 a3 t0) := by
  unfold f_X9_serve_b58
  refine g_istore hC (lv1 := [(4, .int t0), (0, .ref (zad Z 9)), (1, .int a1), (2, .int a2), (3, .int a3)]) dX9_serve_58 (by decide) rfl ?_
  refine g_aload_n hC 1 dX9_serve_60 rfl rfl ?_
  refine g_iload_n hC 4 dX9_serve_61 rfl rfl ?_
  refine g_if_ne (tgt := 69) hC dX9_serve_62 (by decide) (fun _ => ?_) (fun _ => ?_)
  · refine g_iconst hC (v := 1) dX9_serve_65 (by decide) ?_
    refine g_goto (tgt := 79) hC dX9_serve_66 (by decide) ?_
    refine g_sub (lv1 := [(0, .ref (zad Z 9)), (1, .int a1), (2, .int a2)]) [1, 2, 3] rfl ?_
    exact g_X9_serve_b79 hC  M a1 a2 1
  · refine g_iload hC 0 dX9_serve_69 rfl ?_
    refine g_if_ne (tgt := 78) hC dX9_serve_71 (by decide) (fun _ => ?_) (fun _ => ?_)
    · refine g_iconst hC (v := 2) dX9_serve_74 (by decide) ?_
      refine g_goto (tgt := 79) hC dX9_serve_75 (by decide) ?_
      refine g_sub (lv1 := [(0, .ref (zad Z 9)), (1, .int a1), (2, .int a2)]) [1, 2, 3] rfl ?_
      exact g_X9_serve_b79 hC  M a1 a2 2
    · refine g_iconst hC (v := 0) dX9_serve_78 (by decide) ?_
      refine g_sub (lv1 := [(0, .ref (zad Z 9)), (1, .int a1), (2, .int a2)]) [1, 2, 3] rfl ?_
      exact g_X9_serve_b79 hC  M a1 a2 0
set_option maxRecDepth 20000 in
set_option maxHeartbeats 4000000 in
theorem g_X9_serve_b57 {p : Program} {l : Launch} {e : Env} {s : State} {m : MethodId} {args : Array Value} {below : List Frame} {meth : Method} {c : Code} {Z : gZ} (hC : gC p l s m args meth c cX9_serve 5 RX9 (some .int) Z)   (M : gM) (a1 : Int32) (a2 : Int32) (a3 : Int32)  : gW p l e rm_X9_serve s m args below meth c 5 Z 1 0 0 M 57 [(0, .ref (zad Z 9)), (1, .int a1), (2, .int a2), (3, .int a3)] [] (f_X9_serve_b57  M a1 a2 a3 ) := by
  unfold f_X9_serve_b57
  refine g_iconst hC (v := 0) dX9_serve_57 (by decide) ?_
  exact g_X9_serve_b58 hC  M a1 a2 a3 0
set_option maxRecDepth 20000 in
set_option maxHeartbeats 4000000 in
theorem g_X9_serve_b22 {p : Program} {l : Launch} {e : Env} {s : State} {m : MethodId} {args : Array Value} {below : List Frame} {meth : Method} {c : Code} {Z : gZ} (hC : gC p l s m args meth c cX9_serve 5 RX9 (some .int) Z)   (M : gM) (a1 : Int32) (a2 : Int32) (t0 : Int32) : gW p l e rm_X9_serve s m args below meth c 5 Z 1 0 0 M 22 [(0, .ref (zad Z 9)), (1, .int a1), (2, .int a2)] [.int t0] (f_X9_serve_b22  M a1 a2 t0) := by
  unfold f_X9_serve_b22
  refine g_istore_n hC (lv1 := [(3, .int t0), (0, .ref (zad Z 9)), (1, .int a1), (2, .int a2)]) dX9_serve_22 rfl (by decide) rfl ?_
  refine g_iload_n hC 0 dX9_serve_23 rfl rfl ?_
  refine g_if_eq (tgt := 57) hC dX9_serve_24 (by decide) (fun _ => ?_) (fun _ => ?_)
  · refine g_sub (lv1 := [(0, .ref (zad Z 9)), (1, .int a1), (2, .int a2), (3, .int t0)]) [1, 2, 3, 0] rfl ?_
    exact g_X9_serve_b57 hC  M a1 a2 t0 
  · refine g_aload_n hC 1 dX9_serve_27 rfl rfl ?_
    refine g_callVi (n := 0) hC [] 9 9 (by decide) rfl rfl (fun hne => c_X9_hasRoom hC.2.2.2.2.2.2.2.1 Z M  hne) lk_X9_233 mw_X9_hasRoom.1 mw_X9_hasRoom.2.1 mw_X9_hasRoom.2.2.1 mw_X9_hasRoom.2.2.2 ⟨rfl, by decide, by decide, by decide +kernel⟩ rfl rfl ⟨by decide, by decide⟩ rfl rfl (Nat.le_of_ble_eq_true rfl) (by decide) (by decide) (by decide) dX9_serve_28 (fun x6 M5 => ?_)
    refine g_if_eq (tgt := 57) hC dX9_serve_31 (by decide) (fun _ => ?_) (fun _ => ?_)
    · refine g_sub (lv1 := [(0, .ref (zad Z 9)), (1, .int a1), (2, .int a2), (3, .int t0)]) [1, 2, 3, 0] rfl ?_
      exact g_X9_serve_b57 hC  M5 a1 a2 t0 
    · refine g_aload_n hC 1 dX9_serve_34 rfl rfl ?_
      refine gf_X9_41 hC dX9_serve_35 ?_
      refine g_iload_n hC 2 dX9_serve_38 rfl rfl ?_
      refine g_iald hC 112 (by decide) rfl dX9_serve_39 ?_
      refine g_if_ne (tgt := 57) hC dX9_serve_40 (by decide) (fun _ => ?_) (fun _ => ?_)
      · refine g_aload_n hC 1 dX9_serve_43 rfl rfl ?_
        refine g_iload_n hC 2 dX9_serve_44 rfl rfl ?_
        refine g_iconst hC (v := 0) dX9_serve_45 (by decide) ?_
        refine g_callVi (n := 2) hC [.int a1, .int 0] 9 9 (by decide) rfl rfl (fun hne => c_X9_latest hC.2.2.2.2.2.2.2.1 Z M5 a1 0 hne) lk_X9_220 mw_X9_latest.1 mw_X9_latest.2.1 mw_X9_latest.2.2.1 mw_X9_latest.2.2.2 ⟨rfl, by decide, by decide, by decide +kernel⟩ rfl rfl ⟨by decide, by decide⟩ rfl rfl (Nat.le_of_ble_eq_true rfl) (by decide) (by decide) (by decide) dX9_serve_46 (fun x8 M7 => ?_)
        refine g_iconst hC (v := (-1)) dX9_serve_49 (by decide) ?_
        refine g_icmp_ne (tgt := 57) hC dX9_serve_50 (by decide) (fun _ => ?_) (fun _ => ?_)
        · refine g_iconst hC (v := 1) dX9_serve_53 (by decide) ?_
          refine g_goto (tgt := 58) hC dX9_serve_54 (by decide) ?_
          refine g_sub (lv1 := [(0, .ref (zad Z 9)), (1, .int a1), (2, .int a2), (3, .int t0)]) [1, 2, 3, 0] rfl ?_
          exact g_X9_serve_b58 hC  M7 a1 a2 t0 1
        · refine g_sub (lv1 := [(0, .ref (zad Z 9)), (1, .int a1), (2, .int a2), (3, .int t0)]) [1, 2, 3, 0] rfl ?_
          exact g_X9_serve_b57 hC  M7 a1 a2 t0 
      · refine g_sub (lv1 := [(0, .ref (zad Z 9)), (1, .int a1), (2, .int a2), (3, .int t0)]) [1, 2, 3, 0] rfl ?_
        exact g_X9_serve_b57 hC  M5 a1 a2 t0 
set_option maxRecDepth 20000 in
set_option maxHeartbeats 4000000 in
theorem g_X9_serve_b21 {p : Program} {l : Launch} {e : Env} {s : State} {m : MethodId} {args : Array Value} {below : List Frame} {meth : Method} {c : Code} {Z : gZ} (hC : gC p l s m args meth c cX9_serve 5 RX9 (some .int) Z)   (M : gM) (a1 : Int32) (a2 : Int32)  : gW p l e rm_X9_serve s m args below meth c 5 Z 1 0 0 M 21 [(0, .ref (zad Z 9)), (1, .int a1), (2, .int a2)] [] (f_X9_serve_b21  M a1 a2 ) := by
  unfold f_X9_serve_b21
  refine g_iconst hC (v := 0) dX9_serve_21 (by decide) ?_
  exact g_X9_serve_b22 hC  M a1 a2 0
set_option maxRecDepth 20000 in
set_option maxHeartbeats 4000000 in
theorem c_X9_serve {l : Launch} (hfl : l.stackTraces = false) (Z : gZ) (M : gM) (a1 : Int32) (a2 : Int32) : gMet l yX9_serve cX9_serve 5 (some .int) rm_X9_serve 1 0 Z M [.ref (zad Z 9), .int a1, .int a2] (f_X9_serve M a1 a2) := by
  refine g_enter hfl (by decide) (Nat.le_of_ble_eq_true rfl) (fun p e s m args below meth c hC => ?_)
  refine g_eq (F := f_X9_serve M a1 a2) rfl ?_
  refine g_lv0 (lv1 := [(0, .ref (zad Z 9)), (1, .int a1), (2, .int a2)]) rfl ?_
  unfold f_X9_serve
  refine g_aload_n hC 0 dX9_serve_0 rfl rfl ?_
  refine g_iload_n hC 1 dX9_serve_1 rfl rfl ?_
  refine g_callVi (n := 1) hC [.int a1] 9 9 (by decide) rfl rfl (fun hne => c_X9_isClaim hC.2.2.2.2.2.2.2.1 Z M a1 hne) lk_X9_195 mw_X9_isClaim.1 mw_X9_isClaim.2.1 mw_X9_isClaim.2.2.1 mw_X9_isClaim.2.2.2 ⟨rfl, by decide, by decide, by decide +kernel⟩ rfl rfl ⟨by decide, by decide⟩ rfl rfl (Nat.le_of_ble_eq_true rfl) (by decide) (by decide) (by decide) dX9_serve_2 (fun x10 M9 => ?_)
  refine g_if_eq (tgt := 21) hC dX9_serve_5 (by decide) (fun _ => ?_) (fun _ => ?_)
  · exact g_X9_serve_b21 hC  M9 a1 a2
  · refine g_iload_n hC 2 dX9_serve_8 rfl rfl ?_
    refine g_iconst hC (v := 0) dX9_serve_9 (by decide) ?_
    refine g_iconst hC (v := 2) dX9_serve_10 (by decide) ?_
    refine g_callSi (n := 3) hC [.int a2, .int 0, .int 2] (fun hne => c_X9_within hC.2.2.2.2.2.2.2.1 Z M9 a2 0 2 hne) lk_X9_148 mw_X9_within.1 mw_X9_within.2.1 mw_X9_within.2.2 ⟨by decide, by decide, by decide +kernel⟩ rfl rfl ⟨by decide, by decide⟩ rfl rfl (Nat.le_of_ble_eq_true rfl) (by decide) (by decide) (by decide) dX9_serve_11 (fun x12 M11 => ?_)
    refine g_if_eq (tgt := 21) hC dX9_serve_14 (by decide) (fun _ => ?_) (fun _ => ?_)
    · exact g_X9_serve_b21 hC  M11 a1 a2
    · refine g_iconst hC (v := 1) dX9_serve_17 (by decide) ?_
      refine g_goto (tgt := 22) hC dX9_serve_18 (by decide) ?_
      exact g_X9_serve_b22 hC  M11 a1 a2 1

-- ===== X9_canAnswer =====
def f_X9_canAnswer (M : gM) (a1 : Int32) : gR := (rb (f_X9_hasRoom M ) (fun x2 M1 => (if x2 = 0 then (rRet 0 M1) else (gI a1 24 (if (M1 112 a1.toNatClampNeg) = 0 then (rb (f_X9_latest M1 a1 0) (fun x4 M3 => (if x4 = (-1) then (rRet 0 M3) else (rb (f_X9_answered M3 a1) (fun x6 M5 => (if x6 = 0 then (rb (f_X9_hasOpenMotion M5 a1) (fun x8 M7 => (if x8 = 0 then (rb (f_X9_answerDue M7 a1) (fun x10 M9 => (rb (f_X9_isBehind M9 x10) (fun x12 M11 => (if x12 = 0 then (rRet 1 M11) else (rRet 0 M11)))))) else (rRet 0 M7)))) else (rRet 0 M5))))))) else (rRet 0 M1))))))
abbrev rm_X9_canAnswer : Room := { frames := 8, cells := 0, slots := 0, locals := 184 }
set_option maxRecDepth 20000 in
set_option maxHeartbeats 4000000 in
theorem c_X9_canAnswer {l : Launch} (hfl : l.stackTraces = false) (Z : gZ) (M : gM) (a1 : Int32) : gMet l yX9_canAnswer cX9_canAnswer 2 (some .boolean) rm_X9_canAnswer 1 0 Z M [.ref (zad Z 9), .int a1] (f_X9_canAnswer M a1) := by
  refine g_enter hfl (by decide) (Nat.le_of_ble_eq_true rfl) (fun p e s m args below meth c hC => ?_)
  refine g_eq (F := f_X9_canAnswer M a1) rfl ?_
  refine g_lv0 (lv1 := [(0, .ref (zad Z 9)), (1, .int a1)]) rfl ?_
  unfold f_X9_canAnswer
  refine g_aload_n hC 0 dX9_canAnswer_0 rfl rfl ?_
  refine g_callVi (n := 0) hC [] 9 9 (by decide) rfl rfl (fun hne => c_X9_hasRoom hC.2.2.2.2.2.2.2.1 Z M  hne) lk_X9_233 mw_X9_hasRoom.1 mw_X9_hasRoom.2.1 mw_X9_hasRoom.2.2.1 mw_X9_hasRoom.2.2.2 ⟨rfl, by decide, by decide, by decide +kernel⟩ rfl rfl ⟨by decide, by decide⟩ rfl rfl (Nat.le_of_ble_eq_true rfl) (by decide) (by decide) (by decide) dX9_canAnswer_1 (fun x2 M1 => ?_)
  refine g_if_eq (tgt := 58) hC dX9_canAnswer_4 (by decide) (fun _ => ?_) (fun _ => ?_)
  · refine g_iconst hC (v := 0) dX9_canAnswer_58 (by decide) ?_
    exact g_zret0 hC rfl (by decide) dX9_canAnswer_59
  · refine g_aload_n hC 0 dX9_canAnswer_7 rfl rfl ?_
    refine gf_X9_41 hC dX9_canAnswer_8 ?_
    refine g_iload_n hC 1 dX9_canAnswer_11 rfl rfl ?_
    refine g_iald hC 112 (by decide) rfl dX9_canAnswer_12 ?_
    refine g_if_ne (tgt := 58) hC dX9_canAnswer_13 (by decide) (fun _ => ?_) (fun _ => ?_)
    · refine g_aload_n hC 0 dX9_canAnswer_16 rfl rfl ?_
      refine g_iload_n hC 1 dX9_canAnswer_17 rfl rfl ?_
      refine g_iconst hC (v := 0) dX9_canAnswer_18 (by decide) ?_
      refine g_callVi (n := 2) hC [.int a1, .int 0] 9 9 (by decide) rfl rfl (fun hne => c_X9_latest hC.2.2.2.2.2.2.2.1 Z M1 a1 0 hne) lk_X9_220 mw_X9_latest.1 mw_X9_latest.2.1 mw_X9_latest.2.2.1 mw_X9_latest.2.2.2 ⟨rfl, by decide, by decide, by decide +kernel⟩ rfl rfl ⟨by decide, by decide⟩ rfl rfl (Nat.le_of_ble_eq_true rfl) (by decide) (by decide) (by decide) dX9_canAnswer_19 (fun x4 M3 => ?_)
      refine g_iconst hC (v := (-1)) dX9_canAnswer_22 (by decide) ?_
      refine g_icmp_eq (tgt := 58) hC dX9_canAnswer_23 (by decide) (fun _ => ?_) (fun _ => ?_)
      · refine g_iconst hC (v := 0) dX9_canAnswer_58 (by decide) ?_
        exact g_zret0 hC rfl (by decide) dX9_canAnswer_59
      · refine g_aload_n hC 0 dX9_canAnswer_26 rfl rfl ?_
        refine g_iload_n hC 1 dX9_canAnswer_27 rfl rfl ?_
        refine g_callVi (n := 1) hC [.int a1] 9 9 (by decide) rfl rfl (fun hne => c_X9_answered hC.2.2.2.2.2.2.2.1 Z M3 a1 hne) lk_X9_241 mw_X9_answered.1 mw_X9_answered.2.1 mw_X9_answered.2.2.1 mw_X9_answered.2.2.2 ⟨rfl, by decide, by decide, by decide +kernel⟩ rfl rfl ⟨by decide, by decide⟩ rfl rfl (Nat.le_of_ble_eq_true rfl) (by decide) (by decide) (by decide) dX9_canAnswer_28 (fun x6 M5 => ?_)
        refine g_if_ne (tgt := 58) hC dX9_canAnswer_31 (by decide) (fun _ => ?_) (fun _ => ?_)
        · refine g_aload_n hC 0 dX9_canAnswer_34 rfl rfl ?_
          refine g_iload_n hC 1 dX9_canAnswer_35 rfl rfl ?_
          refine g_callVi (n := 1) hC [.int a1] 9 9 (by decide) rfl rfl (fun hne => c_X9_hasOpenMotion hC.2.2.2.2.2.2.2.1 Z M5 a1 hne) lk_X9_227 mw_X9_hasOpenMotion.1 mw_X9_hasOpenMotion.2.1 mw_X9_hasOpenMotion.2.2.1 mw_X9_hasOpenMotion.2.2.2 ⟨rfl, by decide, by decide, by decide +kernel⟩ rfl rfl ⟨by decide, by decide⟩ rfl rfl (Nat.le_of_ble_eq_true rfl) (by decide) (by decide) (by decide) dX9_canAnswer_36 (fun x8 M7 => ?_)
          refine g_if_ne (tgt := 58) hC dX9_canAnswer_39 (by decide) (fun _ => ?_) (fun _ => ?_)
          · refine g_aload_n hC 0 dX9_canAnswer_42 rfl rfl ?_
            refine g_aload_n hC 0 dX9_canAnswer_43 rfl rfl ?_
            refine g_iload_n hC 1 dX9_canAnswer_44 rfl rfl ?_
            refine g_callVi (n := 1) hC [.int a1] 9 9 (by decide) rfl rfl (fun hne => c_X9_answerDue hC.2.2.2.2.2.2.2.1 Z M7 a1 hne) lk_X9_244 mw_X9_answerDue.1 mw_X9_answerDue.2.1 mw_X9_answerDue.2.2.1 mw_X9_answerDue.2.2.2 ⟨rfl, by decide, by decide, by decide +kernel⟩ rfl rfl ⟨by decide, by decide⟩ rfl rfl (Nat.le_of_ble_eq_true rfl) (by decide) (by decide) (by decide) dX9_canAnswer_45 (fun x10 M9 => ?_)
            refine g_callVi (n := 1) hC [.int x10] 9 9 (by decide) rfl rfl (fun hne => c_X9_isBehind hC.2.2.2.2.2.2.2.1 Z M9 x10 hne) lk_X9_207 mw_X9_isBehind.1 mw_X9_isBehind.2.1 mw_X9_isBehind.2.2.1 mw_X9_isBehind.2.2.2 ⟨rfl, by decide, by decide, by decide +kernel⟩ rfl rfl ⟨by decide, by decide⟩ rfl rfl (Nat.le_of_ble_eq_true rfl) (by decide) (by decide) (by decide) dX9_canAnswer_48 (fun x12 M11 => ?_)
            refine g_if_ne (tgt := 58) hC dX9_canAnswer_51 (by decide) (fun _ => ?_) (fun _ => ?_)
            · refine g_iconst hC (v := 1) dX9_canAnswer_54 (by decide) ?_
              refine g_goto (tgt := 59) hC dX9_canAnswer_55 (by decide) ?_
              exact g_zret1 hC rfl (by decide) dX9_canAnswer_59
            · refine g_iconst hC (v := 0) dX9_canAnswer_58 (by decide) ?_
              exact g_zret0 hC rfl (by decide) dX9_canAnswer_59
          · refine g_iconst hC (v := 0) dX9_canAnswer_58 (by decide) ?_
            exact g_zret0 hC rfl (by decide) dX9_canAnswer_59
        · refine g_iconst hC (v := 0) dX9_canAnswer_58 (by decide) ?_
          exact g_zret0 hC rfl (by decide) dX9_canAnswer_59
    · refine g_iconst hC (v := 0) dX9_canAnswer_58 (by decide) ?_
      exact g_zret0 hC rfl (by decide) dX9_canAnswer_59

-- ===== X9_answer =====
def f_X9_answer_b28  (M : gM) (a1 : Int32) (t1 : Int32) : gR := (rb (f_X9_refused M t1) (fun x2 M1 => (if x2 = 0 then (rb (f_X9_enter M1 1 a1 0 0) (fun x4 M3 => (rRet x4 M3))) else (rRet 0 M1))))
def f_X9_answer (M : gM) (a1 : Int32) : gR := (rb (f_X9_isClaim M a1) (fun x6 M5 => (if x6 = 0 then (f_X9_answer_b28  M5 a1 1) else (rb (f_X9_canAnswer M5 a1) (fun x8 M7 => (if x8 = 0 then (f_X9_answer_b28  M7 a1 2) else (f_X9_answer_b28  M7 a1 0)))))))
abbrev rm_X9_answer : Room := { frames := 9, cells := 0, slots := 0, locals := 205 }
set_option maxRecDepth 20000 in
set_option maxHeartbeats 4000000 in
theorem g_X9_answer_b28 {p : Program} {l : Launch} {e : Env} {s : State} {m : MethodId} {args : Array Value} {below : List Frame} {meth : Method} {c : Code} {Z : gZ} (hC : gC p l s m args meth c cX9_answer 3 RX9 (some .int) Z)   (M : gM) (a1 : Int32) (t1 : Int32) : gW p l e rm_X9_answer s m args below meth c 3 Z 1 0 0 M 28 [(0, .ref (zad Z 9)), (1, .int a1)] [.int t1, .ref (zad Z 9)] (f_X9_answer_b28  M a1 t1) := by
  unfold f_X9_answer_b28
  refine g_callVi (n := 1) hC [.int t1] 9 9 (by decide) rfl rfl (fun hne => c_X9_refused hC.2.2.2.2.2.2.2.1 Z M t1 hne) lk_X9_155 mw_X9_refused.1 mw_X9_refused.2.1 mw_X9_refused.2.2.1 mw_X9_refused.2.2.2 ⟨rfl, by decide, by decide, by decide +kernel⟩ rfl rfl ⟨by decide, by decide⟩ rfl rfl (Nat.le_of_ble_eq_true rfl) (by decide) (by decide) (by decide) dX9_answer_28 (fun x2 M1 => ?_)
  refine g_if_eq (tgt := 38) hC dX9_answer_31 (by decide) (fun _ => ?_) (fun _ => ?_)
  · refine g_aload_n hC 0 dX9_answer_38 rfl rfl ?_
    refine g_iconst hC (v := 1) dX9_answer_39 (by decide) ?_
    refine g_iload_n hC 1 dX9_answer_40 rfl rfl ?_
    refine g_iconst hC (v := 0) dX9_answer_41 (by decide) ?_
    refine g_iconst hC (v := 0) dX9_answer_42 (by decide) ?_
    refine g_callVi (n := 4) hC [.int 1, .int a1, .int 0, .int 0] 9 9 (by decide) rfl rfl (fun hne => c_X9_enter hC.2.2.2.2.2.2.2.1 Z M1 1 a1 0 0 hne) lk_X9_237 mw_X9_enter.1 mw_X9_enter.2.1 mw_X9_enter.2.2.1 mw_X9_enter.2.2.2 ⟨rfl, by decide, by decide, by decide +kernel⟩ rfl rfl ⟨by decide, by decide⟩ rfl rfl (Nat.le_of_ble_eq_true rfl) (by decide) (by decide) (by decide) dX9_answer_43 (fun x4 M3 => ?_)
    exact g_iret hC rfl (by decide) dX9_answer_46
  · refine g_iconst hC (v := 0) dX9_answer_34 (by decide) ?_
    refine g_goto (tgt := 46) hC dX9_answer_35 (by decide) ?_
    exact g_iret hC rfl (by decide) dX9_answer_46
set_option maxRecDepth 20000 in
set_option maxHeartbeats 4000000 in
theorem c_X9_answer {l : Launch} (hfl : l.stackTraces = false) (Z : gZ) (M : gM) (a1 : Int32) : gMet l yX9_answer cX9_answer 3 (some .int) rm_X9_answer 1 0 Z M [.ref (zad Z 9), .int a1] (f_X9_answer M a1) := by
  refine g_enter hfl (by decide) (Nat.le_of_ble_eq_true rfl) (fun p e s m args below meth c hC => ?_)
  refine g_eq (F := f_X9_answer M a1) rfl ?_
  refine g_lv0 (lv1 := [(0, .ref (zad Z 9)), (1, .int a1)]) rfl ?_
  unfold f_X9_answer
  refine g_aload_n hC 0 dX9_answer_0 rfl rfl ?_
  refine g_iload_n hC 1 dX9_answer_1 rfl rfl ?_
  refine g_callVi (n := 1) hC [.int a1] 9 9 (by decide) rfl rfl (fun hne => c_X9_isClaim hC.2.2.2.2.2.2.2.1 Z M a1 hne) lk_X9_195 mw_X9_isClaim.1 mw_X9_isClaim.2.1 mw_X9_isClaim.2.2.1 mw_X9_isClaim.2.2.2 ⟨rfl, by decide, by decide, by decide +kernel⟩ rfl rfl ⟨by decide, by decide⟩ rfl rfl (Nat.le_of_ble_eq_true rfl) (by decide) (by decide) (by decide) dX9_answer_2 (fun x6 M5 => ?_)
  refine g_istore_n hC (lv1 := [(2, .int x6), (0, .ref (zad Z 9)), (1, .int a1)]) dX9_answer_5 rfl (by decide) rfl ?_
  refine g_aload_n hC 1 dX9_answer_6 rfl rfl ?_
  refine g_iload_n hC 0 dX9_answer_7 rfl rfl ?_
  refine g_if_ne (tgt := 15) hC dX9_answer_8 (by decide) (fun _ => ?_) (fun _ => ?_)
  · refine g_iconst hC (v := 1) dX9_answer_11 (by decide) ?_
    refine g_goto (tgt := 28) hC dX9_answer_12 (by decide) ?_
    refine g_sub (lv1 := [(0, .ref (zad Z 9)), (1, .int a1)]) [1, 2] rfl ?_
    exact g_X9_answer_b28 hC  M5 a1 1
  · refine g_aload_n hC 1 dX9_answer_15 rfl rfl ?_
    refine g_iload_n hC 2 dX9_answer_16 rfl rfl ?_
    refine g_callVi (n := 1) hC [.int a1] 9 9 (by decide) rfl rfl (fun hne => c_X9_canAnswer hC.2.2.2.2.2.2.2.1 Z M5 a1 hne) lk_X9_247 mw_X9_canAnswer.1 mw_X9_canAnswer.2.1 mw_X9_canAnswer.2.2.1 mw_X9_canAnswer.2.2.2 ⟨rfl, by decide, by decide, by decide +kernel⟩ rfl rfl ⟨by decide, by decide⟩ rfl rfl (Nat.le_of_ble_eq_true rfl) (by decide) (by decide) (by decide) dX9_answer_17 (fun x8 M7 => ?_)
    refine g_if_ne (tgt := 27) hC dX9_answer_20 (by decide) (fun _ => ?_) (fun _ => ?_)
    · refine g_iconst hC (v := 2) dX9_answer_23 (by decide) ?_
      refine g_goto (tgt := 28) hC dX9_answer_24 (by decide) ?_
      refine g_sub (lv1 := [(0, .ref (zad Z 9)), (1, .int a1)]) [1, 2] rfl ?_
      exact g_X9_answer_b28 hC  M7 a1 2
    · refine g_iconst hC (v := 0) dX9_answer_27 (by decide) ?_
      refine g_sub (lv1 := [(0, .ref (zad Z 9)), (1, .int a1)]) [1, 2] rfl ?_
      exact g_X9_answer_b28 hC  M7 a1 0

-- ===== X9_motion =====
def f_X9_motion_b28  (M : gM) (a1 : Int32) (t1 : Int32) : gR := (rb (f_X9_refused M t1) (fun x2 M1 => (if x2 = 0 then (rb (f_X9_enter M1 2 a1 0 0) (fun x4 M3 => (rRet x4 M3))) else (rRet 0 M1))))
def f_X9_motion (M : gM) (a1 : Int32) : gR := (rb (f_X9_isClaim M a1) (fun x6 M5 => (if x6 = 0 then (f_X9_motion_b28  M5 a1 1) else (rb (f_X9_canAnswer M5 a1) (fun x8 M7 => (if x8 = 0 then (f_X9_motion_b28  M7 a1 2) else (f_X9_motion_b28  M7 a1 0)))))))
abbrev rm_X9_motion : Room := { frames := 9, cells := 0, slots := 0, locals := 205 }
set_option maxRecDepth 20000 in
set_option maxHeartbeats 4000000 in
theorem g_X9_motion_b28 {p : Program} {l : Launch} {e : Env} {s : State} {m : MethodId} {args : Array Value} {below : List Frame} {meth : Method} {c : Code} {Z : gZ} (hC : gC p l s m args meth c cX9_motion 3 RX9 (some .int) Z)   (M : gM) (a1 : Int32) (t1 : Int32) : gW p l e rm_X9_motion s m args below meth c 3 Z 1 0 0 M 28 [(0, .ref (zad Z 9)), (1, .int a1)] [.int t1, .ref (zad Z 9)] (f_X9_motion_b28  M a1 t1) := by
  unfold f_X9_motion_b28
  refine g_callVi (n := 1) hC [.int t1] 9 9 (by decide) rfl rfl (fun hne => c_X9_refused hC.2.2.2.2.2.2.2.1 Z M t1 hne) lk_X9_155 mw_X9_refused.1 mw_X9_refused.2.1 mw_X9_refused.2.2.1 mw_X9_refused.2.2.2 ⟨rfl, by decide, by decide, by decide +kernel⟩ rfl rfl ⟨by decide, by decide⟩ rfl rfl (Nat.le_of_ble_eq_true rfl) (by decide) (by decide) (by decide) dX9_motion_28 (fun x2 M1 => ?_)
  refine g_if_eq (tgt := 38) hC dX9_motion_31 (by decide) (fun _ => ?_) (fun _ => ?_)
  · refine g_aload_n hC 0 dX9_motion_38 rfl rfl ?_
    refine g_iconst hC (v := 2) dX9_motion_39 (by decide) ?_
    refine g_iload_n hC 1 dX9_motion_40 rfl rfl ?_
    refine g_iconst hC (v := 0) dX9_motion_41 (by decide) ?_
    refine g_iconst hC (v := 0) dX9_motion_42 (by decide) ?_
    refine g_callVi (n := 4) hC [.int 2, .int a1, .int 0, .int 0] 9 9 (by decide) rfl rfl (fun hne => c_X9_enter hC.2.2.2.2.2.2.2.1 Z M1 2 a1 0 0 hne) lk_X9_237 mw_X9_enter.1 mw_X9_enter.2.1 mw_X9_enter.2.2.1 mw_X9_enter.2.2.2 ⟨rfl, by decide, by decide, by decide +kernel⟩ rfl rfl ⟨by decide, by decide⟩ rfl rfl (Nat.le_of_ble_eq_true rfl) (by decide) (by decide) (by decide) dX9_motion_43 (fun x4 M3 => ?_)
    exact g_iret hC rfl (by decide) dX9_motion_46
  · refine g_iconst hC (v := 0) dX9_motion_34 (by decide) ?_
    refine g_goto (tgt := 46) hC dX9_motion_35 (by decide) ?_
    exact g_iret hC rfl (by decide) dX9_motion_46
set_option maxRecDepth 20000 in
set_option maxHeartbeats 4000000 in
theorem c_X9_motion {l : Launch} (hfl : l.stackTraces = false) (Z : gZ) (M : gM) (a1 : Int32) : gMet l yX9_motion cX9_motion 3 (some .int) rm_X9_motion 1 0 Z M [.ref (zad Z 9), .int a1] (f_X9_motion M a1) := by
  refine g_enter hfl (by decide) (Nat.le_of_ble_eq_true rfl) (fun p e s m args below meth c hC => ?_)
  refine g_eq (F := f_X9_motion M a1) rfl ?_
  refine g_lv0 (lv1 := [(0, .ref (zad Z 9)), (1, .int a1)]) rfl ?_
  unfold f_X9_motion
  refine g_aload_n hC 0 dX9_motion_0 rfl rfl ?_
  refine g_iload_n hC 1 dX9_motion_1 rfl rfl ?_
  refine g_callVi (n := 1) hC [.int a1] 9 9 (by decide) rfl rfl (fun hne => c_X9_isClaim hC.2.2.2.2.2.2.2.1 Z M a1 hne) lk_X9_195 mw_X9_isClaim.1 mw_X9_isClaim.2.1 mw_X9_isClaim.2.2.1 mw_X9_isClaim.2.2.2 ⟨rfl, by decide, by decide, by decide +kernel⟩ rfl rfl ⟨by decide, by decide⟩ rfl rfl (Nat.le_of_ble_eq_true rfl) (by decide) (by decide) (by decide) dX9_motion_2 (fun x6 M5 => ?_)
  refine g_istore_n hC (lv1 := [(2, .int x6), (0, .ref (zad Z 9)), (1, .int a1)]) dX9_motion_5 rfl (by decide) rfl ?_
  refine g_aload_n hC 1 dX9_motion_6 rfl rfl ?_
  refine g_iload_n hC 0 dX9_motion_7 rfl rfl ?_
  refine g_if_ne (tgt := 15) hC dX9_motion_8 (by decide) (fun _ => ?_) (fun _ => ?_)
  · refine g_iconst hC (v := 1) dX9_motion_11 (by decide) ?_
    refine g_goto (tgt := 28) hC dX9_motion_12 (by decide) ?_
    refine g_sub (lv1 := [(0, .ref (zad Z 9)), (1, .int a1)]) [1, 2] rfl ?_
    exact g_X9_motion_b28 hC  M5 a1 1
  · refine g_aload_n hC 1 dX9_motion_15 rfl rfl ?_
    refine g_iload_n hC 2 dX9_motion_16 rfl rfl ?_
    refine g_callVi (n := 1) hC [.int a1] 9 9 (by decide) rfl rfl (fun hne => c_X9_canAnswer hC.2.2.2.2.2.2.2.1 Z M5 a1 hne) lk_X9_247 mw_X9_canAnswer.1 mw_X9_canAnswer.2.1 mw_X9_canAnswer.2.2.1 mw_X9_canAnswer.2.2.2 ⟨rfl, by decide, by decide, by decide +kernel⟩ rfl rfl ⟨by decide, by decide⟩ rfl rfl (Nat.le_of_ble_eq_true rfl) (by decide) (by decide) (by decide) dX9_motion_17 (fun x8 M7 => ?_)
    refine g_if_ne (tgt := 27) hC dX9_motion_20 (by decide) (fun _ => ?_) (fun _ => ?_)
    · refine g_iconst hC (v := 2) dX9_motion_23 (by decide) ?_
      refine g_goto (tgt := 28) hC dX9_motion_24 (by decide) ?_
      refine g_sub (lv1 := [(0, .ref (zad Z 9)), (1, .int a1)]) [1, 2] rfl ?_
      exact g_X9_motion_b28 hC  M7 a1 2
    · refine g_iconst hC (v := 0) dX9_motion_27 (by decide) ?_
      refine g_sub (lv1 := [(0, .ref (zad Z 9)), (1, .int a1)]) [1, 2] rfl ?_
      exact g_X9_motion_b28 hC  M7 a1 0

-- ===== X9_isResponded =====
def f_X9_isResponded_lb4  (self4 : gM → Int32 → Int32 → Int32 → gR) (M : gM) (a1 : Int32) (a2 : Int32) (a3 : Int32) : gR := (if (M 9 23) ≤ a3 then (gZ01 a2 (rRet a2 M)) else (if a2 = 0 then (gI a3 160 (if (M 120 a3.toNatClampNeg) = 3 then (gI a3 160 (if (M 123 a3.toNatClampNeg) = a1 then (rb (f_X9_isCounted M a3) (fun x2 M1 => (if x2 = 0 then (bV (a3 + 1) (fun x3 => (self4 M1 a1 0 x3))) else (bV (a3 + 1) (fun x4 => (self4 M1 a1 1 x4)))))) else (bV (a3 + 1) (fun x5 => (self4 M a1 0 x5))))) else (bV (a3 + 1) (fun x6 => (self4 M a1 0 x6))))) else (gZ01 a2 (rRet a2 M))))
def f_X9_isResponded_l4  : Nat → gM → Int32 → Int32 → Int32 → gR
  | 0, _, _, _, _ => rStuck
  | n + 1, M, a1, a2, a3 => f_X9_isResponded_lb4  (f_X9_isResponded_l4  n) M a1 a2 a3
def f_X9_isResponded (M : gM) (a1 : Int32) : gR := (f_X9_isResponded_l4  5000 M a1 0 0)
abbrev rm_X9_isResponded : Room := { frames := 5, cells := 0, slots := 0, locals := 114 }
set_option maxRecDepth 20000 in
set_option maxHeartbeats 4000000 in
theorem g_X9_isResponded_lb4 {p : Program} {l : Launch} {e : Env} {s : State} {m : MethodId} {args : Array Value} {below : List Frame} {meth : Method} {c : Code} {Z : gZ} (hC : gC p l s m args meth c cX9_isResponded 4 RX9 (some .boolean) Z)  {self4 : gM → Int32 → Int32 → Int32 → gR}  (hs4 : ∀ (M : gM) (a1 : Int32) (a2 : Int32) (a3 : Int32) , gW p l e rm_X9_isResponded s m args below meth c 4 Z 1 0 0 M 4 [(0, .ref (zad Z 9)), (1, .int a1), (2, .int a2), (3, .int a3)] [] (self4 M a1 a2 a3)) (M : gM) (a1 : Int32) (a2 : Int32) (a3 : Int32) : gW p l e rm_X9_isResponded s m args below meth c 4 Z 1 0 0 M 4 [(0, .ref (zad Z 9)), (1, .int a1), (2, .int a2), (3, .int a3)] [] (f_X9_isResponded_lb4  self4 M a1 a2 a3) := by
  unfold f_X9_isResponded_lb4
  refine g_iload_n hC 3 dX9_isResponded_4 rfl rfl ?_
  refine g_aload_n hC 0 dX9_isResponded_5 rfl rfl ?_
  refine gf_X9_171 hC dX9_isResponded_6 ?_
  refine g_icmp_ge (tgt := 56) hC dX9_isResponded_9 (by decide) (fun _ => ?_) (fun _ => ?_)
  · refine g_iload_n hC 2 dX9_isResponded_56 rfl rfl ?_
    exact g_zret hC rfl (by decide) dX9_isResponded_57
  · refine g_iload_n hC 2 dX9_isResponded_12 rfl rfl ?_
    refine g_if_ne (tgt := 56) hC dX9_isResponded_13 (by decide) (fun _ => ?_) (fun _ => ?_)
    · refine g_aload_n hC 0 dX9_isResponded_16 rfl rfl ?_
      refine gf_X9_65 hC dX9_isResponded_17 ?_
      refine g_iload_n hC 3 dX9_isResponded_20 rfl rfl ?_
      refine g_iald hC 120 (by decide) rfl dX9_isResponded_21 ?_
      refine g_iconst hC (v := 3) dX9_isResponded_22 (by decide) ?_
      refine g_icmp_ne (tgt := 48) hC dX9_isResponded_23 (by decide) (fun _ => ?_) (fun _ => ?_)
      · refine g_aload_n hC 0 dX9_isResponded_26 rfl rfl ?_
        refine gf_X9_74 hC dX9_isResponded_27 ?_
        refine g_iload_n hC 3 dX9_isResponded_30 rfl rfl ?_
        refine g_iald hC 123 (by decide) rfl dX9_isResponded_31 ?_
        refine g_iload_n hC 1 dX9_isResponded_32 rfl rfl ?_
        refine g_icmp_ne (tgt := 48) hC dX9_isResponded_33 (by decide) (fun _ => ?_) (fun _ => ?_)
        · refine g_aload_n hC 0 dX9_isResponded_36 rfl rfl ?_
          refine g_iload_n hC 3 dX9_isResponded_37 rfl rfl ?_
          refine g_callVi (n := 1) hC [.int a3] 9 9 (by decide) rfl rfl (fun hne => c_X9_isCounted hC.2.2.2.2.2.2.2.1 Z M a3 hne) lk_X9_214 mw_X9_isCounted.1 mw_X9_isCounted.2.1 mw_X9_isCounted.2.2.1 mw_X9_isCounted.2.2.2 ⟨rfl, by decide, by decide, by decide +kernel⟩ rfl rfl ⟨by decide, by decide⟩ rfl rfl (Nat.le_of_ble_eq_true rfl) (by decide) (by decide) (by decide) dX9_isResponded_38 (fun x2 M1 => ?_)
          refine g_if_eq (tgt := 48) hC dX9_isResponded_41 (by decide) (fun _ => ?_) (fun _ => ?_)
          · refine g_iconst hC (v := 0) dX9_isResponded_48 (by decide) ?_
            refine g_istore_n hC (lv1 := [(2, .int 0), (0, .ref (zad Z 9)), (1, .int a1), (3, .int a3)]) dX9_isResponded_49 rfl (by decide) rfl ?_
            refine g_iinc hC 3 (v := 1) (fun x3 => [(3, .int x3), (2, .int 0), (0, .ref (zad Z 9)), (1, .int a1)]) dX9_isResponded_50 rfl (by decide) (by decide) (fun _ => rfl) (fun x3 => ?_)
            refine g_goto (tgt := 4) hC dX9_isResponded_53 (by decide) ?_
            refine g_sub (lv1 := [(0, .ref (zad Z 9)), (1, .int a1), (2, .int 0), (3, .int x3)]) [2, 3, 1, 0] rfl ?_
            exact hs4 M1 a1 0 x3
          · refine g_iconst hC (v := 1) dX9_isResponded_44 (by decide) ?_
            refine g_goto (tgt := 49) hC dX9_isResponded_45 (by decide) ?_
            refine g_istore_n hC (lv1 := [(2, .int 1), (0, .ref (zad Z 9)), (1, .int a1), (3, .int a3)]) dX9_isResponded_49 rfl (by decide) rfl ?_
            refine g_iinc hC 3 (v := 1) (fun x4 => [(3, .int x4), (2, .int 1), (0, .ref (zad Z 9)), (1, .int a1)]) dX9_isResponded_50 rfl (by decide) (by decide) (fun _ => rfl) (fun x4 => ?_)
            refine g_goto (tgt := 4) hC dX9_isResponded_53 (by decide) ?_
            refine g_sub (lv1 := [(0, .ref (zad Z 9)), (1, .int a1), (2, .int 1), (3, .int x4)]) [2, 3, 1, 0] rfl ?_
            exact hs4 M1 a1 1 x4
        · refine g_iconst hC (v := 0) dX9_isResponded_48 (by decide) ?_
          refine g_istore_n hC (lv1 := [(2, .int 0), (0, .ref (zad Z 9)), (1, .int a1), (3, .int a3)]) dX9_isResponded_49 rfl (by decide) rfl ?_
          refine g_iinc hC 3 (v := 1) (fun x5 => [(3, .int x5), (2, .int 0), (0, .ref (zad Z 9)), (1, .int a1)]) dX9_isResponded_50 rfl (by decide) (by decide) (fun _ => rfl) (fun x5 => ?_)
          refine g_goto (tgt := 4) hC dX9_isResponded_53 (by decide) ?_
          refine g_sub (lv1 := [(0, .ref (zad Z 9)), (1, .int a1), (2, .int 0), (3, .int x5)]) [2, 3, 1, 0] rfl ?_
          exact hs4 M a1 0 x5
      · refine g_iconst hC (v := 0) dX9_isResponded_48 (by decide) ?_
        refine g_istore_n hC (lv1 := [(2, .int 0), (0, .ref (zad Z 9)), (1, .int a1), (3, .int a3)]) dX9_isResponded_49 rfl (by decide) rfl ?_
        refine g_iinc hC 3 (v := 1) (fun x6 => [(3, .int x6), (2, .int 0), (0, .ref (zad Z 9)), (1, .int a1)]) dX9_isResponded_50 rfl (by decide) (by decide) (fun _ => rfl) (fun x6 => ?_)
        refine g_goto (tgt := 4) hC dX9_isResponded_53 (by decide) ?_
        refine g_sub (lv1 := [(0, .ref (zad Z 9)), (1, .int a1), (2, .int 0), (3, .int x6)]) [2, 3, 1, 0] rfl ?_
        exact hs4 M a1 0 x6
    · refine g_iload_n hC 2 dX9_isResponded_56 rfl rfl ?_
      exact g_zret hC rfl (by decide) dX9_isResponded_57
set_option maxRecDepth 20000 in
set_option maxHeartbeats 4000000 in
theorem g_X9_isResponded_l4 {p : Program} {l : Launch} {e : Env} {s : State} {m : MethodId} {args : Array Value} {below : List Frame} {meth : Method} {c : Code} {Z : gZ} (hC : gC p l s m args meth c cX9_isResponded 4 RX9 (some .boolean) Z)   : ∀ (n : Nat) (M : gM) (a1 : Int32) (a2 : Int32) (a3 : Int32), gW p l e rm_X9_isResponded s m args below meth c 4 Z 1 0 0 M 4 [(0, .ref (zad Z 9)), (1, .int a1), (2, .int a2), (3, .int a3)] [] (f_X9_isResponded_l4  n M a1 a2 a3)
  | 0, _, _, _, _ => g_stuck
  | n + 1, M, a1, a2, a3 => g_X9_isResponded_lb4 hC  (g_X9_isResponded_l4 hC  n) M a1 a2 a3
set_option maxRecDepth 20000 in
set_option maxHeartbeats 4000000 in
theorem c_X9_isResponded {l : Launch} (hfl : l.stackTraces = false) (Z : gZ) (M : gM) (a1 : Int32) : gMet l yX9_isResponded cX9_isResponded 4 (some .boolean) rm_X9_isResponded 1 0 Z M [.ref (zad Z 9), .int a1] (f_X9_isResponded M a1) := by
  refine g_enter hfl (by decide) (Nat.le_of_ble_eq_true rfl) (fun p e s m args below meth c hC => ?_)
  refine g_eq (F := f_X9_isResponded M a1) rfl ?_
  refine g_lv0 (lv1 := [(0, .ref (zad Z 9)), (1, .int a1)]) rfl ?_
  unfold f_X9_isResponded
  refine g_iconst hC (v := 0) dX9_isResponded_0 (by decide) ?_
  refine g_istore_n hC (lv1 := [(2, .int 0), (0, .ref (zad Z 9)), (1, .int a1)]) dX9_isResponded_1 rfl (by decide) rfl ?_
  refine g_iconst hC (v := 0) dX9_isResponded_2 (by decide) ?_
  refine g_istore_n hC (lv1 := [(3, .int 0), (2, .int 0), (0, .ref (zad Z 9)), (1, .int a1)]) dX9_isResponded_3 rfl (by decide) rfl ?_
  refine g_sub (lv1 := [(0, .ref (zad Z 9)), (1, .int a1), (2, .int 0), (3, .int 0)]) [2, 3, 1, 0] rfl ?_
  exact g_X9_isResponded_l4 hC  5000 M a1 0 0

-- ===== X9_respond =====
def f_X9_respond_b69  (M : gM) (a1 : Int32) (t1 : Int32) : gR := (rb (f_X9_refused M t1) (fun x2 M1 => (if x2 = 0 then (gI a1 160 (rb (f_X9_enter M1 3 (M1 122 a1.toNatClampNeg) a1 0) (fun x4 M3 => (rRet x4 M3)))) else (rRet 0 M1))))
def f_X9_respond_b50  (M : gM) (a1 : Int32) (a2 : Int32) (t0 : Int32) : gR := (if a2 = 0 then (f_X9_respond_b69  M a1 1) else (if t0 = 0 then (f_X9_respond_b69  M a1 2) else (f_X9_respond_b69  M a1 0)))
def f_X9_respond_b49  (M : gM) (a1 : Int32) (a2 : Int32)  : gR := (f_X9_respond_b50  M a1 a2 0)
def f_X9_respond (M : gM) (a1 : Int32) : gR := (rb (f_X9_isMotion M a1) (fun x6 M5 => (if x6 = 0 then (f_X9_respond_b49  M5 a1 x6 ) else (rb (f_X9_hasRoom M5 ) (fun x8 M7 => (if x8 = 0 then (f_X9_respond_b49  M7 a1 x6 ) else (rb (f_X9_isOpen M7 a1) (fun x10 M9 => (if x10 = 0 then (f_X9_respond_b49  M9 a1 x6 ) else (rb (f_X9_isResponded M9 a1) (fun x12 M11 => (if x12 = 0 then (rb (f_X9_responseDue M11 a1) (fun x14 M13 => (rb (f_X9_isBehind M13 x14) (fun x16 M15 => (if x16 = 0 then (f_X9_respond_b50  M15 a1 x6 1) else (f_X9_respond_b49  M15 a1 x6 )))))) else (f_X9_respond_b49  M11 a1 x6 )))))))))))))
abbrev rm_X9_respond : Room := { frames := 6, cells := 0, slots := 0, locals := 137 }
set_option maxRecDepth 20000 in
set_option maxHeartbeats 4000000 in
theorem g_X9_respond_b69 {p : Program} {l : Launch} {e : Env} {s : State} {m : MethodId} {args : Array Value} {below : List Frame} {meth : Method} {c : Code} {Z : gZ} (hC : gC p l s m args meth c cX9_respond 4 RX9 (some .int) Z)   (M : gM) (a1 : Int32) (t1 : Int32) : gW p l e rm_X9_respond s m args below meth c 4 Z 1 0 0 M 69 [(0, .ref (zad Z 9)), (1, .int a1)] [.int t1, .ref (zad Z 9)] (f_X9_respond_b69  M a1 t1) := by
  unfold f_X9_respond_b69
  refine g_callVi (n := 1) hC [.int t1] 9 9 (by decide) rfl rfl (fun hne => c_X9_refused hC.2.2.2.2.2.2.2.1 Z M t1 hne) lk_X9_155 mw_X9_refused.1 mw_X9_refused.2.1 mw_X9_refused.2.2.1 mw_X9_refused.2.2.2 ⟨rfl, by decide, by decide, by decide +kernel⟩ rfl rfl ⟨by decide, by decide⟩ rfl rfl (Nat.le_of_ble_eq_true rfl) (by decide) (by decide) (by decide) dX9_respond_69 (fun x2 M1 => ?_)
  refine g_if_eq (tgt := 79) hC dX9_respond_72 (by decide) (fun _ => ?_) (fun _ => ?_)
  · refine g_aload_n hC 0 dX9_respond_79 rfl rfl ?_
    refine g_iconst hC (v := 3) dX9_respond_80 (by decide) ?_
    refine g_aload_n hC 0 dX9_respond_81 rfl rfl ?_
    refine gf_X9_71 hC dX9_respond_82 ?_
    refine g_iload_n hC 1 dX9_respond_85 rfl rfl ?_
    refine g_iald hC 122 (by decide) rfl dX9_respond_86 ?_
    refine g_iload_n hC 1 dX9_respond_87 rfl rfl ?_
    refine g_iconst hC (v := 0) dX9_respond_88 (by decide) ?_
    refine g_callVi (n := 4) hC [.int 3, .int (M1 122 a1.toNatClampNeg), .int a1, .int 0] 9 9 (by decide) rfl rfl (fun hne => c_X9_enter hC.2.2.2.2.2.2.2.1 Z M1 3 (M1 122 a1.toNatClampNeg) a1 0 hne) lk_X9_237 mw_X9_enter.1 mw_X9_enter.2.1 mw_X9_enter.2.2.1 mw_X9_enter.2.2.2 ⟨rfl, by decide, by decide, by decide +kernel⟩ rfl rfl ⟨by decide, by decide⟩ rfl rfl (Nat.le_of_ble_eq_true rfl) (by decide) (by decide) (by decide) dX9_respond_89 (fun x4 M3 => ?_)
    exact g_iret hC rfl (by decide) dX9_respond_92
  · refine g_iconst hC (v := 0) dX9_respond_75 (by decide) ?_
    refine g_goto (tgt := 92) hC dX9_respond_76 (by decide) ?_
    exact g_iret hC rfl (by decide) dX9_respond_92
set_option maxRecDepth 20000 in
set_option maxHeartbeats 4000000 in
theorem g_X9_respond_b50 {p : Program} {l : Launch} {e : Env} {s : State} {m : MethodId} {args : Array Value} {below : List Frame} {meth : Method} {c : Code} {Z : gZ} (hC : gC p l s m args meth c cX9_respond 4 RX9 (some .int) Z)   (M : gM) (a1 : Int32) (a2 : Int32) (t0 : Int32) : gW p l e rm_X9_respond s m args below meth c 4 Z 1 0 0 M 50 [(0, .ref (zad Z 9)), (1, .int a1), (2, .int a2)] [.int t0] (f_X9_respond_b50  M a1 a2 t0) := by
  unfold f_X9_respond_b50
  refine g_istore_n hC (lv1 := [(3, .int t0), (0, .ref (zad Z 9)), (1, .int a1), (2, .int a2)]) dX9_respond_50 rfl (by decide) rfl ?_
  refine g_aload_n hC 1 dX9_respond_51 rfl rfl ?_
  refine g_iload_n hC 3 dX9_respond_52 rfl rfl ?_
  refine g_if_ne (tgt := 60) hC dX9_respond_53 (by decide) (fun _ => ?_) (fun _ => ?_)
  · refine g_iconst hC (v := 1) dX9_respond_56 (by decide) ?_
    refine g_goto (tgt := 69) hC dX9_respond_57 (by decide) ?_
    refine g_sub (lv1 := [(0, .ref (zad Z 9)), (1, .int a1)]) [1, 2] rfl ?_
    exact g_X9_respond_b69 hC  M a1 1
  · refine g_iload_n hC 0 dX9_respond_60 rfl rfl ?_
    refine g_if_ne (tgt := 68) hC dX9_respond_61 (by decide) (fun _ => ?_) (fun _ => ?_)
    · refine g_iconst hC (v := 2) dX9_respond_64 (by decide) ?_
      refine g_goto (tgt := 69) hC dX9_respond_65 (by decide) ?_
      refine g_sub (lv1 := [(0, .ref (zad Z 9)), (1, .int a1)]) [1, 2] rfl ?_
      exact g_X9_respond_b69 hC  M a1 2
    · refine g_iconst hC (v := 0) dX9_respond_68 (by decide) ?_
      refine g_sub (lv1 := [(0, .ref (zad Z 9)), (1, .int a1)]) [1, 2] rfl ?_
      exact g_X9_respond_b69 hC  M a1 0
set_option maxRecDepth 20000 in
set_option maxHeartbeats 4000000 in
theorem g_X9_respond_b49 {p : Program} {l : Launch} {e : Env} {s : State} {m : MethodId} {args : Array Value} {below : List Frame} {meth : Method} {c : Code} {Z : gZ} (hC : gC p l s m args meth c cX9_respond 4 RX9 (some .int) Z)   (M : gM) (a1 : Int32) (a2 : Int32)  : gW p l e rm_X9_respond s m args below meth c 4 Z 1 0 0 M 49 [(0, .ref (zad Z 9)), (1, .int a1), (2, .int a2)] [] (f_X9_respond_b49  M a1 a2 ) := by
  unfold f_X9_respond_b49
  refine g_iconst hC (v := 0) dX9_respond_49 (by decide) ?_
  exact g_X9_respond_b50 hC  M a1 a2 0
set_option maxRecDepth 20000 in
set_option maxHeartbeats 4000000 in
theorem c_X9_respond {l : Launch} (hfl : l.stackTraces = false) (Z : gZ) (M : gM) (a1 : Int32) : gMet l yX9_respond cX9_respond 4 (some .int) rm_X9_respond 1 0 Z M [.ref (zad Z 9), .int a1] (f_X9_respond M a1) := by
  refine g_enter hfl (by decide) (Nat.le_of_ble_eq_true rfl) (fun p e s m args below meth c hC => ?_)
  refine g_eq (F := f_X9_respond M a1) rfl ?_
  refine g_lv0 (lv1 := [(0, .ref (zad Z 9)), (1, .int a1)]) rfl ?_
  unfold f_X9_respond
  refine g_aload_n hC 0 dX9_respond_0 rfl rfl ?_
  refine g_iload_n hC 1 dX9_respond_1 rfl rfl ?_
  refine g_callVi (n := 1) hC [.int a1] 9 9 (by decide) rfl rfl (fun hne => c_X9_isMotion hC.2.2.2.2.2.2.2.1 Z M a1 hne) lk_X9_250 mw_X9_isMotion.1 mw_X9_isMotion.2.1 mw_X9_isMotion.2.2.1 mw_X9_isMotion.2.2.2 ⟨rfl, by decide, by decide, by decide +kernel⟩ rfl rfl ⟨by decide, by decide⟩ rfl rfl (Nat.le_of_ble_eq_true rfl) (by decide) (by decide) (by decide) dX9_respond_2 (fun x6 M5 => ?_)
  refine g_istore_n hC (lv1 := [(2, .int x6), (0, .ref (zad Z 9)), (1, .int a1)]) dX9_respond_5 rfl (by decide) rfl ?_
  refine g_iload_n hC 0 dX9_respond_6 rfl rfl ?_
  refine g_if_eq (tgt := 49) hC dX9_respond_7 (by decide) (fun _ => ?_) (fun _ => ?_)
  · refine g_sub (lv1 := [(0, .ref (zad Z 9)), (1, .int a1), (2, .int x6)]) [1, 2, 0] rfl ?_
    exact g_X9_respond_b49 hC  M5 a1 x6 
  · refine g_aload_n hC 1 dX9_respond_10 rfl rfl ?_
    refine g_callVi (n := 0) hC [] 9 9 (by decide) rfl rfl (fun hne => c_X9_hasRoom hC.2.2.2.2.2.2.2.1 Z M5  hne) lk_X9_233 mw_X9_hasRoom.1 mw_X9_hasRoom.2.1 mw_X9_hasRoom.2.2.1 mw_X9_hasRoom.2.2.2 ⟨rfl, by decide, by decide, by decide +kernel⟩ rfl rfl ⟨by decide, by decide⟩ rfl rfl (Nat.le_of_ble_eq_true rfl) (by decide) (by decide) (by decide) dX9_respond_11 (fun x8 M7 => ?_)
    refine g_if_eq (tgt := 49) hC dX9_respond_14 (by decide) (fun _ => ?_) (fun _ => ?_)
    · refine g_sub (lv1 := [(0, .ref (zad Z 9)), (1, .int a1), (2, .int x6)]) [1, 2, 0] rfl ?_
      exact g_X9_respond_b49 hC  M7 a1 x6 
    · refine g_aload_n hC 1 dX9_respond_17 rfl rfl ?_
      refine g_iload_n hC 2 dX9_respond_18 rfl rfl ?_
      refine g_callVi (n := 1) hC [.int a1] 9 9 (by decide) rfl rfl (fun hne => c_X9_isOpen hC.2.2.2.2.2.2.2.1 Z M7 a1 hne) lk_X9_217 mw_X9_isOpen.1 mw_X9_isOpen.2.1 mw_X9_isOpen.2.2.1 mw_X9_isOpen.2.2.2 ⟨rfl, by decide, by decide, by decide +kernel⟩ rfl rfl ⟨by decide, by decide⟩ rfl rfl (Nat.le_of_ble_eq_true rfl) (by decide) (by decide) (by decide) dX9_respond_19 (fun x10 M9 => ?_)
      refine g_if_eq (tgt := 49) hC dX9_respond_22 (by decide) (fun _ => ?_) (fun _ => ?_)
      · refine g_sub (lv1 := [(0, .ref (zad Z 9)), (1, .int a1), (2, .int x6)]) [1, 2, 0] rfl ?_
        exact g_X9_respond_b49 hC  M9 a1 x6 
      · refine g_aload_n hC 1 dX9_respond_25 rfl rfl ?_
        refine g_iload_n hC 2 dX9_respond_26 rfl rfl ?_
        refine g_callVi (n := 1) hC [.int a1] 9 9 (by decide) rfl rfl (fun hne => c_X9_isResponded hC.2.2.2.2.2.2.2.1 Z M9 a1 hne) lk_X9_253 mw_X9_isResponded.1 mw_X9_isResponded.2.1 mw_X9_isResponded.2.2.1 mw_X9_isResponded.2.2.2 ⟨rfl, by decide, by decide, by decide +kernel⟩ rfl rfl ⟨by decide, by decide⟩ rfl rfl (Nat.le_of_ble_eq_true rfl) (by decide) (by decide) (by decide) dX9_respond_27 (fun x12 M11 => ?_)
        refine g_if_ne (tgt := 49) hC dX9_respond_30 (by decide) (fun _ => ?_) (fun _ => ?_)
        · refine g_aload_n hC 1 dX9_respond_33 rfl rfl ?_
          refine g_aload_n hC 1 dX9_respond_34 rfl rfl ?_
          refine g_iload_n hC 2 dX9_respond_35 rfl rfl ?_
          refine g_callVi (n := 1) hC [.int a1] 9 9 (by decide) rfl rfl (fun hne => c_X9_responseDue hC.2.2.2.2.2.2.2.1 Z M11 a1 hne) lk_X9_256 mw_X9_responseDue.1 mw_X9_responseDue.2.1 mw_X9_responseDue.2.2.1 mw_X9_responseDue.2.2.2 ⟨rfl, by decide, by decide, by decide +kernel⟩ rfl rfl ⟨by decide, by decide⟩ rfl rfl (Nat.le_of_ble_eq_true rfl) (by decide) (by decide) (by decide) dX9_respond_36 (fun x14 M13 => ?_)
          refine g_callVi (n := 1) hC [.int x14] 9 9 (by decide) rfl rfl (fun hne => c_X9_isBehind hC.2.2.2.2.2.2.2.1 Z M13 x14 hne) lk_X9_207 mw_X9_isBehind.1 mw_X9_isBehind.2.1 mw_X9_isBehind.2.2.1 mw_X9_isBehind.2.2.2 ⟨rfl, by decide, by decide, by decide +kernel⟩ rfl rfl ⟨by decide, by decide⟩ rfl rfl (Nat.le_of_ble_eq_true rfl) (by decide) (by decide) (by decide) dX9_respond_39 (fun x16 M15 => ?_)
          refine g_if_ne (tgt := 49) hC dX9_respond_42 (by decide) (fun _ => ?_) (fun _ => ?_)
          · refine g_iconst hC (v := 1) dX9_respond_45 (by decide) ?_
            refine g_goto (tgt := 50) hC dX9_respond_46 (by decide) ?_
            refine g_sub (lv1 := [(0, .ref (zad Z 9)), (1, .int a1), (2, .int x6)]) [1, 2, 0] rfl ?_
            exact g_X9_respond_b50 hC  M15 a1 x6 1
          · refine g_sub (lv1 := [(0, .ref (zad Z 9)), (1, .int a1), (2, .int x6)]) [1, 2, 0] rfl ?_
            exact g_X9_respond_b49 hC  M15 a1 x6 
        · refine g_sub (lv1 := [(0, .ref (zad Z 9)), (1, .int a1), (2, .int x6)]) [1, 2, 0] rfl ?_
          exact g_X9_respond_b49 hC  M11 a1 x6 

-- ===== X9_ruling =====
def f_X9_ruling_b167  (M : gM) (a2 : Int32) (a4 : Int32) (a7 : Int32) (t1 : Int32) (t2 : Int32) : gR := (gI t1 24 (bM (gset M 112 t1.toNatClampNeg t2) (fun M1 => (if a2 ≤ 0 then (gI a4 24 (gI a4 24 (bM (gset M1 113 a4.toNatClampNeg (M1 113 a4.toNatClampNeg)) (fun M2 => (rRet a7 M2))))) else (gI a4 24 (bM (gset M1 113 a4.toNatClampNeg a2) (fun M3 => (rRet a7 M3))))))))
def f_X9_ruling_b133  (M : gM) (a1 : Int32) (a2 : Int32) (a4 : Int32) (t1 : Int32) : gR := (rb (f_X9_refused M t1) (fun x5 M4 => (if x5 = 0 then (rb (f_X9_enter M4 4 a4 a2 a1) (fun x7 M6 => (if a2 = 0 then (f_X9_ruling_b167  M6 a2 a4 x7 a4 1) else (f_X9_ruling_b167  M6 a2 a4 x7 a4 0)))) else (rRet 0 M4))))
def f_X9_ruling_b103  (M : gM) (a1 : Int32) (a2 : Int32) (a3 : Int32) (a4 : Int32) (a5 : Int32) (t0 : Int32) : gR := (if a3 = 0 then (f_X9_ruling_b133  M a1 a2 a4 1) else (if a5 = 0 then (f_X9_ruling_b133  M a1 a2 a4 2) else (if t0 = 0 then (f_X9_ruling_b133  M a1 a2 a4 3) else (f_X9_ruling_b133  M a1 a2 a4 0))))
def f_X9_ruling_b98  (M : gM) (a1 : Int32) (a2 : Int32) (a3 : Int32) (a4 : Int32) (a5 : Int32)  : gR := (f_X9_ruling_b103  M a1 a2 a3 a4 a5 1)
def f_X9_ruling_b102  (M : gM) (a1 : Int32) (a2 : Int32) (a3 : Int32) (a4 : Int32) (a5 : Int32)  : gR := (f_X9_ruling_b103  M a1 a2 a3 a4 a5 0)
def f_X9_ruling_b47  (M : gM) (a1 : Int32) (a2 : Int32) (a3 : Int32) (a4 : Int32) (t0 : Int32) : gR := (if a3 = 0 then (f_X9_ruling_b102  M a1 a2 a3 a4 t0 ) else (rb (f_X9_hasRoom M ) (fun x9 M8 => (if x9 = 0 then (f_X9_ruling_b102  M8 a1 a2 a3 a4 t0 ) else (rb (f_X9_isOpen M8 a1) (fun x11 M10 => (if x11 = 0 then (f_X9_ruling_b102  M10 a1 a2 a3 a4 t0 ) else (gI a4 24 (if (M10 112 a4.toNatClampNeg) = 0 then (rb (f_X9_isResponded M10 a1) (fun x13 M12 => (if x13 = 0 then (rb (f_X9_responseDue M12 a1) (fun x15 M14 => (rb (f_X9_isBehind M14 x15) (fun x17 M16 => (if x17 = 0 then (f_X9_ruling_b102  M16 a1 a2 a3 a4 t0 ) else (f_X9_ruling_b98  M16 a1 a2 a3 a4 t0 )))))) else (f_X9_ruling_b98  M12 a1 a2 a3 a4 t0 )))) else (f_X9_ruling_b102  M10 a1 a2 a3 a4 t0 ))))))))))
def f_X9_ruling_b46  (M : gM) (a1 : Int32) (a2 : Int32) (a3 : Int32) (a4 : Int32)  : gR := (f_X9_ruling_b47  M a1 a2 a3 a4 0)
def f_X9_ruling_b20  (M : gM) (a1 : Int32) (a2 : Int32) (a3 : Int32) (t0 : Int32) : gR := (if a3 = 0 then (f_X9_ruling_b46  M a1 a2 a3 t0 ) else (if a2 < (-1) then (f_X9_ruling_b46  M a1 a2 a3 t0 ) else (gI t0 24 (if (M 113 t0.toNatClampNeg) ≤ a2 then (f_X9_ruling_b46  M a1 a2 a3 t0 ) else (f_X9_ruling_b47  M a1 a2 a3 t0 1)))))
def f_X9_ruling (M : gM) (a1 : Int32) (a2 : Int32) : gR := (rb (f_X9_isMotion M a1) (fun x19 M18 => (if x19 = 0 then (f_X9_ruling_b20  M18 a1 a2 x19 0) else (gI a1 160 (f_X9_ruling_b20  M18 a1 a2 x19 (M18 122 a1.toNatClampNeg))))))
abbrev rm_X9_ruling : Room := { frames := 6, cells := 0, slots := 0, locals := 137 }
set_option maxRecDepth 20000 in
set_option maxHeartbeats 4000000 in
theorem g_X9_ruling_b167 {p : Program} {l : Launch} {e : Env} {s : State} {m : MethodId} {args : Array Value} {below : List Frame} {meth : Method} {c : Code} {Z : gZ} (hC : gC p l s m args meth c cX9_ruling 8 RX9 (some .int) Z)   (M : gM) (a2 : Int32) (a4 : Int32) (a7 : Int32) (t1 : Int32) (t2 : Int32) : gW p l e rm_X9_ruling s m args below meth c 8 Z 1 0 0 M 167 [(0, .ref (zad Z 9)), (2, .int a2), (4, .int a4), (7, .int a7)] [.int t2, .int t1, .ref (zad Z 112)] (f_X9_ruling_b167  M a2 a4 a7 t1 t2) := by
  unfold f_X9_ruling_b167
  refine g_iast hC 112 (by decide) rfl dX9_ruling_167 (fun M1 => ?_)
  refine g_aload_n hC 0 dX9_ruling_168 rfl rfl ?_
  refine gf_X9_44 hC dX9_ruling_169 ?_
  refine g_iload hC 2 dX9_ruling_172 rfl ?_
  refine g_iload_n hC 1 dX9_ruling_174 rfl rfl ?_
  refine g_if_le (tgt := 182) hC dX9_ruling_175 (by decide) (fun _ => ?_) (fun _ => ?_)
  · refine g_aload_n hC 0 dX9_ruling_182 rfl rfl ?_
    refine gf_X9_44 hC dX9_ruling_183 ?_
    refine g_iload hC 2 dX9_ruling_186 rfl ?_
    refine g_iald hC 113 (by decide) rfl dX9_ruling_188 ?_
    refine g_iast hC 113 (by decide) rfl dX9_ruling_189 (fun M2 => ?_)
    refine g_iload hC 3 dX9_ruling_190 rfl ?_
    exact g_iret hC rfl (by decide) dX9_ruling_192
  · refine g_iload_n hC 1 dX9_ruling_178 rfl rfl ?_
    refine g_goto (tgt := 189) hC dX9_ruling_179 (by decide) ?_
    refine g_iast hC 113 (by decide) rfl dX9_ruling_189 (fun M3 => ?_)
    refine g_iload hC 3 dX9_ruling_190 rfl ?_
    exact g_iret hC rfl (by decide) dX9_ruling_192
set_option maxRecDepth 20000 in
set_option maxHeartbeats 4000000 in
theorem g_X9_ruling_b133 {p : Program} {l : Launch} {e : Env} {s : State} {m : MethodId} {args : Array Value} {below : List Frame} {meth : Method} {c : Code} {Z : gZ} (hC : gC p l s m args meth c cX9_ruling 8 RX9 (some .int) Z)   (M : gM) (a1 : Int32) (a2 : Int32) (a4 : Int32) (t1 : Int32) : gW p l e rm_X9_ruling s m args below meth c 8 Z 1 0 0 M 133 [(0, .ref (zad Z 9)), (1, .int a1), (2, .int a2), (4, .int a4)] [.int t1, .ref (zad Z 9)] (f_X9_ruling_b133  M a1 a2 a4 t1) := by
  unfold f_X9_ruling_b133
  refine g_callVi (n := 1) hC [.int t1] 9 9 (by decide) rfl rfl (fun hne => c_X9_refused hC.2.2.2.2.2.2.2.1 Z M t1 hne) lk_X9_155 mw_X9_refused.1 mw_X9_refused.2.1 mw_X9_refused.2.2.1 mw_X9_refused.2.2.2 ⟨rfl, by decide, by decide, by decide +kernel⟩ rfl rfl ⟨by decide, by decide⟩ rfl rfl (Nat.le_of_ble_eq_true rfl) (by decide) (by decide) (by decide) dX9_ruling_133 (fun x5 M4 => ?_)
  refine g_if_eq (tgt := 141) hC dX9_ruling_136 (by decide) (fun _ => ?_) (fun _ => ?_)
  · refine g_aload_n hC 0 dX9_ruling_141 rfl rfl ?_
    refine g_iconst hC (v := 4) dX9_ruling_142 (by decide) ?_
    refine g_iload hC 3 dX9_ruling_143 rfl ?_
    refine g_iload_n hC 2 dX9_ruling_145 rfl rfl ?_
    refine g_iload_n hC 1 dX9_ruling_146 rfl rfl ?_
    refine g_callVi (n := 4) hC [.int 4, .int a4, .int a2, .int a1] 9 9 (by decide) rfl rfl (fun hne => c_X9_enter hC.2.2.2.2.2.2.2.1 Z M4 4 a4 a2 a1 hne) lk_X9_237 mw_X9_enter.1 mw_X9_enter.2.1 mw_X9_enter.2.2.1 mw_X9_enter.2.2.2 ⟨rfl, by decide, by decide, by decide +kernel⟩ rfl rfl ⟨by decide, by decide⟩ rfl rfl (Nat.le_of_ble_eq_true rfl) (by decide) (by decide) (by decide) dX9_ruling_147 (fun x7 M6 => ?_)
    refine g_istore hC (lv1 := [(7, .int x7), (0, .ref (zad Z 9)), (1, .int a1), (2, .int a2), (4, .int a4)]) dX9_ruling_150 (by decide) rfl ?_
    refine g_aload_n hC 1 dX9_ruling_152 rfl rfl ?_
    refine gf_X9_41 hC dX9_ruling_153 ?_
    refine g_iload hC 4 dX9_ruling_156 rfl ?_
    refine g_iload_n hC 3 dX9_ruling_158 rfl rfl ?_
    refine g_if_ne (tgt := 166) hC dX9_ruling_159 (by decide) (fun _ => ?_) (fun _ => ?_)
    · refine g_iconst hC (v := 1) dX9_ruling_162 (by decide) ?_
      refine g_goto (tgt := 167) hC dX9_ruling_163 (by decide) ?_
      refine g_sub (lv1 := [(0, .ref (zad Z 9)), (2, .int a2), (4, .int a4), (7, .int x7)]) [1, 3, 4, 0] rfl ?_
      exact g_X9_ruling_b167 hC  M6 a2 a4 x7 a4 1
    · refine g_iconst hC (v := 0) dX9_ruling_166 (by decide) ?_
      refine g_sub (lv1 := [(0, .ref (zad Z 9)), (2, .int a2), (4, .int a4), (7, .int x7)]) [1, 3, 4, 0] rfl ?_
      exact g_X9_ruling_b167 hC  M6 a2 a4 x7 a4 0
  · refine g_iconst hC (v := 0) dX9_ruling_139 (by decide) ?_
    exact g_iret hC rfl (by decide) dX9_ruling_140
set_option maxRecDepth 20000 in
set_option maxHeartbeats 4000000 in
theorem g_X9_ruling_b103 {p : Program} {l : Launch} {e : Env} {s : State} {m : MethodId} {args : Array Value} {below : List Frame} {meth : Method} {c : Code} {Z : gZ} (hC : gC p l s m args meth c cX9_ruling 8 RX9 (some .int) Z)   (M : gM) (a1 : Int32) (a2 : Int32) (a3 : Int32) (a4 : Int32) (a5 : Int32) (t0 : Int32) : gW p l e rm_X9_ruling s m args below meth c 8 Z 1 0 0 M 103 [(0, .ref (zad Z 9)), (1, .int a1), (2, .int a2), (3, .int a3), (4, .int a4), (5, .int a5)] [.int t0] (f_X9_ruling_b103  M a1 a2 a3 a4 a5 t0) := by
  unfold f_X9_ruling_b103
  refine g_istore hC (lv1 := [(6, .int t0), (0, .ref (zad Z 9)), (1, .int a1), (2, .int a2), (3, .int a3), (4, .int a4), (5, .int a5)]) dX9_ruling_103 (by decide) rfl ?_
  refine g_aload_n hC 1 dX9_ruling_105 rfl rfl ?_
  refine g_iload_n hC 4 dX9_ruling_106 rfl rfl ?_
  refine g_if_ne (tgt := 114) hC dX9_ruling_107 (by decide) (fun _ => ?_) (fun _ => ?_)
  · refine g_iconst hC (v := 1) dX9_ruling_110 (by decide) ?_
    refine g_goto (tgt := 133) hC dX9_ruling_111 (by decide) ?_
    refine g_sub (lv1 := [(0, .ref (zad Z 9)), (1, .int a1), (2, .int a2), (4, .int a4)]) [1, 2, 3, 5] rfl ?_
    exact g_X9_ruling_b133 hC  M a1 a2 a4 1
  · refine g_iload hC 6 dX9_ruling_114 rfl ?_
    refine g_if_ne (tgt := 123) hC dX9_ruling_116 (by decide) (fun _ => ?_) (fun _ => ?_)
    · refine g_iconst hC (v := 2) dX9_ruling_119 (by decide) ?_
      refine g_goto (tgt := 133) hC dX9_ruling_120 (by decide) ?_
      refine g_sub (lv1 := [(0, .ref (zad Z 9)), (1, .int a1), (2, .int a2), (4, .int a4)]) [1, 2, 3, 5] rfl ?_
      exact g_X9_ruling_b133 hC  M a1 a2 a4 2
    · refine g_iload hC 0 dX9_ruling_123 rfl ?_
      refine g_if_ne (tgt := 132) hC dX9_ruling_125 (by decide) (fun _ => ?_) (fun _ => ?_)
      · refine g_iconst hC (v := 3) dX9_ruling_128 (by decide) ?_
        refine g_goto (tgt := 133) hC dX9_ruling_129 (by decide) ?_
        refine g_sub (lv1 := [(0, .ref (zad Z 9)), (1, .int a1), (2, .int a2), (4, .int a4)]) [1, 2, 3, 5] rfl ?_
        exact g_X9_ruling_b133 hC  M a1 a2 a4 3
      · refine g_iconst hC (v := 0) dX9_ruling_132 (by decide) ?_
        refine g_sub (lv1 := [(0, .ref (zad Z 9)), (1, .int a1), (2, .int a2), (4, .int a4)]) [1, 2, 3, 5] rfl ?_
        exact g_X9_ruling_b133 hC  M a1 a2 a4 0
set_option maxRecDepth 20000 in
set_option maxHeartbeats 4000000 in
theorem g_X9_ruling_b98 {p : Program} {l : Launch} {e : Env} {s : State} {m : MethodId} {args : Array Value} {below : List Frame} {meth : Method} {c : Code} {Z : gZ} (hC : gC p l s m args meth c cX9_ruling 8 RX9 (some .int) Z)   (M : gM) (a1 : Int32) (a2 : Int32) (a3 : Int32) (a4 : Int32) (a5 : Int32)  : gW p l e rm_X9_ruling s m args below meth c 8 Z 1 0 0 M 98 [(0, .ref (zad Z 9)), (1, .int a1), (2, .int a2), (3, .int a3), (4, .int a4), (5, .int a5)] [] (f_X9_ruling_b98  M a1 a2 a3 a4 a5 ) := by
  unfold f_X9_ruling_b98
  refine g_iconst hC (v := 1) dX9_ruling_98 (by decide) ?_
  refine g_goto (tgt := 103) hC dX9_ruling_99 (by decide) ?_
  exact g_X9_ruling_b103 hC  M a1 a2 a3 a4 a5 1
set_option maxRecDepth 20000 in
set_option maxHeartbeats 4000000 in
theorem g_X9_ruling_b102 {p : Program} {l : Launch} {e : Env} {s : State} {m : MethodId} {args : Array Value} {below : List Frame} {meth : Method} {c : Code} {Z : gZ} (hC : gC p l s m args meth c cX9_ruling 8 RX9 (some .int) Z)   (M : gM) (a1 : Int32) (a2 : Int32) (a3 : Int32) (a4 : Int32) (a5 : Int32)  : gW p l e rm_X9_ruling s m args below meth c 8 Z 1 0 0 M 102 [(0, .ref (zad Z 9)), (1, .int a1), (2, .int a2), (3, .int a3), (4, .int a4), (5, .int a5)] [] (f_X9_ruling_b102  M a1 a2 a3 a4 a5 ) := by
  unfold f_X9_ruling_b102
  refine g_iconst hC (v := 0) dX9_ruling_102 (by decide) ?_
  exact g_X9_ruling_b103 hC  M a1 a2 a3 a4 a5 0
set_option maxRecDepth 20000 in
set_option maxHeartbeats 4000000 in
theorem g_X9_ruling_b47 {p : Program} {l : Launch} {e : Env} {s : State} {m : MethodId} {args : Array Value} {below : List Frame} {meth : Method} {c : Code} {Z : gZ} (hC : gC p l s m args meth c cX9_ruling 8 RX9 (some .int) Z)   (M : gM) (a1 : Int32) (a2 : Int32) (a3 : Int32) (a4 : Int32) (t0 : Int32) : gW p l e rm_X9_ruling s m args below meth c 8 Z 1 0 0 M 47 [(0, .ref (zad Z 9)), (1, .int a1), (2, .int a2), (3, .int a3), (4, .int a4)] [.int t0] (f_X9_ruling_b47  M a1 a2 a3 a4 t0) := by
  unfold f_X9_ruling_b47
  refine g_istore hC (lv1 := [(5, .int t0), (0, .ref (zad Z 9)), (1, .int a1), (2, .int a2), (3, .int a3), (4, .int a4)]) dX9_ruling_47 (by decide) rfl ?_
  refine g_iload_n hC 4 dX9_ruling_49 rfl rfl ?_
  refine g_if_eq (tgt := 102) hC dX9_ruling_50 (by decide) (fun _ => ?_) (fun _ => ?_)
  · refine g_sub (lv1 := [(0, .ref (zad Z 9)), (1, .int a1), (2, .int a2), (3, .int a3), (4, .int a4), (5, .int t0)]) [1, 2, 3, 4, 5, 0] rfl ?_
    exact g_X9_ruling_b102 hC  M a1 a2 a3 a4 t0 
  · refine g_aload_n hC 1 dX9_ruling_53 rfl rfl ?_
    refine g_callVi (n := 0) hC [] 9 9 (by decide) rfl rfl (fun hne => c_X9_hasRoom hC.2.2.2.2.2.2.2.1 Z M  hne) lk_X9_233 mw_X9_hasRoom.1 mw_X9_hasRoom.2.1 mw_X9_hasRoom.2.2.1 mw_X9_hasRoom.2.2.2 ⟨rfl, by decide, by decide, by decide +kernel⟩ rfl rfl ⟨by decide, by decide⟩ rfl rfl (Nat.le_of_ble_eq_true rfl) (by decide) (by decide) (by decide) dX9_ruling_54 (fun x9 M8 => ?_)
    refine g_if_eq (tgt := 102) hC dX9_ruling_57 (by decide) (fun _ => ?_) (fun _ => ?_)
    · refine g_sub (lv1 := [(0, .ref (zad Z 9)), (1, .int a1), (2, .int a2), (3, .int a3), (4, .int a4), (5, .int t0)]) [1, 2, 3, 4, 5, 0] rfl ?_
      exact g_X9_ruling_b102 hC  M8 a1 a2 a3 a4 t0 
    · refine g_aload_n hC 1 dX9_ruling_60 rfl rfl ?_
      refine g_iload_n hC 2 dX9_ruling_61 rfl rfl ?_
      refine g_callVi (n := 1) hC [.int a1] 9 9 (by decide) rfl rfl (fun hne => c_X9_isOpen hC.2.2.2.2.2.2.2.1 Z M8 a1 hne) lk_X9_217 mw_X9_isOpen.1 mw_X9_isOpen.2.1 mw_X9_isOpen.2.2.1 mw_X9_isOpen.2.2.2 ⟨rfl, by decide, by decide, by decide +kernel⟩ rfl rfl ⟨by decide, by decide⟩ rfl rfl (Nat.le_of_ble_eq_true rfl) (by decide) (by decide) (by decide) dX9_ruling_62 (fun x11 M10 => ?_)
      refine g_if_eq (tgt := 102) hC dX9_ruling_65 (by decide) (fun _ => ?_) (fun _ => ?_)
      · refine g_sub (lv1 := [(0, .ref (zad Z 9)), (1, .int a1), (2, .int a2), (3, .int a3), (4, .int a4), (5, .int t0)]) [1, 2, 3, 4, 5, 0] rfl ?_
        exact g_X9_ruling_b102 hC  M10 a1 a2 a3 a4 t0 
      · refine g_aload_n hC 1 dX9_ruling_68 rfl rfl ?_
        refine gf_X9_41 hC dX9_ruling_69 ?_
        refine g_iload hC 5 dX9_ruling_72 rfl ?_
        refine g_iald hC 112 (by decide) rfl dX9_ruling_74 ?_
        refine g_if_ne (tgt := 102) hC dX9_ruling_75 (by decide) (fun _ => ?_) (fun _ => ?_)
        · refine g_aload_n hC 1 dX9_ruling_78 rfl rfl ?_
          refine g_iload_n hC 2 dX9_ruling_79 rfl rfl ?_
          refine g_callVi (n := 1) hC [.int a1] 9 9 (by decide) rfl rfl (fun hne => c_X9_isResponded hC.2.2.2.2.2.2.2.1 Z M10 a1 hne) lk_X9_253 mw_X9_isResponded.1 mw_X9_isResponded.2.1 mw_X9_isResponded.2.2.1 mw_X9_isResponded.2.2.2 ⟨rfl, by decide, by decide, by decide +kernel⟩ rfl rfl ⟨by decide, by decide⟩ rfl rfl (Nat.le_of_ble_eq_true rfl) (by decide) (by decide) (by decide) dX9_ruling_80 (fun x13 M12 => ?_)
          refine g_if_ne (tgt := 98) hC dX9_ruling_83 (by decide) (fun _ => ?_) (fun _ => ?_)
          · refine g_aload_n hC 1 dX9_ruling_86 rfl rfl ?_
            refine g_aload_n hC 1 dX9_ruling_87 rfl rfl ?_
            refine g_iload_n hC 2 dX9_ruling_88 rfl rfl ?_
            refine g_callVi (n := 1) hC [.int a1] 9 9 (by decide) rfl rfl (fun hne => c_X9_responseDue hC.2.2.2.2.2.2.2.1 Z M12 a1 hne) lk_X9_256 mw_X9_responseDue.1 mw_X9_responseDue.2.1 mw_X9_responseDue.2.2.1 mw_X9_responseDue.2.2.2 ⟨rfl, by decide, by decide, by decide +kernel⟩ rfl rfl ⟨by decide, by decide⟩ rfl rfl (Nat.le_of_ble_eq_true rfl) (by decide) (by decide) (by decide) dX9_ruling_89 (fun x15 M14 => ?_)
            refine g_callVi (n := 1) hC [.int x15] 9 9 (by decide) rfl rfl (fun hne => c_X9_isBehind hC.2.2.2.2.2.2.2.1 Z M14 x15 hne) lk_X9_207 mw_X9_isBehind.1 mw_X9_isBehind.2.1 mw_X9_isBehind.2.2.1 mw_X9_isBehind.2.2.2 ⟨rfl, by decide, by decide, by decide +kernel⟩ rfl rfl ⟨by decide, by decide⟩ rfl rfl (Nat.le_of_ble_eq_true rfl) (by decide) (by decide) (by decide) dX9_ruling_92 (fun x17 M16 => ?_)
            refine g_if_eq (tgt := 102) hC dX9_ruling_95 (by decide) (fun _ => ?_) (fun _ => ?_)
            · refine g_sub (lv1 := [(0, .ref (zad Z 9)), (1, .int a1), (2, .int a2), (3, .int a3), (4, .int a4), (5, .int t0)]) [1, 2, 3, 4, 5, 0] rfl ?_
              exact g_X9_ruling_b102 hC  M16 a1 a2 a3 a4 t0 
            · refine g_sub (lv1 := [(0, .ref (zad Z 9)), (1, .int a1), (2, .int a2), (3, .int a3), (4, .int a4), (5, .int t0)]) [1, 2, 3, 4, 5, 0] rfl ?_
              exact g_X9_ruling_b98 hC  M16 a1 a2 a3 a4 t0 
          · refine g_sub (lv1 := [(0, .ref (zad Z 9)), (1, .int a1), (2, .int a2), (3, .int a3), (4, .int a4), (5, .int t0)]) [1, 2, 3, 4, 5, 0] rfl ?_
            exact g_X9_ruling_b98 hC  M12 a1 a2 a3 a4 t0 
        · refine g_sub (lv1 := [(0, .ref (zad Z 9)), (1, .int a1), (2, .int a2), (3, .int a3), (4, .int a4), (5, .int t0)]) [1, 2, 3, 4, 5, 0] rfl ?_
          exact g_X9_ruling_b102 hC  M10 a1 a2 a3 a4 t0 
set_option maxRecDepth 20000 in
set_option maxHeartbeats 4000000 in
theorem g_X9_ruling_b46 {p : Program} {l : Launch} {e : Env} {s : State} {m : MethodId} {args : Array Value} {below : List Frame} {meth : Method} {c : Code} {Z : gZ} (hC : gC p l s m args meth c cX9_ruling 8 RX9 (some .int) Z)   (M : gM) (a1 : Int32) (a2 : Int32) (a3 : Int32) (a4 : Int32)  : gW p l e rm_X9_ruling s m args below meth c 8 Z 1 0 0 M 46 [(0, .ref (zad Z 9)), (1, .int a1), (2, .int a2), (3, .int a3), (4, .int a4)] [] (f_X9_ruling_b46  M a1 a2 a3 a4 ) := by
  unfold f_X9_ruling_b46
  refine g_iconst hC (v := 0) dX9_ruling_46 (by decide) ?_
  exact g_X9_ruling_b47 hC  M a1 a2 a3 a4 0
set_option maxRecDepth 20000 in
set_option maxHeartbeats 4000000 in
theorem g_X9_ruling_b20 {p : Program} {l : Launch} {e : Env} {s : State} {m : MethodId} {args : Array Value} {below : List Frame} {meth : Method} {c : Code} {Z : gZ} (hC : gC p l s m args meth c cX9_ruling 8 RX9 (some .int) Z)   (M : gM) (a1 : Int32) (a2 : Int32) (a3 : Int32) (t0 : Int32) : gW p l e rm_X9_ruling s m args below meth c 8 Z 1 0 0 M 20 [(0, .ref (zad Z 9)), (1, .int a1), (2, .int a2), (3, .int a3)] [.int t0] (f_X9_ruling_b20  M a1 a2 a3 t0) := by
  unfold f_X9_ruling_b20
  refine g_istore hC (lv1 := [(4, .int t0), (0, .ref (zad Z 9)), (1, .int a1), (2, .int a2), (3, .int a3)]) dX9_ruling_20 (by decide) rfl ?_
  refine g_iload_n hC 4 dX9_ruling_22 rfl rfl ?_
  refine g_if_eq (tgt := 46) hC dX9_ruling_23 (by decide) (fun _ => ?_) (fun _ => ?_)
  · refine g_sub (lv1 := [(0, .ref (zad Z 9)), (1, .int a1), (2, .int a2), (3, .int a3), (4, .int t0)]) [1, 2, 3, 4, 0] rfl ?_
    exact g_X9_ruling_b46 hC  M a1 a2 a3 t0 
  · refine g_iload_n hC 3 dX9_ruling_26 rfl rfl ?_
    refine g_iconst hC (v := (-1)) dX9_ruling_27 (by decide) ?_
    refine g_icmp_lt (tgt := 46) hC dX9_ruling_28 (by decide) (fun _ => ?_) (fun _ => ?_)
    · refine g_sub (lv1 := [(0, .ref (zad Z 9)), (1, .int a1), (2, .int a2), (3, .int a3), (4, .int t0)]) [1, 2, 3, 4, 0] rfl ?_
      exact g_X9_ruling_b46 hC  M a1 a2 a3 t0 
    · refine g_iload_n hC 3 dX9_ruling_31 rfl rfl ?_
      refine g_aload_n hC 1 dX9_ruling_32 rfl rfl ?_
      refine gf_X9_44 hC dX9_ruling_33 ?_
      refine g_iload hC 0 dX9_ruling_36 rfl ?_
      refine g_iald hC 113 (by decide) rfl dX9_ruling_38 ?_
      refine g_icmp_ge (tgt := 46) hC dX9_ruling_39 (by decide) (fun _ => ?_) (fun _ => ?_)
      · refine g_sub (lv1 := [(0, .ref (zad Z 9)), (1, .int a1), (2, .int a2), (3, .int a3), (4, .int t0)]) [1, 2, 3, 4, 0] rfl ?_
        exact g_X9_ruling_b46 hC  M a1 a2 a3 t0 
      · refine g_iconst hC (v := 1) dX9_ruling_42 (by decide) ?_
        refine g_goto (tgt := 47) hC dX9_ruling_43 (by decide) ?_
        refine g_sub (lv1 := [(0, .ref (zad Z 9)), (1, .int a1), (2, .int a2), (3, .int a3), (4, .int t0)]) [1, 2, 3, 4, 0] rfl ?_
        exact g_X9_ruling_b47 hC  M a1 a2 a3 t0 1
set_option maxRecDepth 20000 in
set_option maxHeartbeats 4000000 in
theorem c_X9_ruling {l : Launch} (hfl : l.stackTraces = false) (Z : gZ) (M : gM) (a1 : Int32) (a2 : Int32) : gMet l yX9_ruling cX9_ruling 8 (some .int) rm_X9_ruling 1 0 Z M [.ref (zad Z 9), .int a1, .int a2] (f_X9_ruling M a1 a2) := by
  refine g_enter hfl (by decide) (Nat.le_of_ble_eq_true rfl) (fun p e s m args below meth c hC => ?_)
  refine g_eq (F := f_X9_ruling M a1 a2) rfl ?_
  refine g_lv0 (lv1 := [(0, .ref (zad Z 9)), (1, .int a1), (2, .int a2)]) rfl ?_
  unfold f_X9_ruling
  refine g_aload_n hC 0 dX9_ruling_0 rfl rfl ?_
  refine g_iload_n hC 1 dX9_ruling_1 rfl rfl ?_
  refine g_callVi (n := 1) hC [.int a1] 9 9 (by decide) rfl rfl (fun hne => c_X9_isMotion hC.2.2.2.2.2.2.2.1 Z M a1 hne) lk_X9_250 mw_X9_isMotion.1 mw_X9_isMotion.2.1 mw_X9_isMotion.2.2.1 mw_X9_isMotion.2.2.2 ⟨rfl, by decide, by decide, by decide +kernel⟩ rfl rfl ⟨by decide, by decide⟩ rfl rfl (Nat.le_of_ble_eq_true rfl) (by decide) (by decide) (by decide) dX9_ruling_2 (fun x19 M18 => ?_)
  refine g_istore_n hC (lv1 := [(3, .int x19), (0, .ref (zad Z 9)), (1, .int a1), (2, .int a2)]) dX9_ruling_5 rfl (by decide) rfl ?_
  refine g_iload_n hC 0 dX9_ruling_6 rfl rfl ?_
  refine g_if_eq (tgt := 19) hC dX9_ruling_7 (by decide) (fun _ => ?_) (fun _ => ?_)
  · refine g_iconst hC (v := 0) dX9_ruling_19 (by decide) ?_
    refine g_sub (lv1 := [(0, .ref (zad Z 9)), (1, .int a1), (2, .int a2), (3, .int x19)]) [1, 2, 3, 0] rfl ?_
    exact g_X9_ruling_b20 hC  M18 a1 a2 x19 0
  · refine g_aload_n hC 1 dX9_ruling_10 rfl rfl ?_
    refine gf_X9_71 hC dX9_ruling_11 ?_
    refine g_iload_n hC 2 dX9_ruling_14 rfl rfl ?_
    refine g_iald hC 122 (by decide) rfl dX9_ruling_15 ?_
    refine g_goto (tgt := 20) hC dX9_ruling_16 (by decide) ?_
    refine g_sub (lv1 := [(0, .ref (zad Z 9)), (1, .int a1), (2, .int a2), (3, .int x19)]) [1, 2, 3, 0] rfl ?_
    exact g_X9_ruling_b20 hC  M18 a1 a2 x19 (M18 122 a1.toNatClampNeg)

-- ===== X9_judge =====
def f_X9_judge_b265  (M : gM) (a1 : Int32) (a7 : Int32) (a8 : Int32) (t1 : Int32) (t2 : Int32) : gR := (gI t1 24 (bM (gset M 112 t1.toNatClampNeg t2) (fun M1 => (if a7 = 0 then (gI a1 24 (gI a1 24 (bM (gset M1 113 a1.toNatClampNeg (M1 113 a1.toNatClampNeg)) (fun M2 => (rRet a8 M2))))) else (gI a1 24 (bM (gset M1 113 a1.toNatClampNeg a7) (fun M3 => (rRet a8 M3))))))))
def f_X9_judge_b231  (M : gM) (a1 : Int32) (a7 : Int32) (t1 : Int32) : gR := (rb (f_X9_refused M t1) (fun x5 M4 => (if x5 = 0 then (rb (f_X9_enter M4 5 a1 a7 0) (fun x7 M6 => (if a7 = 0 then (f_X9_judge_b265  M6 a1 a7 x7 a1 1) else (f_X9_judge_b265  M6 a1 a7 x7 a1 2)))) else (rRet 0 M4))))
def f_X9_judge_b203  (M : gM) (a1 : Int32) (a3 : Int32) (a4 : Int32) (a5 : Int32) (a7 : Int32)  : gR := (if a3 = 0 then (f_X9_judge_b231  M a1 a7 1) else (if a4 = 0 then (f_X9_judge_b231  M a1 a7 2) else (if a5 = 0 then (f_X9_judge_b231  M a1 a7 3) else (f_X9_judge_b231  M a1 a7 0))))
def f_X9_judge_b166  (M : gM) (a1 : Int32) (a3 : Int32) (a4 : Int32) (a5 : Int32) (t0 : Int32) : gR := (f_X9_judge_b203  M a1 a3 a4 a5 t0 )
def f_X9_judge_b160  (M : gM) (a1 : Int32) (a3 : Int32) (a4 : Int32) (a5 : Int32)  : gR := (gI a1 24 (f_X9_judge_b166  M a1 a3 a4 a5 (M 113 a1.toNatClampNeg)))
def f_X9_judge_b136  (M : gM) (a1 : Int32) (a3 : Int32) (a4 : Int32) (a6 : Int32) (t0 : Int32) : gR := (if a6 = (-1) then (f_X9_judge_b160  M a1 a3 a4 t0 ) else (gI a1 24 (if (M 113 a1.toNatClampNeg) ≤ a6 then (f_X9_judge_b160  M a1 a3 a4 t0 ) else (f_X9_judge_b166  M a1 a3 a4 t0 a6))))
def f_X9_judge_b135  (M : gM) (a1 : Int32) (a3 : Int32) (a4 : Int32) (a6 : Int32)  : gR := (f_X9_judge_b136  M a1 a3 a4 a6 0)
def f_X9_judge_b201  (M : gM) (a1 : Int32) (a3 : Int32) (a4 : Int32) (a7 : Int32) (t0 : Int32) : gR := (f_X9_judge_b203  M a1 a3 a4 t0 a7 )
def f_X9_judge_b196  (M : gM) (a1 : Int32) (a3 : Int32) (a4 : Int32) (a7 : Int32)  : gR := (f_X9_judge_b201  M a1 a3 a4 a7 1)
def f_X9_judge_b200  (M : gM) (a1 : Int32) (a3 : Int32) (a4 : Int32) (a7 : Int32)  : gR := (f_X9_judge_b201  M a1 a3 a4 a7 0)
def f_X9_judge_b171  (M : gM) (a1 : Int32) (a2 : Int32) (a3 : Int32) (a4 : Int32) (a5 : Int32) (a6 : Int32) (a7 : Int32)  : gR := (if a5 = 0 then (f_X9_judge_b203  M a1 a3 a4 a5 a7 ) else (rb (f_X9_answered M a1) (fun x9 M8 => (if x9 = 0 then (f_X9_judge_b200  M8 a1 a3 a4 a7 ) else (if a6 = (-1) then (f_X9_judge_b196  M8 a1 a3 a4 a7 ) else (if a6 < a2 then (f_X9_judge_b200  M8 a1 a3 a4 a7 ) else (f_X9_judge_b196  M8 a1 a3 a4 a7 )))))))
def f_X9_judge_b73  (M : gM) (a1 : Int32) (a2 : Int32) (a3 : Int32) (a4 : Int32) (a5 : Int32) (t0 : Int32) : gR := (if a2 = (-1) then (if a5 = 0 then (f_X9_judge_b171  M a1 a2 a3 a4 a5 t0 a2 ) else (rb (f_X9_latest M a1 0) (fun x11 M10 => (if x11 = (-1) then (f_X9_judge_b135  M10 a1 a3 a4 t0 ) else (rb (f_X9_answered M10 a1) (fun x13 M12 => (if x13 = 0 then (rb (f_X9_hasOpenMotion M12 a1) (fun x15 M14 => (if x15 = 0 then (rb (f_X9_answerDue M14 a1) (fun x17 M16 => (rb (f_X9_isBehind M16 x17) (fun x19 M18 => (if x19 = 0 then (f_X9_judge_b135  M18 a1 a3 a4 t0 ) else (if t0 = 0 then (f_X9_judge_b135  M18 a1 a3 a4 t0 ) else (f_X9_judge_b136  M18 a1 a3 a4 t0 1))))))) else (f_X9_judge_b135  M14 a1 a3 a4 t0 )))) else (f_X9_judge_b135  M12 a1 a3 a4 t0 )))))))) else (f_X9_judge_b171  M a1 a2 a3 a4 a5 t0 a2 ))
def f_X9_judge_b57  (M : gM) (a1 : Int32) (a2 : Int32) (a3 : Int32) (a4 : Int32) (t0 : Int32) : gR := (if a3 = 0 then (f_X9_judge_b73  M a1 a2 a3 a4 t0 (-1)) else (gI a1 24 (f_X9_judge_b73  M a1 a2 a3 a4 t0 (M 114 a1.toNatClampNeg))))
def f_X9_judge_b56  (M : gM) (a1 : Int32) (a2 : Int32) (a3 : Int32) (a4 : Int32)  : gR := (f_X9_judge_b57  M a1 a2 a3 a4 0)
def f_X9_judge_b29  (M : gM) (a1 : Int32) (a2 : Int32) (a3 : Int32) (t0 : Int32) : gR := (if t0 = 0 then (f_X9_judge_b56  M a1 a2 a3 t0 ) else (rb (f_X9_hasRoom M ) (fun x21 M20 => (if x21 = 0 then (f_X9_judge_b56  M20 a1 a2 a3 t0 ) else (gI a1 24 (if (M20 112 a1.toNatClampNeg) = 0 then (f_X9_judge_b57  M20 a1 a2 a3 t0 1) else (f_X9_judge_b56  M20 a1 a2 a3 t0 )))))))
def f_X9_judge_b28  (M : gM) (a1 : Int32) (a2 : Int32) (a3 : Int32)  : gR := (f_X9_judge_b29  M a1 a2 a3 0)
def f_X9_judge (M : gM) (a1 : Int32) (a2 : Int32) : gR := (rb (f_X9_isClaim M a1) (fun x23 M22 => (if x23 = 0 then (f_X9_judge_b28  M22 a1 a2 x23 ) else (gI a1 24 (rb (f_X9_within M22 a2 (-1) (M22 113 a1.toNatClampNeg)) (fun x25 M24 => (if x25 = 0 then (f_X9_judge_b28  M24 a1 a2 x23 ) else (f_X9_judge_b29  M24 a1 a2 x23 1))))))))
abbrev rm_X9_judge : Room := { frames := 8, cells := 0, slots := 0, locals := 184 }
set_option maxRecDepth 20000 in
set_option maxHeartbeats 4000000 in
theorem g_X9_judge_b265 {p : Program} {l : Launch} {e : Env} {s : State} {m : MethodId} {args : Array Value} {below : List Frame} {meth : Method} {c : Code} {Z : gZ} (hC : gC p l s m args meth c cX9_judge 9 RX9 (some .int) Z)   (M : gM) (a1 : Int32) (a7 : Int32) (a8 : Int32) (t1 : Int32) (t2 : Int32) : gW p l e rm_X9_judge s m args below meth c 9 Z 1 0 0 M 265 [(0, .ref (zad Z 9)), (1, .int a1), (7, .int a7), (8, .int a8)] [.int t2, .int t1, .ref (zad Z 112)] (f_X9_judge_b265  M a1 a7 a8 t1 t2) := by
  unfold f_X9_judge_b265
  refine g_iast hC 112 (by decide) rfl dX9_judge_265 (fun M1 => ?_)
  refine g_aload_n hC 0 dX9_judge_266 rfl rfl ?_
  refine gf_X9_44 hC dX9_judge_267 ?_
  refine g_iload_n hC 1 dX9_judge_270 rfl rfl ?_
  refine g_iload hC 2 dX9_judge_271 rfl ?_
  refine g_if_ne (tgt := 285) hC dX9_judge_273 (by decide) (fun _ => ?_) (fun _ => ?_)
  · refine g_aload_n hC 0 dX9_judge_276 rfl rfl ?_
    refine gf_X9_44 hC dX9_judge_277 ?_
    refine g_iload_n hC 1 dX9_judge_280 rfl rfl ?_
    refine g_iald hC 113 (by decide) rfl dX9_judge_281 ?_
    refine g_goto (tgt := 287) hC dX9_judge_282 (by decide) ?_
    refine g_iast hC 113 (by decide) rfl dX9_judge_287 (fun M2 => ?_)
    refine g_iload hC 3 dX9_judge_288 rfl ?_
    exact g_iret hC rfl (by decide) dX9_judge_290
  · refine g_iload hC 2 dX9_judge_285 rfl ?_
    refine g_iast hC 113 (by decide) rfl dX9_judge_287 (fun M3 => ?_)
    refine g_iload hC 3 dX9_judge_288 rfl ?_
    exact g_iret hC rfl (by decide) dX9_judge_290
set_option maxRecDepth 20000 in
set_option maxHeartbeats 4000000 in
theorem g_X9_judge_b231 {p : Program} {l : Launch} {e : Env} {s : State} {m : MethodId} {args : Array Value} {below : List Frame} {meth : Method} {c : Code} {Z : gZ} (hC : gC p l s m args meth c cX9_judge 9 RX9 (some .int) Z)   (M : gM) (a1 : Int32) (a7 : Int32) (t1 : Int32) : gW p l e rm_X9_judge s m args below meth c 9 Z 1 0 0 M 231 [(0, .ref (zad Z 9)), (1, .int a1), (7, .int a7)] [.int t1, .ref (zad Z 9)] (f_X9_judge_b231  M a1 a7 t1) := by
  unfold f_X9_judge_b231
  refine g_callVi (n := 1) hC [.int t1] 9 9 (by decide) rfl rfl (fun hne => c_X9_refused hC.2.2.2.2.2.2.2.1 Z M t1 hne) lk_X9_155 mw_X9_refused.1 mw_X9_refused.2.1 mw_X9_refused.2.2.1 mw_X9_refused.2.2.2 ⟨rfl, by decide, by decide, by decide +kernel⟩ rfl rfl ⟨by decide, by decide⟩ rfl rfl (Nat.le_of_ble_eq_true rfl) (by decide) (by decide) (by decide) dX9_judge_231 (fun x5 M4 => ?_)
  refine g_if_eq (tgt := 239) hC dX9_judge_234 (by decide) (fun _ => ?_) (fun _ => ?_)
  · refine g_aload_n hC 0 dX9_judge_239 rfl rfl ?_
    refine g_iconst hC (v := 5) dX9_judge_240 (by decide) ?_
    refine g_iload_n hC 1 dX9_judge_241 rfl rfl ?_
    refine g_iload hC 2 dX9_judge_242 rfl ?_
    refine g_iconst hC (v := 0) dX9_judge_244 (by decide) ?_
    refine g_callVi (n := 4) hC [.int 5, .int a1, .int a7, .int 0] 9 9 (by decide) rfl rfl (fun hne => c_X9_enter hC.2.2.2.2.2.2.2.1 Z M4 5 a1 a7 0 hne) lk_X9_237 mw_X9_enter.1 mw_X9_enter.2.1 mw_X9_enter.2.2.1 mw_X9_enter.2.2.2 ⟨rfl, by decide, by decide, by decide +kernel⟩ rfl rfl ⟨by decide, by decide⟩ rfl rfl (Nat.le_of_ble_eq_true rfl) (by decide) (by decide) (by decide) dX9_judge_245 (fun x7 M6 => ?_)
    refine g_istore hC (lv1 := [(8, .int x7), (0, .ref (zad Z 9)), (1, .int a1), (7, .int a7)]) dX9_judge_248 (by decide) rfl ?_
    refine g_aload_n hC 1 dX9_judge_250 rfl rfl ?_
    refine gf_X9_41 hC dX9_judge_251 ?_
    refine g_iload_n hC 2 dX9_judge_254 rfl rfl ?_
    refine g_iload hC 3 dX9_judge_255 rfl ?_
    refine g_if_ne (tgt := 264) hC dX9_judge_257 (by decide) (fun _ => ?_) (fun _ => ?_)
    · refine g_iconst hC (v := 1) dX9_judge_260 (by decide) ?_
      refine g_goto (tgt := 265) hC dX9_judge_261 (by decide) ?_
      refine g_sub (lv1 := [(0, .ref (zad Z 9)), (1, .int a1), (7, .int a7), (8, .int x7)]) [1, 2, 3, 0] rfl ?_
      exact g_X9_judge_b265 hC  M6 a1 a7 x7 a1 1
    · refine g_iconst hC (v := 2) dX9_judge_264 (by decide) ?_
      refine g_sub (lv1 := [(0, .ref (zad Z 9)), (1, .int a1), (7, .int a7), (8, .int x7)]) [1, 2, 3, 0] rfl ?_
      exact g_X9_judge_b265 hC  M6 a1 a7 x7 a1 2
  · refine g_iconst hC (v := 0) dX9_judge_237 (by decide) ?_
    exact g_iret hC rfl (by decide) dX9_judge_238
set_option maxRecDepth 20000 in
set_option maxHeartbeats 4000000 in
theorem g_X9_judge_b203 {p : Program} {l : Launch} {e : Env} {s : State} {m : MethodId} {args : Array Value} {below : List Frame} {meth : Method} {c : Code} {Z : gZ} (hC : gC p l s m args meth c cX9_judge 9 RX9 (some .int) Z)   (M : gM) (a1 : Int32) (a3 : Int32) (a4 : Int32) (a5 : Int32) (a7 : Int32)  : gW p l e rm_X9_judge s m args below meth c 9 Z 1 0 0 M 203 [(0, .ref (zad Z 9)), (1, .int a1), (3, .int a3), (4, .int a4), (5, .int a5), (7, .int a7)] [] (f_X9_judge_b203  M a1 a3 a4 a5 a7 ) := by
  unfold f_X9_judge_b203
  refine g_aload_n hC 0 dX9_judge_203 rfl rfl ?_
  refine g_iload_n hC 2 dX9_judge_204 rfl rfl ?_
  refine g_if_ne (tgt := 212) hC dX9_judge_205 (by decide) (fun _ => ?_) (fun _ => ?_)
  · refine g_iconst hC (v := 1) dX9_judge_208 (by decide) ?_
    refine g_goto (tgt := 231) hC dX9_judge_209 (by decide) ?_
    refine g_sub (lv1 := [(0, .ref (zad Z 9)), (1, .int a1), (7, .int a7)]) [0, 1, 5] rfl ?_
    exact g_X9_judge_b231 hC  M a1 a7 1
  · refine g_iload hC 3 dX9_judge_212 rfl ?_
    refine g_if_ne (tgt := 221) hC dX9_judge_214 (by decide) (fun _ => ?_) (fun _ => ?_)
    · refine g_iconst hC (v := 2) dX9_judge_217 (by decide) ?_
      refine g_goto (tgt := 231) hC dX9_judge_218 (by decide) ?_
      refine g_sub (lv1 := [(0, .ref (zad Z 9)), (1, .int a1), (7, .int a7)]) [0, 1, 5] rfl ?_
      exact g_X9_judge_b231 hC  M a1 a7 2
    · refine g_iload hC 4 dX9_judge_221 rfl ?_
      refine g_if_ne (tgt := 230) hC dX9_judge_223 (by decide) (fun _ => ?_) (fun _ => ?_)
      · refine g_iconst hC (v := 3) dX9_judge_226 (by decide) ?_
        refine g_goto (tgt := 231) hC dX9_judge_227 (by decide) ?_
        refine g_sub (lv1 := [(0, .ref (zad Z 9)), (1, .int a1), (7, .int a7)]) [0, 1, 5] rfl ?_
        exact g_X9_judge_b231 hC  M a1 a7 3
      · refine g_iconst hC (v := 0) dX9_judge_230 (by decide) ?_
        refine g_sub (lv1 := [(0, .ref (zad Z 9)), (1, .int a1), (7, .int a7)]) [0, 1, 5] rfl ?_
        exact g_X9_judge_b231 hC  M a1 a7 0
set_option maxRecDepth 20000 in
set_option maxHeartbeats 4000000 in
theorem g_X9_judge_b166 {p : Program} {l : Launch} {e : Env} {s : State} {m : MethodId} {args : Array Value} {below : List Frame} {meth : Method} {c : Code} {Z : gZ} (hC : gC p l s m args meth c cX9_judge 9 RX9 (some .int) Z)   (M : gM) (a1 : Int32) (a3 : Int32) (a4 : Int32) (a5 : Int32) (t0 : Int32) : gW p l e rm_X9_judge s m args below meth c 9 Z 1 0 0 M 166 [(0, .ref (zad Z 9)), (1, .int a1), (3, .int a3), (4, .int a4), (5, .int a5)] [.int t0] (f_X9_judge_b166  M a1 a3 a4 a5 t0) := by
  unfold f_X9_judge_b166
  refine g_istore hC (lv1 := [(7, .int t0), (0, .ref (zad Z 9)), (1, .int a1), (3, .int a3), (4, .int a4), (5, .int a5)]) dX9_judge_166 (by decide) rfl ?_
  refine g_goto (tgt := 203) hC dX9_judge_168 (by decide) ?_
  refine g_sub (lv1 := [(0, .ref (zad Z 9)), (1, .int a1), (3, .int a3), (4, .int a4), (5, .int a5), (7, .int t0)]) [1, 2, 3, 4, 5, 0] rfl ?_
  exact g_X9_judge_b203 hC  M a1 a3 a4 a5 t0 
set_option maxRecDepth 20000 in
set_option maxHeartbeats 4000000 in
theorem g_X9_judge_b160 {p : Program} {l : Launch} {e : Env} {s : State} {m : MethodId} {args : Array Value} {below : List Frame} {meth : Method} {c : Code} {Z : gZ} (hC : gC p l s m args meth c cX9_judge 9 RX9 (some .int) Z)   (M : gM) (a1 : Int32) (a3 : Int32) (a4 : Int32) (a5 : Int32)  : gW p l e rm_X9_judge s m args below meth c 9 Z 1 0 0 M 160 [(0, .ref (zad Z 9)), (1, .int a1), (3, .int a3), (4, .int a4), (5, .int a5)] [] (f_X9_judge_b160  M a1 a3 a4 a5 ) := by
  unfold f_X9_judge_b160
  refine g_aload_n hC 0 dX9_judge_160 rfl rfl ?_
  refine gf_X9_44 hC dX9_judge_161 ?_
  refine g_iload_n hC 1 dX9_judge_164 rfl rfl ?_
  refine g_iald hC 113 (by decide) rfl dX9_judge_165 ?_
  exact g_X9_judge_b166 hC  M a1 a3 a4 a5 (M 113 a1.toNatClampNeg)
set_option maxRecDepth 20000 in
set_option maxHeartbeats 4000000 in
theorem g_X9_judge_b136 {p : Program} {l : Launch} {e : Env} {s : State} {m : MethodId} {args : Array Value} {below : List Frame} {meth : Method} {c : Code} {Z : gZ} (hC : gC p l s m args meth c cX9_judge 9 RX9 (some .int) Z)   (M : gM) (a1 : Int32) (a3 : Int32) (a4 : Int32) (a6 : Int32) (t0 : Int32) : gW p l e rm_X9_judge s m args below meth c 9 Z 1 0 0 M 136 [(0, .ref (zad Z 9)), (1, .int a1), (3, .int a3), (4, .int a4), (6, .int a6)] [.int t0] (f_X9_judge_b136  M a1 a3 a4 a6 t0) := by
  unfold f_X9_judge_b136
  refine g_istore hC (lv1 := [(5, .int t0), (0, .ref (zad Z 9)), (1, .int a1), (3, .int a3), (4, .int a4), (6, .int a6)]) dX9_judge_136 (by decide) rfl ?_
  refine g_iload hC 5 dX9_judge_138 rfl ?_
  refine g_iconst hC (v := (-1)) dX9_judge_140 (by decide) ?_
  refine g_icmp_eq (tgt := 160) hC dX9_judge_141 (by decide) (fun _ => ?_) (fun _ => ?_)
  · refine g_sub (lv1 := [(0, .ref (zad Z 9)), (1, .int a1), (3, .int a3), (4, .int a4), (5, .int t0)]) [1, 2, 3, 4, 0] rfl ?_
    exact g_X9_judge_b160 hC  M a1 a3 a4 t0 
  · refine g_iload hC 5 dX9_judge_144 rfl ?_
    refine g_aload_n hC 1 dX9_judge_146 rfl rfl ?_
    refine gf_X9_44 hC dX9_judge_147 ?_
    refine g_iload_n hC 2 dX9_judge_150 rfl rfl ?_
    refine g_iald hC 113 (by decide) rfl dX9_judge_151 ?_
    refine g_icmp_ge (tgt := 160) hC dX9_judge_152 (by decide) (fun _ => ?_) (fun _ => ?_)
    · refine g_sub (lv1 := [(0, .ref (zad Z 9)), (1, .int a1), (3, .int a3), (4, .int a4), (5, .int t0)]) [1, 2, 3, 4, 0] rfl ?_
      exact g_X9_judge_b160 hC  M a1 a3 a4 t0 
    · refine g_iload hC 5 dX9_judge_155 rfl ?_
      refine g_goto (tgt := 166) hC dX9_judge_157 (by decide) ?_
      refine g_sub (lv1 := [(0, .ref (zad Z 9)), (1, .int a1), (3, .int a3), (4, .int a4), (5, .int t0)]) [1, 2, 3, 4, 0] rfl ?_
      exact g_X9_judge_b166 hC  M a1 a3 a4 t0 a6
set_option maxRecDepth 20000 in
set_option maxHeartbeats 4000000 in
theorem g_X9_judge_b135 {p : Program} {l : Launch} {e : Env} {s : State} {m : MethodId} {args : Array Value} {below : List Frame} {meth : Method} {c : Code} {Z : gZ} (hC : gC p l s m args meth c cX9_judge 9 RX9 (some .int) Z)   (M : gM) (a1 : Int32) (a3 : Int32) (a4 : Int32) (a6 : Int32)  : gW p l e rm_X9_judge s m args below meth c 9 Z 1 0 0 M 135 [(0, .ref (zad Z 9)), (1, .int a1), (3, .int a3), (4, .int a4), (6, .int a6)] [] (f_X9_judge_b135  M a1 a3 a4 a6 ) := by
  unfold f_X9_judge_b135
  refine g_iconst hC (v := 0) dX9_judge_135 (by decide) ?_
  exact g_X9_judge_b136 hC  M a1 a3 a4 a6 0
set_option maxRecDepth 20000 in
set_option maxHeartbeats 4000000 in
theorem g_X9_judge_b201 {p : Program} {l : Launch} {e : Env} {s : State} {m : MethodId} {args : Array Value} {below : List Frame} {meth : Method} {c : Code} {Z : gZ} (hC : gC p l s m args meth c cX9_judge 9 RX9 (some .int) Z)   (M : gM) (a1 : Int32) (a3 : Int32) (a4 : Int32) (a7 : Int32) (t0 : Int32) : gW p l e rm_X9_judge s m args below meth c 9 Z 1 0 0 M 201 [(0, .ref (zad Z 9)), (1, .int a1), (3, .int a3), (4, .int a4), (7, .int a7)] [.int t0] (f_X9_judge_b201  M a1 a3 a4 a7 t0) := by
  unfold f_X9_judge_b201
  refine g_istore hC (lv1 := [(5, .int t0), (0, .ref (zad Z 9)), (1, .int a1), (3, .int a3), (4, .int a4), (7, .int a7)]) dX9_judge_201 (by decide) rfl ?_
  refine g_sub (lv1 := [(0, .ref (zad Z 9)), (1, .int a1), (3, .int a3), (4, .int a4), (5, .int t0), (7, .int a7)]) [1, 2, 3, 4, 0, 5] rfl ?_
  exact g_X9_judge_b203 hC  M a1 a3 a4 t0 a7 
set_option maxRecDepth 20000 in
set_option maxHeartbeats 4000000 in
theorem g_X9_judge_b196 {p : Program} {l : Launch} {e : Env} {s : State} {m : MethodId} {args : Array Value} {below : List Frame} {meth : Method} {c : Code} {Z : gZ} (hC : gC p l s m args meth c cX9_judge 9 RX9 (some .int) Z)   (M : gM) (a1 : Int32) (a3 : Int32) (a4 : Int32) (a7 : Int32)  : gW p l e rm_X9_judge s m args below meth c 9 Z 1 0 0 M 196 [(0, .ref (zad Z 9)), (1, .int a1), (3, .int a3), (4, .int a4), (7, .int a7)] [] (f_X9_judge_b196  M a1 a3 a4 a7 ) := by
  unfold f_X9_judge_b196
  refine g_iconst hC (v := 1) dX9_judge_196 (by decide) ?_
  refine g_goto (tgt := 201) hC dX9_judge_197 (by decide) ?_
  exact g_X9_judge_b201 hC  M a1 a3 a4 a7 1
set_option maxRecDepth 20000 in
set_option maxHeartbeats 4000000 in
theorem g_X9_judge_b200 {p : Program} {l : Launch} {e : Env} {s : State} {m : MethodId} {args : Array Value} {below : List Frame} {meth : Method} {c : Code} {Z : gZ} (hC : gC p l s m args meth c cX9_judge 9 RX9 (some .int) Z)   (M : gM) (a1 : Int32) (a3 : Int32) (a4 : Int32) (a7 : Int32)  : gW p l e rm_X9_judge s m args below meth c 9 Z 1 0 0 M 200 [(0, .ref (zad Z 9)), (1, .int a1), (3, .int a3), (4, .int a4), (7, .int a7)] [] (f_X9_judge_b200  M a1 a3 a4 a7 ) := by
  unfold f_X9_judge_b200
  refine g_iconst hC (v := 0) dX9_judge_200 (by decide) ?_
  exact g_X9_judge_b201 hC  M a1 a3 a4 a7 0
set_option maxRecDepth 20000 in
set_option maxHeartbeats 4000000 in
theorem g_X9_judge_b171 {p : Program} {l : Launch} {e : Env} {s : State} {m : MethodId} {args : Array Value} {below : List Frame} {meth : Method} {c : Code} {Z : gZ} (hC : gC p l s m args meth c cX9_judge 9 RX9 (some .int) Z)   (M : gM) (a1 : Int32) (a2 : Int32) (a3 : Int32) (a4 : Int32) (a5 : Int32) (a6 : Int32) (a7 : Int32)  : gW p l e rm_X9_judge s m args below meth c 9 Z 1 0 0 M 171 [(0, .ref (zad Z 9)), (1, .int a1), (2, .int a2), (3, .int a3), (4, .int a4), (5, .int a5), (6, .int a6), (7, .int a7)] [] (f_X9_judge_b171  M a1 a2 a3 a4 a5 a6 a7 ) := by
  unfold f_X9_judge_b171
  refine g_iload hC 5 dX9_judge_171 rfl ?_
  refine g_if_eq (tgt := 203) hC dX9_judge_173 (by decide) (fun _ => ?_) (fun _ => ?_)
  · refine g_sub (lv1 := [(0, .ref (zad Z 9)), (1, .int a1), (3, .int a3), (4, .int a4), (5, .int a5), (7, .int a7)]) [0, 1, 3, 4, 5, 7] rfl ?_
    exact g_X9_judge_b203 hC  M a1 a3 a4 a5 a7 
  · refine g_aload_n hC 0 dX9_judge_176 rfl rfl ?_
    refine g_iload_n hC 1 dX9_judge_177 rfl rfl ?_
    refine g_callVi (n := 1) hC [.int a1] 9 9 (by decide) rfl rfl (fun hne => c_X9_answered hC.2.2.2.2.2.2.2.1 Z M a1 hne) lk_X9_241 mw_X9_answered.1 mw_X9_answered.2.1 mw_X9_answered.2.2.1 mw_X9_answered.2.2.2 ⟨rfl, by decide, by decide, by decide +kernel⟩ rfl rfl ⟨by decide, by decide⟩ rfl rfl (Nat.le_of_ble_eq_true rfl) (by decide) (by decide) (by decide) dX9_judge_178 (fun x9 M8 => ?_)
    refine g_if_eq (tgt := 200) hC dX9_judge_181 (by decide) (fun _ => ?_) (fun _ => ?_)
    · refine g_sub (lv1 := [(0, .ref (zad Z 9)), (1, .int a1), (3, .int a3), (4, .int a4), (7, .int a7)]) [0, 1, 3, 4, 7] rfl ?_
      exact g_X9_judge_b200 hC  M8 a1 a3 a4 a7 
    · refine g_iload hC 6 dX9_judge_184 rfl ?_
      refine g_iconst hC (v := (-1)) dX9_judge_186 (by decide) ?_
      refine g_icmp_eq (tgt := 196) hC dX9_judge_187 (by decide) (fun _ => ?_) (fun _ => ?_)
      · refine g_sub (lv1 := [(0, .ref (zad Z 9)), (1, .int a1), (3, .int a3), (4, .int a4), (7, .int a7)]) [0, 1, 3, 4, 7] rfl ?_
        exact g_X9_judge_b196 hC  M8 a1 a3 a4 a7 
      · refine g_iload_n hC 2 dX9_judge_190 rfl rfl ?_
        refine g_iload hC 6 dX9_judge_191 rfl ?_
        refine g_icmp_gt (tgt := 200) hC dX9_judge_193 (by decide) (fun _ => ?_) (fun _ => ?_)
        · refine g_sub (lv1 := [(0, .ref (zad Z 9)), (1, .int a1), (3, .int a3), (4, .int a4), (7, .int a7)]) [0, 1, 3, 4, 7] rfl ?_
          exact g_X9_judge_b200 hC  M8 a1 a3 a4 a7 
        · refine g_sub (lv1 := [(0, .ref (zad Z 9)), (1, .int a1), (3, .int a3), (4, .int a4), (7, .int a7)]) [0, 1, 3, 4, 7] rfl ?_
          exact g_X9_judge_b196 hC  M8 a1 a3 a4 a7 
set_option maxRecDepth 20000 in
set_option maxHeartbeats 4000000 in
theorem g_X9_judge_b73 {p : Program} {l : Launch} {e : Env} {s : State} {m : MethodId} {args : Array Value} {below : List Frame} {meth : Method} {c : Code} {Z : gZ} (hC : gC p l s m args meth c cX9_judge 9 RX9 (some .int) Z)   (M : gM) (a1 : Int32) (a2 : Int32) (a3 : Int32) (a4 : Int32) (a5 : Int32) (t0 : Int32) : gW p l e rm_X9_judge s m args below meth c 9 Z 1 0 0 M 73 [(0, .ref (zad Z 9)), (1, .int a1), (2, .int a2), (3, .int a3), (4, .int a4), (5, .int a5)] [.int t0] (f_X9_judge_b73  M a1 a2 a3 a4 a5 t0) := by
  unfold f_X9_judge_b73
  refine g_istore hC (lv1 := [(6, .int t0), (0, .ref (zad Z 9)), (1, .int a1), (2, .int a2), (3, .int a3), (4, .int a4), (5, .int a5)]) dX9_judge_73 (by decide) rfl ?_
  refine g_iload_n hC 3 dX9_judge_75 rfl rfl ?_
  refine g_istore hC (lv1 := [(7, .int a2), (6, .int t0), (0, .ref (zad Z 9)), (1, .int a1), (2, .int a2), (3, .int a3), (4, .int a4), (5, .int a5)]) dX9_judge_76 (by decide) rfl ?_
  refine g_iload_n hC 4 dX9_judge_78 rfl rfl ?_
  refine g_iconst hC (v := (-1)) dX9_judge_79 (by decide) ?_
  refine g_icmp_ne (tgt := 171) hC dX9_judge_80 (by decide) (fun _ => ?_) (fun _ => ?_)
  · refine g_iload hC 7 dX9_judge_83 rfl ?_
    refine g_if_eq (tgt := 171) hC dX9_judge_85 (by decide) (fun _ => ?_) (fun _ => ?_)
    · refine g_sub (lv1 := [(0, .ref (zad Z 9)), (1, .int a1), (2, .int a2), (3, .int a3), (4, .int a4), (5, .int a5), (6, .int t0), (7, .int a2)]) [2, 3, 4, 5, 6, 7, 1, 0] rfl ?_
      exact g_X9_judge_b171 hC  M a1 a2 a3 a4 a5 t0 a2 
    · refine g_aload_n hC 2 dX9_judge_88 rfl rfl ?_
      refine g_iload_n hC 3 dX9_judge_89 rfl rfl ?_
      refine g_iconst hC (v := 0) dX9_judge_90 (by decide) ?_
      refine g_callVi (n := 2) hC [.int a1, .int 0] 9 9 (by decide) rfl rfl (fun hne => c_X9_latest hC.2.2.2.2.2.2.2.1 Z M a1 0 hne) lk_X9_220 mw_X9_latest.1 mw_X9_latest.2.1 mw_X9_latest.2.2.1 mw_X9_latest.2.2.2 ⟨rfl, by decide, by decide, by decide +kernel⟩ rfl rfl ⟨by decide, by decide⟩ rfl rfl (Nat.le_of_ble_eq_true rfl) (by decide) (by decide) (by decide) dX9_judge_91 (fun x11 M10 => ?_)
      refine g_iconst hC (v := (-1)) dX9_judge_94 (by decide) ?_
      refine g_icmp_eq (tgt := 135) hC dX9_judge_95 (by decide) (fun _ => ?_) (fun _ => ?_)
      · refine g_sub (lv1 := [(0, .ref (zad Z 9)), (1, .int a1), (3, .int a3), (4, .int a4), (6, .int t0)]) [2, 3, 5, 6, 1] rfl ?_
        exact g_X9_judge_b135 hC  M10 a1 a3 a4 t0 
      · refine g_aload_n hC 2 dX9_judge_98 rfl rfl ?_
        refine g_iload_n hC 3 dX9_judge_99 rfl rfl ?_
        refine g_callVi (n := 1) hC [.int a1] 9 9 (by decide) rfl rfl (fun hne => c_X9_answered hC.2.2.2.2.2.2.2.1 Z M10 a1 hne) lk_X9_241 mw_X9_answered.1 mw_X9_answered.2.1 mw_X9_answered.2.2.1 mw_X9_answered.2.2.2 ⟨rfl, by decide, by decide, by decide +kernel⟩ rfl rfl ⟨by decide, by decide⟩ rfl rfl (Nat.le_of_ble_eq_true rfl) (by decide) (by decide) (by decide) dX9_judge_100 (fun x13 M12 => ?_)
        refine g_if_ne (tgt := 135) hC dX9_judge_103 (by decide) (fun _ => ?_) (fun _ => ?_)
        · refine g_aload_n hC 2 dX9_judge_106 rfl rfl ?_
          refine g_iload_n hC 3 dX9_judge_107 rfl rfl ?_
          refine g_callVi (n := 1) hC [.int a1] 9 9 (by decide) rfl rfl (fun hne => c_X9_hasOpenMotion hC.2.2.2.2.2.2.2.1 Z M12 a1 hne) lk_X9_227 mw_X9_hasOpenMotion.1 mw_X9_hasOpenMotion.2.1 mw_X9_hasOpenMotion.2.2.1 mw_X9_hasOpenMotion.2.2.2 ⟨rfl, by decide, by decide, by decide +kernel⟩ rfl rfl ⟨by decide, by decide⟩ rfl rfl (Nat.le_of_ble_eq_true rfl) (by decide) (by decide) (by decide) dX9_judge_108 (fun x15 M14 => ?_)
          refine g_if_ne (tgt := 135) hC dX9_judge_111 (by decide) (fun _ => ?_) (fun _ => ?_)
          · refine g_aload_n hC 2 dX9_judge_114 rfl rfl ?_
            refine g_aload_n hC 2 dX9_judge_115 rfl rfl ?_
            refine g_iload_n hC 3 dX9_judge_116 rfl rfl ?_
            refine g_callVi (n := 1) hC [.int a1] 9 9 (by decide) rfl rfl (fun hne => c_X9_answerDue hC.2.2.2.2.2.2.2.1 Z M14 a1 hne) lk_X9_244 mw_X9_answerDue.1 mw_X9_answerDue.2.1 mw_X9_answerDue.2.2.1 mw_X9_answerDue.2.2.2 ⟨rfl, by decide, by decide, by decide +kernel⟩ rfl rfl ⟨by decide, by decide⟩ rfl rfl (Nat.le_of_ble_eq_true rfl) (by decide) (by decide) (by decide) dX9_judge_117 (fun x17 M16 => ?_)
            refine g_callVi (n := 1) hC [.int x17] 9 9 (by decide) rfl rfl (fun hne => c_X9_isBehind hC.2.2.2.2.2.2.2.1 Z M16 x17 hne) lk_X9_207 mw_X9_isBehind.1 mw_X9_isBehind.2.1 mw_X9_isBehind.2.2.1 mw_X9_isBehind.2.2.2 ⟨rfl, by decide, by decide, by decide +kernel⟩ rfl rfl ⟨by decide, by decide⟩ rfl rfl (Nat.le_of_ble_eq_true rfl) (by decide) (by decide) (by decide) dX9_judge_120 (fun x19 M18 => ?_)
            refine g_if_eq (tgt := 135) hC dX9_judge_123 (by decide) (fun _ => ?_) (fun _ => ?_)
            · refine g_sub (lv1 := [(0, .ref (zad Z 9)), (1, .int a1), (3, .int a3), (4, .int a4), (6, .int t0)]) [2, 3, 5, 6, 1] rfl ?_
              exact g_X9_judge_b135 hC  M18 a1 a3 a4 t0 
            · refine g_iload hC 1 dX9_judge_126 rfl ?_
              refine g_if_eq (tgt := 135) hC dX9_judge_128 (by decide) (fun _ => ?_) (fun _ => ?_)
              · refine g_sub (lv1 := [(0, .ref (zad Z 9)), (1, .int a1), (3, .int a3), (4, .int a4), (6, .int t0)]) [2, 3, 5, 6, 1] rfl ?_
                exact g_X9_judge_b135 hC  M18 a1 a3 a4 t0 
              · refine g_iconst hC (v := 1) dX9_judge_131 (by decide) ?_
                refine g_goto (tgt := 136) hC dX9_judge_132 (by decide) ?_
                refine g_sub (lv1 := [(0, .ref (zad Z 9)), (1, .int a1), (3, .int a3), (4, .int a4), (6, .int t0)]) [2, 3, 5, 6, 1] rfl ?_
                exact g_X9_judge_b136 hC  M18 a1 a3 a4 t0 1
          · refine g_sub (lv1 := [(0, .ref (zad Z 9)), (1, .int a1), (3, .int a3), (4, .int a4), (6, .int t0)]) [2, 3, 5, 6, 1] rfl ?_
            exact g_X9_judge_b135 hC  M14 a1 a3 a4 t0 
        · refine g_sub (lv1 := [(0, .ref (zad Z 9)), (1, .int a1), (3, .int a3), (4, .int a4), (6, .int t0)]) [2, 3, 5, 6, 1] rfl ?_
          exact g_X9_judge_b135 hC  M12 a1 a3 a4 t0 
  · refine g_sub (lv1 := [(0, .ref (zad Z 9)), (1, .int a1), (2, .int a2), (3, .int a3), (4, .int a4), (5, .int a5), (6, .int t0), (7, .int a2)]) [2, 3, 4, 5, 6, 7, 1, 0] rfl ?_
    exact g_X9_judge_b171 hC  M a1 a2 a3 a4 a5 t0 a2 
set_option maxRecDepth 20000 in
set_option maxHeartbeats 4000000 in
theorem g_X9_judge_b57 {p : Program} {l : Launch} {e : Env} {s : State} {m : MethodId} {args : Array Value} {below : List Frame} {meth : Method} {c : Code} {Z : gZ} (hC : gC p l s m args meth c cX9_judge 9 RX9 (some .int) Z)   (M : gM) (a1 : Int32) (a2 : Int32) (a3 : Int32) (a4 : Int32) (t0 : Int32) : gW p l e rm_X9_judge s m args below meth c 9 Z 1 0 0 M 57 [(0, .ref (zad Z 9)), (1, .int a1), (2, .int a2), (3, .int a3), (4, .int a4)] [.int t0] (f_X9_judge_b57  M a1 a2 a3 a4 t0) := by
  unfold f_X9_judge_b57
  refine g_istore hC (lv1 := [(5, .int t0), (0, .ref (zad Z 9)), (1, .int a1), (2, .int a2), (3, .int a3), (4, .int a4)]) dX9_judge_57 (by decide) rfl ?_
  refine g_iload_n hC 4 dX9_judge_59 rfl rfl ?_
  refine g_if_eq (tgt := 72) hC dX9_judge_60 (by decide) (fun _ => ?_) (fun _ => ?_)
  · refine g_iconst hC (v := (-1)) dX9_judge_72 (by decide) ?_
    refine g_sub (lv1 := [(0, .ref (zad Z 9)), (1, .int a1), (2, .int a2), (3, .int a3), (4, .int a4), (5, .int t0)]) [1, 2, 3, 4, 5, 0] rfl ?_
    exact g_X9_judge_b73 hC  M a1 a2 a3 a4 t0 (-1)
  · refine g_aload_n hC 1 dX9_judge_63 rfl rfl ?_
    refine gf_X9_47 hC dX9_judge_64 ?_
    refine g_iload_n hC 2 dX9_judge_67 rfl rfl ?_
    refine g_iald hC 114 (by decide) rfl dX9_judge_68 ?_
    refine g_goto (tgt := 73) hC dX9_judge_69 (by decide) ?_
    refine g_sub (lv1 := [(0, .ref (zad Z 9)), (1, .int a1), (2, .int a2), (3, .int a3), (4, .int a4), (5, .int t0)]) [1, 2, 3, 4, 5, 0] rfl ?_
    exact g_X9_judge_b73 hC  M a1 a2 a3 a4 t0 (M 114 a1.toNatClampNeg)
set_option maxRecDepth 20000 in
set_option maxHeartbeats 4000000 in
theorem g_X9_judge_b56 {p : Program} {l : Launch} {e : Env} {s : State} {m : MethodId} {args : Array Value} {below : List Frame} {meth : Method} {c : Code} {Z : gZ} (hC : gC p l s m args meth c cX9_judge 9 RX9 (some .int) Z)   (M : gM) (a1 : Int32) (a2 : Int32) (a3 : Int32) (a4 : Int32)  : gW p l e rm_X9_judge s m args below meth c 9 Z 1 0 0 M 56 [(0, .ref (zad Z 9)), (1, .int a1), (2, .int a2), (3, .int a3), (4, .int a4)] [] (f_X9_judge_b56  M a1 a2 a3 a4 ) := by
  unfold f_X9_judge_b56
  refine g_iconst hC (v := 0) dX9_judge_56 (by decide) ?_
  exact g_X9_judge_b57 hC  M a1 a2 a3 a4 0
set_option maxRecDepth 20000 in
set_option maxHeartbeats 4000000 in
theorem g_X9_judge_b29 {p : Program} {l : Launch} {e : Env} {s : State} {m : MethodId} {args : Array Value} {below : List Frame} {meth : Method} {c : Code} {Z : gZ} (hC : gC p l s m args meth c cX9_judge 9 RX9 (some .int) Z)   (M : gM) (a1 : Int32) (a2 : Int32) (a3 : Int32) (t0 : Int32) : gW p l e rm_X9_judge s m args below meth c 9 Z 1 0 0 M 29 [(0, .ref (zad Z 9)), (1, .int a1), (2, .int a2), (3, .int a3)] [.int t0] (f_X9_judge_b29  M a1 a2 a3 t0) := by
  unfold f_X9_judge_b29
  refine g_istore hC (lv1 := [(4, .int t0), (0, .ref (zad Z 9)), (1, .int a1), (2, .int a2), (3, .int a3)]) dX9_judge_29 (by decide) rfl ?_
  refine g_iload hC 0 dX9_judge_31 rfl ?_
  refine g_if_eq (tgt := 56) hC dX9_judge_33 (by decide) (fun _ => ?_) (fun _ => ?_)
  · refine g_sub (lv1 := [(0, .ref (zad Z 9)), (1, .int a1), (2, .int a2), (3, .int a3), (4, .int t0)]) [1, 2, 3, 4, 0] rfl ?_
    exact g_X9_judge_b56 hC  M a1 a2 a3 t0 
  · refine g_aload_n hC 1 dX9_judge_36 rfl rfl ?_
    refine g_callVi (n := 0) hC [] 9 9 (by decide) rfl rfl (fun hne => c_X9_hasRoom hC.2.2.2.2.2.2.2.1 Z M  hne) lk_X9_233 mw_X9_hasRoom.1 mw_X9_hasRoom.2.1 mw_X9_hasRoom.2.2.1 mw_X9_hasRoom.2.2.2 ⟨rfl, by decide, by decide, by decide +kernel⟩ rfl rfl ⟨by decide, by decide⟩ rfl rfl (Nat.le_of_ble_eq_true rfl) (by decide) (by decide) (by decide) dX9_judge_37 (fun x21 M20 => ?_)
    refine g_if_eq (tgt := 56) hC dX9_judge_40 (by decide) (fun _ => ?_) (fun _ => ?_)
    · refine g_sub (lv1 := [(0, .ref (zad Z 9)), (1, .int a1), (2, .int a2), (3, .int a3), (4, .int t0)]) [1, 2, 3, 4, 0] rfl ?_
      exact g_X9_judge_b56 hC  M20 a1 a2 a3 t0 
    · refine g_aload_n hC 1 dX9_judge_43 rfl rfl ?_
      refine gf_X9_41 hC dX9_judge_44 ?_
      refine g_iload_n hC 2 dX9_judge_47 rfl rfl ?_
      refine g_iald hC 112 (by decide) rfl dX9_judge_48 ?_
      refine g_if_ne (tgt := 56) hC dX9_judge_49 (by decide) (fun _ => ?_) (fun _ => ?_)
      · refine g_iconst hC (v := 1) dX9_judge_52 (by decide) ?_
        refine g_goto (tgt := 57) hC dX9_judge_53 (by decide) ?_
        refine g_sub (lv1 := [(0, .ref (zad Z 9)), (1, .int a1), (2, .int a2), (3, .int a3), (4, .int t0)]) [1, 2, 3, 4, 0] rfl ?_
        exact g_X9_judge_b57 hC  M20 a1 a2 a3 t0 1
      · refine g_sub (lv1 := [(0, .ref (zad Z 9)), (1, .int a1), (2, .int a2), (3, .int a3), (4, .int t0)]) [1, 2, 3, 4, 0] rfl ?_
        exact g_X9_judge_b56 hC  M20 a1 a2 a3 t0 
set_option maxRecDepth 20000 in
set_option maxHeartbeats 4000000 in
theorem g_X9_judge_b28 {p : Program} {l : Launch} {e : Env} {s : State} {m : MethodId} {args : Array Value} {below : List Frame} {meth : Method} {c : Code} {Z : gZ} (hC : gC p l s m args meth c cX9_judge 9 RX9 (some .int) Z)   (M : gM) (a1 : Int32) (a2 : Int32) (a3 : Int32)  : gW p l e rm_X9_judge s m args below meth c 9 Z 1 0 0 M 28 [(0, .ref (zad Z 9)), (1, .int a1), (2, .int a2), (3, .int a3)] [] (f_X9_judge_b28  M a1 a2 a3 ) := by
  unfold f_X9_judge_b28
  refine g_iconst hC (v := 0) dX9_judge_28 (by decide) ?_
  exact g_X9_judge_b29 hC  M a1 a2 a3 0
set_option maxRecDepth 20000 in
set_option maxHeartbeats 4000000 in
theorem c_X9_judge {l : Launch} (hfl : l.stackTraces = false) (Z : gZ) (M : gM) (a1 : Int32) (a2 : Int32) : gMet l yX9_judge cX9_judge 9 (some .int) rm_X9_judge 1 0 Z M [.ref (zad Z 9), .int a1, .int a2] (f_X9_judge M a1 a2) := by
  refine g_enter hfl (by decide) (Nat.le_of_ble_eq_true rfl) (fun p e s m args below meth c hC => ?_)
  refine g_eq (F := f_X9_judge M a1 a2) rfl ?_
  refine g_lv0 (lv1 := [(0, .ref (zad Z 9)), (1, .int a1), (2, .int a2)]) rfl ?_
  unfold f_X9_judge
  refine g_aload_n hC 0 dX9_judge_0 rfl rfl ?_
  refine g_iload_n hC 1 dX9_judge_1 rfl rfl ?_
  refine g_callVi (n := 1) hC [.int a1] 9 9 (by decide) rfl rfl (fun hne => c_X9_isClaim hC.2.2.2.2.2.2.2.1 Z M a1 hne) lk_X9_195 mw_X9_isClaim.1 mw_X9_isClaim.2.1 mw_X9_isClaim.2.2.1 mw_X9_isClaim.2.2.2 ⟨rfl, by decide, by decide, by decide +kernel⟩ rfl rfl ⟨by decide, by decide⟩ rfl rfl (Nat.le_of_ble_eq_true rfl) (by decide) (by decide) (by decide) dX9_judge_2 (fun x23 M22 => ?_)
  refine g_istore_n hC (lv1 := [(3, .int x23), (0, .ref (zad Z 9)), (1, .int a1), (2, .int a2)]) dX9_judge_5 rfl (by decide) rfl ?_
  refine g_iload_n hC 0 dX9_judge_6 rfl rfl ?_
  refine g_if_eq (tgt := 28) hC dX9_judge_7 (by decide) (fun _ => ?_) (fun _ => ?_)
  · refine g_sub (lv1 := [(0, .ref (zad Z 9)), (1, .int a1), (2, .int a2), (3, .int x23)]) [1, 2, 3, 0] rfl ?_
    exact g_X9_judge_b28 hC  M22 a1 a2 x23 
  · refine g_iload_n hC 3 dX9_judge_10 rfl rfl ?_
    refine g_iconst hC (v := (-1)) dX9_judge_11 (by decide) ?_
    refine g_aload_n hC 1 dX9_judge_12 rfl rfl ?_
    refine gf_X9_44 hC dX9_judge_13 ?_
    refine g_iload_n hC 2 dX9_judge_16 rfl rfl ?_
    refine g_iald hC 113 (by decide) rfl dX9_judge_17 ?_
    refine g_callSi (n := 3) hC [.int a2, .int (-1), .int (M22 113 a1.toNatClampNeg)] (fun hne => c_X9_within hC.2.2.2.2.2.2.2.1 Z M22 a2 (-1) (M22 113 a1.toNatClampNeg) hne) lk_X9_148 mw_X9_within.1 mw_X9_within.2.1 mw_X9_within.2.2 ⟨by decide, by decide, by decide +kernel⟩ rfl rfl ⟨by decide, by decide⟩ rfl rfl (Nat.le_of_ble_eq_true rfl) (by decide) (by decide) (by decide) dX9_judge_18 (fun x25 M24 => ?_)
    refine g_if_eq (tgt := 28) hC dX9_judge_21 (by decide) (fun _ => ?_) (fun _ => ?_)
    · refine g_sub (lv1 := [(0, .ref (zad Z 9)), (1, .int a1), (2, .int a2), (3, .int x23)]) [1, 2, 3, 0] rfl ?_
      exact g_X9_judge_b28 hC  M24 a1 a2 x23 
    · refine g_iconst hC (v := 1) dX9_judge_24 (by decide) ?_
      refine g_goto (tgt := 29) hC dX9_judge_25 (by decide) ?_
      refine g_sub (lv1 := [(0, .ref (zad Z 9)), (1, .int a1), (2, .int a2), (3, .int x23)]) [1, 2, 3, 0] rfl ?_
      exact g_X9_judge_b29 hC  M24 a1 a2 x23 1

-- ===== X9_latestOrder =====
def f_X9_latestOrder_b53 (self4 : gM → Int32 → Int32 → Int32 → gR) (M : gM) (a1 : Int32) (a2 : Int32) (a3 : Int32) (t0 : Int32) : gR := (if t0 = 0 then (bV (a3 + 1) (fun x1 => (self4 M a1 a2 x1))) else (gI a3 160 (if (M 122 a3.toNatClampNeg) = a1 then (gI a3 160 (if (M 130 a3.toNatClampNeg) = 0 then (bV (a3 + 1) (fun x2 => (self4 M a1 a3 x2))) else (bV (a3 + 1) (fun x3 => (self4 M a1 a2 x3))))) else (bV (a3 + 1) (fun x4 => (self4 M a1 a2 x4))))))
def f_X9_latestOrder_b48 (self4 : gM → Int32 → Int32 → Int32 → gR) (M : gM) (a1 : Int32) (a2 : Int32) (a3 : Int32)  : gR := (f_X9_latestOrder_b53 self4 M a1 a2 a3 1)
def f_X9_latestOrder_lb4  (self4 : gM → Int32 → Int32 → Int32 → gR) (M : gM) (a1 : Int32) (a2 : Int32) (a3 : Int32) : gR := (if (M 9 23) ≤ a3 then (rRet a2 M) else (gI a3 160 (if (M 120 a3.toNatClampNeg) = 4 then (f_X9_latestOrder_b48 self4 M a1 a2 a3 ) else (gI a3 160 (if (M 120 a3.toNatClampNeg) = 5 then (f_X9_latestOrder_b48 self4 M a1 a2 a3 ) else (gI a3 160 (rb (f_X9_within M (M 120 a3.toNatClampNeg) 7 10) (fun x6 M5 => (if x6 = 0 then (f_X9_latestOrder_b53 self4 M5 a1 a2 a3 0) else (f_X9_latestOrder_b48 self4 M5 a1 a2 a3 ))))))))))
def f_X9_latestOrder_l4  : Nat → gM → Int32 → Int32 → Int32 → gR
  | 0, _, _, _, _ => rStuck
  | n + 1, M, a1, a2, a3 => f_X9_latestOrder_lb4  (f_X9_latestOrder_l4  n) M a1 a2 a3
def f_X9_latestOrder (M : gM) (a1 : Int32) : gR := (f_X9_latestOrder_l4  5000 M a1 (-1) 0)
abbrev rm_X9_latestOrder : Room := { frames := 1, cells := 0, slots := 0, locals := 22 }
set_option maxRecDepth 20000 in
set_option maxHeartbeats 4000000 in
theorem g_X9_latestOrder_b53 {p : Program} {l : Launch} {e : Env} {s : State} {m : MethodId} {args : Array Value} {below : List Frame} {meth : Method} {c : Code} {Z : gZ} (hC : gC p l s m args meth c cX9_latestOrder 5 RX9 (some .int) Z) {self4 : gM → Int32 → Int32 → Int32 → gR} (hs4 : ∀ (M : gM) (a1 : Int32) (a2 : Int32) (a3 : Int32) , gW p l e rm_X9_latestOrder s m args below meth c 5 Z 1 0 0 M 4 [(0, .ref (zad Z 9)), (1, .int a1), (2, .int a2), (3, .int a3)] [] (self4 M a1 a2 a3)) (M : gM) (a1 : Int32) (a2 : Int32) (a3 : Int32) (t0 : Int32) : gW p l e rm_X9_latestOrder s m args below meth c 5 Z 1 0 0 M 53 [(0, .ref (zad Z 9)), (1, .int a1), (2, .int a2), (3, .int a3)] [.int t0] (f_X9_latestOrder_b53 self4 M a1 a2 a3 t0) := by
  unfold f_X9_latestOrder_b53
  refine g_istore hC (lv1 := [(4, .int t0), (0, .ref (zad Z 9)), (1, .int a1), (2, .int a2), (3, .int a3)]) dX9_latestOrder_53 (by decide) rfl ?_
  refine g_iload hC 0 dX9_latestOrder_55 rfl ?_
  refine g_if_eq (tgt := 83) hC dX9_latestOrder_57 (by decide) (fun _ => ?_) (fun _ => ?_)
  · refine g_iload_n hC 3 dX9_latestOrder_83 rfl rfl ?_
    refine g_istore_n hC (lv1 := [(2, .int a2), (4, .int t0), (0, .ref (zad Z 9)), (1, .int a1), (3, .int a3)]) dX9_latestOrder_84 rfl (by decide) rfl ?_
    refine g_iinc hC 4 (v := 1) (fun x1 => [(3, .int x1), (2, .int a2), (4, .int t0), (0, .ref (zad Z 9)), (1, .int a1)]) dX9_latestOrder_85 rfl (by decide) (by decide) (fun _ => rfl) (fun x1 => ?_)
    refine g_goto (tgt := 4) hC dX9_latestOrder_88 (by decide) ?_
    refine g_sub (lv1 := [(0, .ref (zad Z 9)), (1, .int a1), (2, .int a2), (3, .int x1)]) [3, 4, 1, 0] rfl ?_
    exact hs4 M a1 a2 x1
  · refine g_aload_n hC 1 dX9_latestOrder_60 rfl rfl ?_
    refine gf_X9_71 hC dX9_latestOrder_61 ?_
    refine g_iload_n hC 4 dX9_latestOrder_64 rfl rfl ?_
    refine g_iald hC 122 (by decide) rfl dX9_latestOrder_65 ?_
    refine g_iload_n hC 2 dX9_latestOrder_66 rfl rfl ?_
    refine g_icmp_ne (tgt := 83) hC dX9_latestOrder_67 (by decide) (fun _ => ?_) (fun _ => ?_)
    · refine g_aload_n hC 1 dX9_latestOrder_70 rfl rfl ?_
      refine gf_X9_95 hC dX9_latestOrder_71 ?_
      refine g_iload_n hC 4 dX9_latestOrder_74 rfl rfl ?_
      refine g_zald hC 130 (by decide) rfl dX9_latestOrder_75 ?_
      refine g_if_ne (tgt := 83) hC dX9_latestOrder_76 (by decide) (fun _ => ?_) (fun _ => ?_)
      · refine g_iload_n hC 4 dX9_latestOrder_79 rfl rfl ?_
        refine g_goto (tgt := 84) hC dX9_latestOrder_80 (by decide) ?_
        refine g_istore_n hC (lv1 := [(2, .int a3), (4, .int t0), (0, .ref (zad Z 9)), (1, .int a1), (3, .int a3)]) dX9_latestOrder_84 rfl (by decide) rfl ?_
        refine g_iinc hC 4 (v := 1) (fun x2 => [(3, .int x2), (2, .int a3), (4, .int t0), (0, .ref (zad Z 9)), (1, .int a1)]) dX9_latestOrder_85 rfl (by decide) (by decide) (fun _ => rfl) (fun x2 => ?_)
        refine g_goto (tgt := 4) hC dX9_latestOrder_88 (by decide) ?_
        refine g_sub (lv1 := [(0, .ref (zad Z 9)), (1, .int a1), (2, .int a3), (3, .int x2)]) [3, 4, 1, 0] rfl ?_
        exact hs4 M a1 a3 x2
      · refine g_iload_n hC 3 dX9_latestOrder_83 rfl rfl ?_
        refine g_istore_n hC (lv1 := [(2, .int a2), (4, .int t0), (0, .ref (zad Z 9)), (1, .int a1), (3, .int a3)]) dX9_latestOrder_84 rfl (by decide) rfl ?_
        refine g_iinc hC 4 (v := 1) (fun x3 => [(3, .int x3), (2, .int a2), (4, .int t0), (0, .ref (zad Z 9)), (1, .int a1)]) dX9_latestOrder_85 rfl (by decide) (by decide) (fun _ => rfl) (fun x3 => ?_)
        refine g_goto (tgt := 4) hC dX9_latestOrder_88 (by decide) ?_
        refine g_sub (lv1 := [(0, .ref (zad Z 9)), (1, .int a1), (2, .int a2), (3, .int x3)]) [3, 4, 1, 0] rfl ?_
        exact hs4 M a1 a2 x3
    · refine g_iload_n hC 3 dX9_latestOrder_83 rfl rfl ?_
      refine g_istore_n hC (lv1 := [(2, .int a2), (4, .int t0), (0, .ref (zad Z 9)), (1, .int a1), (3, .int a3)]) dX9_latestOrder_84 rfl (by decide) rfl ?_
      refine g_iinc hC 4 (v := 1) (fun x4 => [(3, .int x4), (2, .int a2), (4, .int t0), (0, .ref (zad Z 9)), (1, .int a1)]) dX9_latestOrder_85 rfl (by decide) (by decide) (fun _ => rfl) (fun x4 => ?_)
      refine g_goto (tgt := 4) hC dX9_latestOrder_88 (by decide) ?_
      refine g_sub (lv1 := [(0, .ref (zad Z 9)), (1, .int a1), (2, .int a2), (3, .int x4)]) [3, 4, 1, 0] rfl ?_
      exact hs4 M a1 a2 x4
set_option maxRecDepth 20000 in
set_option maxHeartbeats 4000000 in
theorem g_X9_latestOrder_b48 {p : Program} {l : Launch} {e : Env} {s : State} {m : MethodId} {args : Array Value} {below : List Frame} {meth : Method} {c : Code} {Z : gZ} (hC : gC p l s m args meth c cX9_latestOrder 5 RX9 (some .int) Z) {self4 : gM → Int32 → Int32 → Int32 → gR} (hs4 : ∀ (M : gM) (a1 : Int32) (a2 : Int32) (a3 : Int32) , gW p l e rm_X9_latestOrder s m args below meth c 5 Z 1 0 0 M 4 [(0, .ref (zad Z 9)), (1, .int a1), (2, .int a2), (3, .int a3)] [] (self4 M a1 a2 a3)) (M : gM) (a1 : Int32) (a2 : Int32) (a3 : Int32)  : gW p l e rm_X9_latestOrder s m args below meth c 5 Z 1 0 0 M 48 [(0, .ref (zad Z 9)), (1, .int a1), (2, .int a2), (3, .int a3)] [] (f_X9_latestOrder_b48 self4 M a1 a2 a3 ) := by
  unfold f_X9_latestOrder_b48
  refine g_iconst hC (v := 1) dX9_latestOrder_48 (by decide) ?_
  refine g_goto (tgt := 53) hC dX9_latestOrder_49 (by decide) ?_
  exact g_X9_latestOrder_b53 hC hs4 M a1 a2 a3 1
set_option maxRecDepth 20000 in
set_option maxHeartbeats 4000000 in
theorem g_X9_latestOrder_lb4 {p : Program} {l : Launch} {e : Env} {s : State} {m : MethodId} {args : Array Value} {below : List Frame} {meth : Method} {c : Code} {Z : gZ} (hC : gC p l s m args meth c cX9_latestOrder 5 RX9 (some .int) Z)  {self4 : gM → Int32 → Int32 → Int32 → gR}  (hs4 : ∀ (M : gM) (a1 : Int32) (a2 : Int32) (a3 : Int32) , gW p l e rm_X9_latestOrder s m args below meth c 5 Z 1 0 0 M 4 [(0, .ref (zad Z 9)), (1, .int a1), (2, .int a2), (3, .int a3)] [] (self4 M a1 a2 a3)) (M : gM) (a1 : Int32) (a2 : Int32) (a3 : Int32) : gW p l e rm_X9_latestOrder s m args below meth c 5 Z 1 0 0 M 4 [(0, .ref (zad Z 9)), (1, .int a1), (2, .int a2), (3, .int a3)] [] (f_X9_latestOrder_lb4  self4 M a1 a2 a3) := by
  unfold f_X9_latestOrder_lb4
  refine g_iload_n hC 3 dX9_latestOrder_4 rfl rfl ?_
  refine g_aload_n hC 0 dX9_latestOrder_5 rfl rfl ?_
  refine gf_X9_171 hC dX9_latestOrder_6 ?_
  refine g_icmp_ge (tgt := 91) hC dX9_latestOrder_9 (by decide) (fun _ => ?_) (fun _ => ?_)
  · refine g_iload_n hC 2 dX9_latestOrder_91 rfl rfl ?_
    exact g_iret hC rfl (by decide) dX9_latestOrder_92
  · refine g_aload_n hC 0 dX9_latestOrder_12 rfl rfl ?_
    refine gf_X9_65 hC dX9_latestOrder_13 ?_
    refine g_iload_n hC 3 dX9_latestOrder_16 rfl rfl ?_
    refine g_iald hC 120 (by decide) rfl dX9_latestOrder_17 ?_
    refine g_iconst hC (v := 4) dX9_latestOrder_18 (by decide) ?_
    refine g_icmp_eq (tgt := 48) hC dX9_latestOrder_19 (by decide) (fun _ => ?_) (fun _ => ?_)
    · exact g_X9_latestOrder_b48 hC hs4 M a1 a2 a3
    · refine g_aload_n hC 0 dX9_latestOrder_22 rfl rfl ?_
      refine gf_X9_65 hC dX9_latestOrder_23 ?_
      refine g_iload_n hC 3 dX9_latestOrder_26 rfl rfl ?_
      refine g_iald hC 120 (by decide) rfl dX9_latestOrder_27 ?_
      refine g_iconst hC (v := 5) dX9_latestOrder_28 (by decide) ?_
      refine g_icmp_eq (tgt := 48) hC dX9_latestOrder_29 (by decide) (fun _ => ?_) (fun _ => ?_)
      · exact g_X9_latestOrder_b48 hC hs4 M a1 a2 a3
      · refine g_aload_n hC 0 dX9_latestOrder_32 rfl rfl ?_
        refine gf_X9_65 hC dX9_latestOrder_33 ?_
        refine g_iload_n hC 3 dX9_latestOrder_36 rfl rfl ?_
        refine g_iald hC 120 (by decide) rfl dX9_latestOrder_37 ?_
        refine g_bipush hC (v := 7) dX9_latestOrder_38 (by decide) ?_
        refine g_bipush hC (v := 10) dX9_latestOrder_40 (by decide) ?_
        refine g_callSi (n := 3) hC [.int (M 120 a3.toNatClampNeg), .int 7, .int 10] (fun hne => c_X9_within hC.2.2.2.2.2.2.2.1 Z M (M 120 a3.toNatClampNeg) 7 10 hne) lk_X9_148 mw_X9_within.1 mw_X9_within.2.1 mw_X9_within.2.2 ⟨by decide, by decide, by decide +kernel⟩ rfl rfl ⟨by decide, by decide⟩ rfl rfl (Nat.le_of_ble_eq_true rfl) (by decide) (by decide) (by decide) dX9_latestOrder_42 (fun x6 M5 => ?_)
        refine g_if_eq (tgt := 52) hC dX9_latestOrder_45 (by decide) (fun _ => ?_) (fun _ => ?_)
        · refine g_iconst hC (v := 0) dX9_latestOrder_52 (by decide) ?_
          exact g_X9_latestOrder_b53 hC hs4 M5 a1 a2 a3 0
        · exact g_X9_latestOrder_b48 hC hs4 M5 a1 a2 a3
set_option maxRecDepth 20000 in
set_option maxHeartbeats 4000000 in
theorem g_X9_latestOrder_l4 {p : Program} {l : Launch} {e : Env} {s : State} {m : MethodId} {args : Array Value} {below : List Frame} {meth : Method} {c : Code} {Z : gZ} (hC : gC p l s m args meth c cX9_latestOrder 5 RX9 (some .int) Z)   : ∀ (n : Nat) (M : gM) (a1 : Int32) (a2 : Int32) (a3 : Int32), gW p l e rm_X9_latestOrder s m args below meth c 5 Z 1 0 0 M 4 [(0, .ref (zad Z 9)), (1, .int a1), (2, .int a2), (3, .int a3)] [] (f_X9_latestOrder_l4  n M a1 a2 a3)
  | 0, _, _, _, _ => g_stuck
  | n + 1, M, a1, a2, a3 => g_X9_latestOrder_lb4 hC  (g_X9_latestOrder_l4 hC  n) M a1 a2 a3
set_option maxRecDepth 20000 in
set_option maxHeartbeats 4000000 in
theorem c_X9_latestOrder {l : Launch} (hfl : l.stackTraces = false) (Z : gZ) (M : gM) (a1 : Int32) : gMet l yX9_latestOrder cX9_latestOrder 5 (some .int) rm_X9_latestOrder 1 0 Z M [.ref (zad Z 9), .int a1] (f_X9_latestOrder M a1) := by
  refine g_enter hfl (by decide) (Nat.le_of_ble_eq_true rfl) (fun p e s m args below meth c hC => ?_)
  refine g_eq (F := f_X9_latestOrder M a1) rfl ?_
  refine g_lv0 (lv1 := [(0, .ref (zad Z 9)), (1, .int a1)]) rfl ?_
  unfold f_X9_latestOrder
  refine g_iconst hC (v := (-1)) dX9_latestOrder_0 (by decide) ?_
  refine g_istore_n hC (lv1 := [(2, .int (-1)), (0, .ref (zad Z 9)), (1, .int a1)]) dX9_latestOrder_1 rfl (by decide) rfl ?_
  refine g_iconst hC (v := 0) dX9_latestOrder_2 (by decide) ?_
  refine g_istore_n hC (lv1 := [(3, .int 0), (2, .int (-1)), (0, .ref (zad Z 9)), (1, .int a1)]) dX9_latestOrder_3 rfl (by decide) rfl ?_
  refine g_sub (lv1 := [(0, .ref (zad Z 9)), (1, .int a1), (2, .int (-1)), (3, .int 0)]) [2, 3, 1, 0] rfl ?_
  exact g_X9_latestOrder_l4 hC  5000 M a1 (-1) 0
