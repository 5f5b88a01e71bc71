-- ===== L_agrees =====
def f_L_agrees_b171 (self34 : gM → Int32 → Int32 → Int32 → Int32 → gR) (M : gM) (a1 : Int32) (a3 : Int32) (a5 : Int32) (a6 : Int64) (t0 : Int32) : gR := (gI a5 24 (bM (gset M 146 a5.toNatClampNeg a6.toInt32) (fun M1 => (bV (a5 + 1) (fun x2 => (self34 M1 a1 a3 t0 x2))))))
def f_L_agrees_b170 (self34 : gM → Int32 → Int32 → Int32 → Int32 → gR) (M : gM) (a1 : Int32) (a3 : Int32) (a5 : Int32) (a6 : Int64) : gR := (f_L_agrees_b171 self34 M a1 a3 a5 a6 0)
def f_L_agrees_b141 (self34 : gM → Int32 → Int32 → Int32 → Int32 → gR) (M : gM) (a1 : Int32) (a3 : Int32) (a5 : Int32) (a6 : Int64) (t0 : Int32) (t1 : Int32) : gR := (if t0 = t1 then (qb (f_W_balance M a5) (fun x2 M1 => (if x2 < 0 then (f_L_agrees_b170 self34 M1 a1 a3 a5 a6) else (qb (f_W_caseOf M1 a5) (fun x4 M3 => (if x4 < 0 then (f_L_agrees_b170 self34 M3 a1 a3 a5 a6) else (f_L_agrees_b171 self34 M3 a1 a3 a5 a6 1))))))) else (f_L_agrees_b170 self34 M a1 a3 a5 a6))
def f_L_agrees_b127 (self34 : gM → Int32 → Int32 → Int32 → Int32 → gR) (M : gM) (a1 : Int32) (a3 : Int32) (a5 : Int32) (a6 : Int64) (t0 : Int32) : gR := (if a6 = 2 then (f_L_agrees_b141 self34 M a1 a3 a5 a6 t0 1) else (f_L_agrees_b141 self34 M a1 a3 a5 a6 t0 0))
def f_L_agrees_b100 (self34 : gM → Int32 → Int32 → Int32 → Int32 → gR) (M : gM) (a1 : Int32) (a3 : Int32) (a5 : Int32) (a6 : Int64) : gR := (qb (f_W_amountOf M a5) (fun x2 M1 => (if x2 < 1 then (f_L_agrees_b170 self34 M1 a1 a3 a5 a6) else (qb (f_W_balance M1 a5) (fun x4 M3 => (if x4 ≤ 0 then (f_L_agrees_b127 self34 M3 a1 a3 a5 a6 0) else (f_L_agrees_b127 self34 M3 a1 a3 a5 a6 1)))))))
def f_L_agrees_b262 (M : gM)  : gR := (gZ01 1 (rRet 1 M))
def f_L_agrees_b186 (M : gM) (a1 : Int32) (a3 : Int32) (a4 : Int32) : gR := (if a1 ≤ 0 then (gZ01 a4 (rRet a4 M)) else (if a4 = 0 then (gZ01 a4 (rRet a4 M)) else (gNz a1 (bV (a3 - a3 / a1 * a1) (fun x1 => (gNz 64 (gNz 2 (bV (((a3 / 64) - (a3 / 64) / 2 * 2) * 2) (fun x2 => (qb (f_W_due M x2 x1) (fun x4 M3 => (qb (f_W_dueByDays M3 x2 x1) (fun x6 M5 => (if x4 = x6 then (if x2 = 0 then (f_L_agrees_b262 M5 ) else (qb (f_W_stateOf M5 x1) (fun x8 M7 => (if x8 = 2 then (f_L_agrees_b262 M7 ) else (qb (f_W_due M7 2 x1) (fun x10 M9 => (if x10 = (-1) then (f_L_agrees_b262 M9 ) else (gZ01 0 (rRet 0 M9))))))))) else (gZ01 0 (rRet 0 M5))))))))))))))))
def f_L_agrees_lb34 (self34 : gM → Int32 → Int32 → Int32 → Int32 → gR) (M : gM) (a1 : Int32) (a3 : Int32) (a4 : Int32) (a5 : Int32) : gR := (if a1 ≤ a5 then (f_L_agrees_b186 M a1 a3 a4) else (if a4 = 0 then (f_L_agrees_b186 M a1 a3 a4) else (qb (f_W_stateOf M a5) (fun x2 M1 => (if x2 < 0 then (f_L_agrees_b170 self34 M1 a1 a3 a5 x2) else (if (5 : Int64) < x2 then (f_L_agrees_b170 self34 M1 a1 a3 a5 x2) else (qb (f_W_stateByDocket M1 a5) (fun x4 M3 => (if x4 = x2 then (gI a5 24 (if (M3 146 a5.toNatClampNeg) < 4 then (f_L_agrees_b100 self34 M3 a1 a3 a5 x2) else (gI a5 24 (if (M3 146 a5.toNatClampNeg).toInt64 = x2 then (f_L_agrees_b100 self34 M3 a1 a3 a5 x2) else (f_L_agrees_b170 self34 M3 a1 a3 a5 x2))))) else (f_L_agrees_b170 self34 M3 a1 a3 a5 x2))))))))))
def f_L_agrees_l34 : Nat → gM → Int32 → Int32 → Int32 → Int32 → gR
  | 0, _, _, _, _, _ => rStuck
  | n + 1, M, a1, a3, a4, a5 => f_L_agrees_lb34 (f_L_agrees_l34 n) M a1 a3 a4 a5
def f_L_agrees_b29 (M : gM) (a1 : Int32) (a3 : Int32) (t0 : Int32) : gR := (f_L_agrees_l34 25 M a1 a3 t0 0)
def f_L_agrees_b28 (M : gM) (a1 : Int32) (a3 : Int32) : gR := (f_L_agrees_b29 M a1 a3 0)
def f_L_agrees (M : gM) (a1 : Int32) (a3 : Int32) : gR := (qb (f_W_stateOf M a1) (fun x2 M1 => (if x2 = (-9000000000000000001) then (qb (f_W_balance M1 (-1)) (fun x4 M3 => (if x4 = (-9000000000000000001) then (f_L_agrees_b29 M3 a1 a3 1) else (f_L_agrees_b28 M3 a1 a3)))) else (f_L_agrees_b28 M1 a1 a3))))
abbrev rm_L_agrees : Room := { frames := 11, cells := 159, slots := 954, locals := 202 }
set_option maxRecDepth 20000 in
set_option maxHeartbeats 4000000 in
theorem g_L_agrees_b171 {p : Program} {l : Launch} {e : Env} {s : State} {m : MethodId} {args : Array Value} {below : List Frame} {meth : Method} {c : Code} {Z : gZ} (hfl : l.stackTraces = false) (hC : gD p s m args c cL_agrees 8 RL Z) (hNc : gNc s) (hlk : meth.locks = false) (hrt : meth.sig.returnType = some .boolean) {self34 : gM → Int32 → Int32 → Int32 → Int32 → gR} {kk : Nat} (hk : kk + 6 ≤ 152) (hs34 : ∀ (M : gM) (a1 : Int32) (a3 : Int32) (a4 : Int32) (a5 : Int32), gY p l e rm_L_agrees s m args below meth c 8 Z (fun F => vx_MQ below (gQc 1 Z F) (gXc Z F) args s 159 (6 * 159) (zA Z)) (kk + 6) M 34 [(0, .ref (zad Z 0)), (1, .int a1), (2, .ref (zad Z 146)), (3, .int a3), (4, .int a4), (5, .int a5)] [] (self34 M a1 a3 a4 a5)) (M : gM) (a1 : Int32) (a3 : Int32) (a5 : Int32) (a6 : Int64) (t0 : Int32) : gY p l e rm_L_agrees s m args below meth c 8 Z (fun F => vx_MQ below (gQc 1 Z F) (gXc Z F) args s 159 (6 * 159) (zA Z)) (kk + 6) M 171 [(0, .ref (zad Z 0)), (1, .int a1), (2, .ref (zad Z 146)), (3, .int a3), (5, .int a5), (6, .long a6)] [.int t0] (f_L_agrees_b171 self34 M a1 a3 a5 a6 t0) := by
  unfold f_L_agrees_b171
  refine h_istore hC (lv1 := [(4, .int t0), (0, .ref (zad Z 0)), (1, .int a1), (2, .ref (zad Z 146)), (3, .int a3), (5, .int a5), (6, .long a6)]) dL_agrees_171 (by decide) rfl ?_
  refine h_aload_n hC 3 dL_agrees_173 rfl rfl ?_
  refine h_iload hC 5 dL_agrees_174 rfl ?_
  refine h_lload hC 6 dL_agrees_176 rfl ?_
  refine h_l2i hC dL_agrees_178 ?_
  refine h_iast hC 146 (by decide) rfl dL_agrees_179 (fun M1 => ?_)
  refine h_iinc hC 5 (v := 1) (fun x2 => [(5, .int x2), (4, .int t0), (0, .ref (zad Z 0)), (1, .int a1), (2, .ref (zad Z 146)), (3, .int a3), (6, .long a6)]) dL_agrees_180 rfl (by decide) (by decide) (fun _ => rfl) (fun x2 => ?_)
  refine h_goto (tgt := 34) hC dL_agrees_183 (by decide) ?_
  refine h_sub (lv1 := [(0, .ref (zad Z 0)), (1, .int a1), (2, .ref (zad Z 146)), (3, .int a3), (4, .int t0), (5, .int x2)]) [2, 3, 4, 5, 1, 0] rfl ?_
  refine h_widen (k1 := kk + 6) (by omega) ?_
  exact hs34 M1 a1 a3 t0 x2
set_option maxRecDepth 20000 in
set_option maxHeartbeats 4000000 in
theorem g_L_agrees_b170 {p : Program} {l : Launch} {e : Env} {s : State} {m : MethodId} {args : Array Value} {below : List Frame} {meth : Method} {c : Code} {Z : gZ} (hfl : l.stackTraces = false) (hC : gD p s m args c cL_agrees 8 RL Z) (hNc : gNc s) (hlk : meth.locks = false) (hrt : meth.sig.returnType = some .boolean) {self34 : gM → Int32 → Int32 → Int32 → Int32 → gR} {kk : Nat} (hk : kk + 6 ≤ 152) (hs34 : ∀ (M : gM) (a1 : Int32) (a3 : Int32) (a4 : Int32) (a5 : Int32), gY p l e rm_L_agrees s m args below meth c 8 Z (fun F => vx_MQ below (gQc 1 Z F) (gXc Z F) args s 159 (6 * 159) (zA Z)) (kk + 6) M 34 [(0, .ref (zad Z 0)), (1, .int a1), (2, .ref (zad Z 146)), (3, .int a3), (4, .int a4), (5, .int a5)] [] (self34 M a1 a3 a4 a5)) (M : gM) (a1 : Int32) (a3 : Int32) (a5 : Int32) (a6 : Int64) : gY p l e rm_L_agrees s m args below meth c 8 Z (fun F => vx_MQ below (gQc 1 Z F) (gXc Z F) args s 159 (6 * 159) (zA Z)) (kk + 6) M 170 [(0, .ref (zad Z 0)), (1, .int a1), (2, .ref (zad Z 146)), (3, .int a3), (5, .int a5), (6, .long a6)] [] (f_L_agrees_b170 self34 M a1 a3 a5 a6) := by
  unfold f_L_agrees_b170
  refine h_iconst hC (v := 0) dL_agrees_170 (by decide) ?_
  exact g_L_agrees_b171 hfl hC hNc hlk hrt hk hs34 M a1 a3 a5 a6 0
set_option maxRecDepth 20000 in
set_option maxHeartbeats 4000000 in
theorem g_L_agrees_b141 {p : Program} {l : Launch} {e : Env} {s : State} {m : MethodId} {args : Array Value} {below : List Frame} {meth : Method} {c : Code} {Z : gZ} (hfl : l.stackTraces = false) (hC : gD p s m args c cL_agrees 8 RL Z) (hNc : gNc s) (hlk : meth.locks = false) (hrt : meth.sig.returnType = some .boolean) {self34 : gM → Int32 → Int32 → Int32 → Int32 → gR} {kk : Nat} (hk : kk + 6 ≤ 152) (hs34 : ∀ (M : gM) (a1 : Int32) (a3 : Int32) (a4 : Int32) (a5 : Int32), gY p l e rm_L_agrees s m args below meth c 8 Z (fun F => vx_MQ below (gQc 1 Z F) (gXc Z F) args s 159 (6 * 159) (zA Z)) (kk + 6) M 34 [(0, .ref (zad Z 0)), (1, .int a1), (2, .ref (zad Z 146)), (3, .int a3), (4, .int a4), (5, .int a5)] [] (self34 M a1 a3 a4 a5)) (M : gM) (a1 : Int32) (a3 : Int32) (a5 : Int32) (a6 : Int64) (t0 : Int32) (t1 : Int32) : gY p l e rm_L_agrees s m args below meth c 8 Z (fun F => vx_MQ below (gQc 1 Z F) (gXc Z F) args s 159 (6 * 159) (zA Z)) (kk + 4) M 141 [(0, .ref (zad Z 0)), (1, .int a1), (2, .ref (zad Z 146)), (3, .int a3), (5, .int a5), (6, .long a6)] [.int t1, .int t0] (f_L_agrees_b141 self34 M a1 a3 a5 a6 t0 t1) := by
  unfold f_L_agrees_b141
  refine h_icmp_ne (tgt := 170) hC dL_agrees_141 (by decide) (fun _ => ?_) (fun _ => ?_)
  · refine h_aload_n hC 0 dL_agrees_144 rfl rfl ?_
    refine h_iload hC 4 dL_agrees_145 rfl ?_
    refine h_callW (n := 2) hC [.ref (zad Z 0), .int a5] hNc (c_L_balance hfl Z M a5) lk_L_187 mw_L_balance.1 mw_L_balance.2.1 mw_L_balance.2.2 ⟨by decide, by decide, by decide +kernel⟩ rfl rfl ⟨by decide, by decide⟩ rfl rfl (Nat.le_of_ble_eq_true rfl) (show (kk + 4) + 1 ≤ 159 from by omega) (show 6 * ((kk + 4) + 1) ≤ 954 from by omega) dL_agrees_147 (fun x2 M1 => ?_)
    refine h_lconst hC (v := 0) dL_agrees_150 (by decide) ?_
    refine h_lcmp_lt (tgt := 170) hC dL_agrees_151 dL_agrees_152 (by decide) (fun _ => ?_) (fun _ => ?_)
    · refine h_widen (k1 := (kk + 6)) (by omega) ?_
      exact g_L_agrees_b170 hfl hC hNc hlk hrt hk hs34 M1 a1 a3 a5 a6
    · refine h_aload_n hC 0 dL_agrees_155 rfl rfl ?_
      refine h_iload hC 4 dL_agrees_156 rfl ?_
      refine h_callW (n := 2) hC [.ref (zad Z 0), .int a5] hNc (c_L_caseOf hfl Z M1 a5) lk_L_197 mw_L_caseOf.1 mw_L_caseOf.2.1 mw_L_caseOf.2.2 ⟨by decide, by decide, by decide +kernel⟩ rfl rfl ⟨by decide, by decide⟩ rfl rfl (Nat.le_of_ble_eq_true rfl) (show (kk + 5) + 1 ≤ 159 from by omega) (show 6 * ((kk + 5) + 1) ≤ 954 from by omega) dL_agrees_158 (fun x4 M3 => ?_)
      refine h_lconst hC (v := 0) dL_agrees_161 (by decide) ?_
      refine h_lcmp_lt (tgt := 170) hC dL_agrees_162 dL_agrees_163 (by decide) (fun _ => ?_) (fun _ => ?_)
      · exact g_L_agrees_b170 hfl hC hNc hlk hrt hk hs34 M3 a1 a3 a5 a6
      · refine h_iconst hC (v := 1) dL_agrees_166 (by decide) ?_
        refine h_goto (tgt := 171) hC dL_agrees_167 (by decide) ?_
        exact g_L_agrees_b171 hfl hC hNc hlk hrt hk hs34 M3 a1 a3 a5 a6 1
  · refine h_widen (k1 := (kk + 6)) (by omega) ?_
    exact g_L_agrees_b170 hfl hC hNc hlk hrt hk hs34 M a1 a3 a5 a6
set_option maxRecDepth 20000 in
set_option maxHeartbeats 4000000 in
theorem g_L_agrees_b127 {p : Program} {l : Launch} {e : Env} {s : State} {m : MethodId} {args : Array Value} {below : List Frame} {meth : Method} {c : Code} {Z : gZ} (hfl : l.stackTraces = false) (hC : gD p s m args c cL_agrees 8 RL Z) (hNc : gNc s) (hlk : meth.locks = false) (hrt : meth.sig.returnType = some .boolean) {self34 : gM → Int32 → Int32 → Int32 → Int32 → gR} {kk : Nat} (hk : kk + 6 ≤ 152) (hs34 : ∀ (M : gM) (a1 : Int32) (a3 : Int32) (a4 : Int32) (a5 : Int32), gY p l e rm_L_agrees s m args below meth c 8 Z (fun F => vx_MQ below (gQc 1 Z F) (gXc Z F) args s 159 (6 * 159) (zA Z)) (kk + 6) M 34 [(0, .ref (zad Z 0)), (1, .int a1), (2, .ref (zad Z 146)), (3, .int a3), (4, .int a4), (5, .int a5)] [] (self34 M a1 a3 a4 a5)) (M : gM) (a1 : Int32) (a3 : Int32) (a5 : Int32) (a6 : Int64) (t0 : Int32) : gY p l e rm_L_agrees s m args below meth c 8 Z (fun F => vx_MQ below (gQc 1 Z F) (gXc Z F) args s 159 (6 * 159) (zA Z)) (kk + 4) M 127 [(0, .ref (zad Z 0)), (1, .int a1), (2, .ref (zad Z 146)), (3, .int a3), (5, .int a5), (6, .long a6)] [.int t0] (f_L_agrees_b127 self34 M a1 a3 a5 a6 t0) := by
  unfold f_L_agrees_b127
  refine h_lload hC 5 dL_agrees_127 rfl ?_
  refine h_ldc2 hC (v := 2) lc_L_195 dL_agrees_129 ?_
  refine h_lcmp_ne (tgt := 140) hC dL_agrees_132 dL_agrees_133 (by decide) (fun _ => ?_) (fun _ => ?_)
  · refine h_iconst hC (v := 1) dL_agrees_136 (by decide) ?_
    refine h_goto (tgt := 141) hC dL_agrees_137 (by decide) ?_
    exact g_L_agrees_b141 hfl hC hNc hlk hrt hk hs34 M a1 a3 a5 a6 t0 1
  · refine h_iconst hC (v := 0) dL_agrees_140 (by decide) ?_
    exact g_L_agrees_b141 hfl hC hNc hlk hrt hk hs34 M a1 a3 a5 a6 t0 0
set_option maxRecDepth 20000 in
set_option maxHeartbeats 4000000 in
theorem g_L_agrees_b100 {p : Program} {l : Launch} {e : Env} {s : State} {m : MethodId} {args : Array Value} {below : List Frame} {meth : Method} {c : Code} {Z : gZ} (hfl : l.stackTraces = false) (hC : gD p s m args c cL_agrees 8 RL Z) (hNc : gNc s) (hlk : meth.locks = false) (hrt : meth.sig.returnType = some .boolean) {self34 : gM → Int32 → Int32 → Int32 → Int32 → gR} {kk : Nat} (hk : kk + 6 ≤ 152) (hs34 : ∀ (M : gM) (a1 : Int32) (a3 : Int32) (a4 : Int32) (a5 : Int32), gY p l e rm_L_agrees s m args below meth c 8 Z (fun F => vx_MQ below (gQc 1 Z F) (gXc Z F) args s 159 (6 * 159) (zA Z)) (kk + 6) M 34 [(0, .ref (zad Z 0)), (1, .int a1), (2, .ref (zad Z 146)), (3, .int a3), (4, .int a4), (5, .int a5)] [] (self34 M a1 a3 a4 a5)) (M : gM) (a1 : Int32) (a3 : Int32) (a5 : Int32) (a6 : Int64) : gY p l e rm_L_agrees s m args below meth c 8 Z (fun F => vx_MQ below (gQc 1 Z F) (gXc Z F) args s 159 (6 * 159) (zA Z)) (kk + 2) M 100 [(0, .ref (zad Z 0)), (1, .int a1), (2, .ref (zad Z 146)), (3, .int a3), (5, .int a5), (6, .long a6)] [] (f_L_agrees_b100 self34 M a1 a3 a5 a6) := by
  unfold f_L_agrees_b100
  refine h_aload_n hC 0 dL_agrees_100 rfl rfl ?_
  refine h_iload hC 4 dL_agrees_101 rfl ?_
  refine h_callW (n := 2) hC [.ref (zad Z 0), .int a5] hNc (c_L_amountOf hfl Z M a5) lk_L_193 mw_L_amountOf.1 mw_L_amountOf.2.1 mw_L_amountOf.2.2 ⟨by decide, by decide, by decide +kernel⟩ rfl rfl ⟨by decide, by decide⟩ rfl rfl (Nat.le_of_ble_eq_true rfl) (show (kk + 2) + 1 ≤ 159 from by omega) (show 6 * ((kk + 2) + 1) ≤ 954 from by omega) dL_agrees_103 (fun x2 M1 => ?_)
  refine h_lconst hC (v := 1) dL_agrees_106 (by decide) ?_
  refine h_lcmp_lt (tgt := 170) hC dL_agrees_107 dL_agrees_108 (by decide) (fun _ => ?_) (fun _ => ?_)
  · refine h_widen (k1 := (kk + 6)) (by omega) ?_
    exact g_L_agrees_b170 hfl hC hNc hlk hrt hk hs34 M1 a1 a3 a5 a6
  · refine h_aload_n hC 0 dL_agrees_111 rfl rfl ?_
    refine h_iload hC 4 dL_agrees_112 rfl ?_
    refine h_callW (n := 2) hC [.ref (zad Z 0), .int a5] hNc (c_L_balance hfl Z M1 a5) lk_L_187 mw_L_balance.1 mw_L_balance.2.1 mw_L_balance.2.2 ⟨by decide, by decide, by decide +kernel⟩ rfl rfl ⟨by decide, by decide⟩ rfl rfl (Nat.le_of_ble_eq_true rfl) (show (kk + 3) + 1 ≤ 159 from by omega) (show 6 * ((kk + 3) + 1) ≤ 954 from by omega) dL_agrees_114 (fun x4 M3 => ?_)
    refine h_lconst hC (v := 0) dL_agrees_117 (by decide) ?_
    refine h_lcmp_le (tgt := 126) hC dL_agrees_118 dL_agrees_119 (by decide) (fun _ => ?_) (fun _ => ?_)
    · refine h_iconst hC (v := 0) dL_agrees_126 (by decide) ?_
      exact g_L_agrees_b127 hfl hC hNc hlk hrt hk hs34 M3 a1 a3 a5 a6 0
    · refine h_iconst hC (v := 1) dL_agrees_122 (by decide) ?_
      refine h_goto (tgt := 127) hC dL_agrees_123 (by decide) ?_
      exact g_L_agrees_b127 hfl hC hNc hlk hrt hk hs34 M3 a1 a3 a5 a6 1
set_option maxRecDepth 20000 in
set_option maxHeartbeats 4000000 in
theorem g_L_agrees_b262 {p : Program} {l : Launch} {e : Env} {s : State} {m : MethodId} {args : Array Value} {below : List Frame} {meth : Method} {c : Code} {Z : gZ} (hfl : l.stackTraces = false) (hC : gD p s m args c cL_agrees 8 RL Z) (hNc : gNc s) (hlk : meth.locks = false) (hrt : meth.sig.returnType = some .boolean) (M : gM)  : gY p l e rm_L_agrees s m args below meth c 8 Z (fun F => vx_MQ below (gQc 1 Z F) (gXc Z F) args s 159 (6 * 159) (zA Z)) 159 M 262 [] [] (f_L_agrees_b262 M ) := by
  unfold f_L_agrees_b262
  refine h_iconst hC (v := 1) dL_agrees_262 (by decide) ?_
  refine h_goto (tgt := 267) hC dL_agrees_263 (by decide) ?_
  refine h_istore hC (lv1 := [(4, .int 1)]) dL_agrees_267 (by decide) rfl ?_
  refine h_iload hC 0 dL_agrees_269 rfl ?_
  exact h_zret hC hlk hrt (Nat.le_of_ble_eq_true rfl) dL_agrees_271
set_option maxRecDepth 20000 in
set_option maxHeartbeats 4000000 in
theorem g_L_agrees_b186 {p : Program} {l : Launch} {e : Env} {s : State} {m : MethodId} {args : Array Value} {below : List Frame} {meth : Method} {c : Code} {Z : gZ} (hfl : l.stackTraces = false) (hC : gD p s m args c cL_agrees 8 RL Z) (hNc : gNc s) (hlk : meth.locks = false) (hrt : meth.sig.returnType = some .boolean) (M : gM) (a1 : Int32) (a3 : Int32) (a4 : Int32) : gY p l e rm_L_agrees s m args below meth c 8 Z (fun F => vx_MQ below (gQc 1 Z F) (gXc Z F) args s 159 (6 * 159) (zA Z)) 152 M 186 [(0, .ref (zad Z 0)), (1, .int a1), (3, .int a3), (4, .int a4)] [] (f_L_agrees_b186 M a1 a3 a4) := by
  unfold f_L_agrees_b186
  refine h_iload_n hC 1 dL_agrees_186 rfl rfl ?_
  refine h_if_le (tgt := 269) hC dL_agrees_187 (by decide) (fun _ => ?_) (fun _ => ?_)
  · refine h_iload hC 3 dL_agrees_269 rfl ?_
    exact h_zret hC hlk hrt (Nat.le_of_ble_eq_true rfl) dL_agrees_271
  · refine h_iload hC 3 dL_agrees_190 rfl ?_
    refine h_if_eq (tgt := 269) hC dL_agrees_192 (by decide) (fun _ => ?_) (fun _ => ?_)
    · refine h_iload hC 3 dL_agrees_269 rfl ?_
      exact h_zret hC hlk hrt (Nat.le_of_ble_eq_true rfl) dL_agrees_271
    · refine h_iload_n hC 2 dL_agrees_195 rfl rfl ?_
      refine h_iload_n hC 1 dL_agrees_196 rfl rfl ?_
      refine h_irem hC dL_agrees_197 ?_
      refine h_bv (fun x1 => ?_)
      refine h_istore hC (lv1 := [(5, .int x1), (0, .ref (zad Z 0)), (1, .int a1), (3, .int a3), (4, .int a4)]) dL_agrees_198 (by decide) rfl ?_
      refine h_iload_n hC 3 dL_agrees_200 rfl rfl ?_
      refine h_bipush hC (v := 64) dL_agrees_201 (by decide) ?_
      refine h_idiv hC dL_agrees_203 ?_
      refine h_iconst hC (v := 2) dL_agrees_204 (by decide) ?_
      refine h_irem hC dL_agrees_205 ?_
      refine h_iconst hC (v := 2) dL_agrees_206 (by decide) ?_
      refine h_imul hC dL_agrees_207 ?_
      refine h_bv (fun x2 => ?_)
      refine h_istore hC (lv1 := [(6, .int x2), (5, .int x1), (0, .ref (zad Z 0)), (1, .int a1), (3, .int a3), (4, .int a4)]) dL_agrees_208 (by decide) rfl ?_
      refine h_aload_n hC 2 dL_agrees_210 rfl rfl ?_
      refine h_iload hC 0 dL_agrees_211 rfl ?_
      refine h_iload hC 1 dL_agrees_213 rfl ?_
      refine h_callW (n := 3) hC [.ref (zad Z 0), .int x2, .int x1] hNc (c_L_due hfl Z M x2 x1) lk_L_199 mw_L_due.1 mw_L_due.2.1 mw_L_due.2.2 ⟨by decide, by decide, by decide +kernel⟩ rfl rfl ⟨by decide, by decide⟩ rfl rfl (Nat.le_of_ble_eq_true rfl) (Nat.le_of_ble_eq_true rfl) (Nat.le_of_ble_eq_true rfl) dL_agrees_215 (fun x4 M3 => ?_)
      refine h_aload_n hC 2 dL_agrees_218 rfl rfl ?_
      refine h_iload hC 0 dL_agrees_219 rfl ?_
      refine h_iload hC 1 dL_agrees_221 rfl ?_
      refine h_callW (n := 3) hC [.ref (zad Z 0), .int x2, .int x1] hNc (c_L_dueByDays hfl Z M3 x2 x1) lk_L_202 mw_L_dueByDays.1 mw_L_dueByDays.2.1 mw_L_dueByDays.2.2 ⟨by decide, by decide, by decide +kernel⟩ rfl rfl ⟨by decide, by decide⟩ rfl rfl (Nat.le_of_ble_eq_true rfl) (Nat.le_of_ble_eq_true rfl) (Nat.le_of_ble_eq_true rfl) dL_agrees_223 (fun x6 M5 => ?_)
      refine h_lcmp_ne (tgt := 266) hC dL_agrees_226 dL_agrees_227 (by decide) (fun _ => ?_) (fun _ => ?_)
      · refine h_iload hC 0 dL_agrees_230 rfl ?_
        refine h_if_eq (tgt := 262) hC dL_agrees_232 (by decide) (fun _ => ?_) (fun _ => ?_)
        · refine h_sub (lv1 := []) [] rfl ?_
          refine h_widen (k1 := 159) (Nat.le_of_ble_eq_true rfl) ?_
          exact g_L_agrees_b262 hfl hC hNc hlk hrt M5 
        · refine h_aload_n hC 2 dL_agrees_235 rfl rfl ?_
          refine h_iload hC 1 dL_agrees_236 rfl ?_
          refine h_callW (n := 2) hC [.ref (zad Z 0), .int x1] hNc (c_L_stateOf hfl Z M5 x1) lk_L_182 mw_L_stateOf.1 mw_L_stateOf.2.1 mw_L_stateOf.2.2 ⟨by decide, by decide, by decide +kernel⟩ rfl rfl ⟨by decide, by decide⟩ rfl rfl (Nat.le_of_ble_eq_true rfl) (Nat.le_of_ble_eq_true rfl) (Nat.le_of_ble_eq_true rfl) dL_agrees_238 (fun x8 M7 => ?_)
          refine h_ldc2 hC (v := 2) lc_L_195 dL_agrees_241 ?_
          refine h_lcmp_eq (tgt := 262) hC dL_agrees_244 dL_agrees_245 (by decide) (fun _ => ?_) (fun _ => ?_)
          · refine h_sub (lv1 := []) [] rfl ?_
            refine h_widen (k1 := 159) (Nat.le_of_ble_eq_true rfl) ?_
            exact g_L_agrees_b262 hfl hC hNc hlk hrt M7 
          · refine h_aload_n hC 2 dL_agrees_248 rfl rfl ?_
            refine h_iconst hC (v := 2) dL_agrees_249 (by decide) ?_
            refine h_iload hC 1 dL_agrees_250 rfl ?_
            refine h_callW (n := 3) hC [.ref (zad Z 0), .int 2, .int x1] hNc (c_L_due hfl Z M7 2 x1) lk_L_199 mw_L_due.1 mw_L_due.2.1 mw_L_due.2.2 ⟨by decide, by decide, by decide +kernel⟩ rfl rfl ⟨by decide, by decide⟩ rfl rfl (Nat.le_of_ble_eq_true rfl) (Nat.le_of_ble_eq_true rfl) (Nat.le_of_ble_eq_true rfl) dL_agrees_252 (fun x10 M9 => ?_)
            refine h_ldc2 hC (v := (-1)) lc_L_204 dL_agrees_255 ?_
            refine h_lcmp_ne (tgt := 266) hC dL_agrees_258 dL_agrees_259 (by decide) (fun _ => ?_) (fun _ => ?_)
            · refine h_sub (lv1 := []) [] rfl ?_
              exact g_L_agrees_b262 hfl hC hNc hlk hrt M9 
            · refine h_iconst hC (v := 0) dL_agrees_266 (by decide) ?_
              refine h_istore hC (lv1 := [(4, .int 0), (6, .int x2), (5, .int x1), (0, .ref (zad Z 0)), (1, .int a1), (3, .int a3)]) dL_agrees_267 (by decide) rfl ?_
              refine h_iload hC 0 dL_agrees_269 rfl ?_
              exact h_zret hC hlk hrt (Nat.le_of_ble_eq_true rfl) dL_agrees_271
      · refine h_iconst hC (v := 0) dL_agrees_266 (by decide) ?_
        refine h_istore hC (lv1 := [(4, .int 0), (6, .int x2), (5, .int x1), (0, .ref (zad Z 0)), (1, .int a1), (3, .int a3)]) dL_agrees_267 (by decide) rfl ?_
        refine h_iload hC 0 dL_agrees_269 rfl ?_
        exact h_zret hC hlk hrt (Nat.le_of_ble_eq_true rfl) dL_agrees_271
set_option maxRecDepth 20000 in
set_option maxHeartbeats 4000000 in
theorem g_L_agrees_lb34 {p : Program} {l : Launch} {e : Env} {s : State} {m : MethodId} {args : Array Value} {below : List Frame} {meth : Method} {c : Code} {Z : gZ} (hfl : l.stackTraces = false) (hC : gD p s m args c cL_agrees 8 RL Z) (hNc : gNc s) (hlk : meth.locks = false) (hrt : meth.sig.returnType = some .boolean) {self34 : gM → Int32 → Int32 → Int32 → Int32 → gR} {kk : Nat} (hk : kk + 6 ≤ 152) (hs34 : ∀ (M : gM) (a1 : Int32) (a3 : Int32) (a4 : Int32) (a5 : Int32), gY p l e rm_L_agrees s m args below meth c 8 Z (fun F => vx_MQ below (gQc 1 Z F) (gXc Z F) args s 159 (6 * 159) (zA Z)) (kk + 6) M 34 [(0, .ref (zad Z 0)), (1, .int a1), (2, .ref (zad Z 146)), (3, .int a3), (4, .int a4), (5, .int a5)] [] (self34 M a1 a3 a4 a5)) (M : gM) (a1 : Int32) (a3 : Int32) (a4 : Int32) (a5 : Int32) : gY p l e rm_L_agrees s m args below meth c 8 Z (fun F => vx_MQ below (gQc 1 Z F) (gXc Z F) args s 159 (6 * 159) (zA Z)) kk M 34 [(0, .ref (zad Z 0)), (1, .int a1), (2, .ref (zad Z 146)), (3, .int a3), (4, .int a4), (5, .int a5)] [] (f_L_agrees_lb34 self34 M a1 a3 a4 a5) := by
  unfold f_L_agrees_lb34
  refine h_iload hC 5 dL_agrees_34 rfl ?_
  refine h_iload_n hC 1 dL_agrees_36 rfl rfl ?_
  refine h_icmp_ge (tgt := 186) hC dL_agrees_37 (by decide) (fun _ => ?_) (fun _ => ?_)
  · refine h_widen (k1 := 152) (by omega) ?_
    refine h_sub (lv1 := [(0, .ref (zad Z 0)), (1, .int a1), (3, .int a3), (4, .int a4)]) [0, 1, 3, 4] rfl ?_
    exact g_L_agrees_b186 hfl hC hNc hlk hrt M a1 a3 a4
  · refine h_iload hC 4 dL_agrees_40 rfl ?_
    refine h_if_eq (tgt := 186) hC dL_agrees_42 (by decide) (fun _ => ?_) (fun _ => ?_)
    · refine h_widen (k1 := 152) (by omega) ?_
      refine h_sub (lv1 := [(0, .ref (zad Z 0)), (1, .int a1), (3, .int a3), (4, .int a4)]) [0, 1, 3, 4] rfl ?_
      exact g_L_agrees_b186 hfl hC hNc hlk hrt M a1 a3 a4
    · refine h_aload_n hC 0 dL_agrees_45 rfl rfl ?_
      refine h_iload hC 5 dL_agrees_46 rfl ?_
      refine h_callW (n := 2) hC [.ref (zad Z 0), .int a5] hNc (c_L_stateOf hfl Z M a5) lk_L_182 mw_L_stateOf.1 mw_L_stateOf.2.1 mw_L_stateOf.2.2 ⟨by decide, by decide, by decide +kernel⟩ rfl rfl ⟨by decide, by decide⟩ rfl rfl (Nat.le_of_ble_eq_true rfl) (show kk + 1 ≤ 159 from by omega) (show 6 * (kk + 1) ≤ 954 from by omega) dL_agrees_48 (fun x2 M1 => ?_)
      refine h_lstore hC (lv1 := [(6, .long x2), (0, .ref (zad Z 0)), (1, .int a1), (2, .ref (zad Z 146)), (3, .int a3), (4, .int a4), (5, .int a5)]) dL_agrees_51 (by decide) rfl ?_
      refine h_lload hC 0 dL_agrees_53 rfl ?_
      refine h_lconst hC (v := 0) dL_agrees_55 (by decide) ?_
      refine h_lcmp_lt (tgt := 170) hC dL_agrees_56 dL_agrees_57 (by decide) (fun _ => ?_) (fun _ => ?_)
      · refine h_sub (lv1 := [(0, .ref (zad Z 0)), (1, .int a1), (2, .ref (zad Z 146)), (3, .int a3), (5, .int a5), (6, .long x2)]) [1, 2, 3, 4, 6, 0] rfl ?_
        refine h_widen (k1 := (kk + 6)) (by omega) ?_
        exact g_L_agrees_b170 hfl hC hNc hlk hrt hk hs34 M1 a1 a3 a5 x2
      · refine h_lload hC 0 dL_agrees_60 rfl ?_
        refine h_ldc2 hC (v := 5) lc_L_189 dL_agrees_62 ?_
        refine h_lcmp_gt (tgt := 170) hC dL_agrees_65 dL_agrees_66 (by decide) (fun _ => ?_) (fun _ => ?_)
        · refine h_sub (lv1 := [(0, .ref (zad Z 0)), (1, .int a1), (2, .ref (zad Z 146)), (3, .int a3), (5, .int a5), (6, .long x2)]) [1, 2, 3, 4, 6, 0] rfl ?_
          refine h_widen (k1 := (kk + 6)) (by omega) ?_
          exact g_L_agrees_b170 hfl hC hNc hlk hrt hk hs34 M1 a1 a3 a5 x2
        · refine h_aload_n hC 1 dL_agrees_69 rfl rfl ?_
          refine h_iload hC 6 dL_agrees_70 rfl ?_
          refine h_callW (n := 2) hC [.ref (zad Z 0), .int a5] hNc (c_L_stateByDocket hfl Z M1 a5) lk_L_191 mw_L_stateByDocket.1 mw_L_stateByDocket.2.1 mw_L_stateByDocket.2.2 ⟨by decide, by decide, by decide +kernel⟩ rfl rfl ⟨by decide, by decide⟩ rfl rfl (Nat.le_of_ble_eq_true rfl) (show (kk + 1) + 1 ≤ 159 from by omega) (show 6 * ((kk + 1) + 1) ≤ 954 from by omega) dL_agrees_72 (fun x4 M3 => ?_)
          refine h_lload hC 0 dL_agrees_75 rfl ?_
          refine h_lcmp_ne (tgt := 170) hC dL_agrees_77 dL_agrees_78 (by decide) (fun _ => ?_) (fun _ => ?_)
          · refine h_aload_n hC 3 dL_agrees_81 rfl rfl ?_
            refine h_iload hC 6 dL_agrees_82 rfl ?_
            refine h_iald hC 146 (by decide) rfl dL_agrees_84 ?_
            refine h_iconst hC (v := 4) dL_agrees_85 (by decide) ?_
            refine h_icmp_lt (tgt := 100) hC dL_agrees_86 (by decide) (fun _ => ?_) (fun _ => ?_)
            · refine h_sub (lv1 := [(0, .ref (zad Z 0)), (1, .int a1), (2, .ref (zad Z 146)), (3, .int a3), (5, .int a5), (6, .long x2)]) [1, 2, 3, 4, 6, 0] rfl ?_
              exact g_L_agrees_b100 hfl hC hNc hlk hrt hk hs34 M3 a1 a3 a5 x2
            · refine h_aload_n hC 3 dL_agrees_89 rfl rfl ?_
              refine h_iload hC 6 dL_agrees_90 rfl ?_
              refine h_iald hC 146 (by decide) rfl dL_agrees_92 ?_
              refine h_i2l hC dL_agrees_93 ?_
              refine h_lload hC 0 dL_agrees_94 rfl ?_
              refine h_lcmp_ne (tgt := 170) hC dL_agrees_96 dL_agrees_97 (by decide) (fun _ => ?_) (fun _ => ?_)
              · refine h_sub (lv1 := [(0, .ref (zad Z 0)), (1, .int a1), (2, .ref (zad Z 146)), (3, .int a3), (5, .int a5), (6, .long x2)]) [1, 2, 3, 4, 6, 0] rfl ?_
                exact g_L_agrees_b100 hfl hC hNc hlk hrt hk hs34 M3 a1 a3 a5 x2
              · refine h_sub (lv1 := [(0, .ref (zad Z 0)), (1, .int a1), (2, .ref (zad Z 146)), (3, .int a3), (5, .int a5), (6, .long x2)]) [1, 2, 3, 4, 6, 0] rfl ?_
                refine h_widen (k1 := (kk + 6)) (by omega) ?_
                exact g_L_agrees_b170 hfl hC hNc hlk hrt hk hs34 M3 a1 a3 a5 x2
          · refine h_sub (lv1 := [(0, .ref (zad Z 0)), (1, .int a1), (2, .ref (zad Z 146)), (3, .int a3), (5, .int a5), (6, .long x2)]) [1, 2, 3, 4, 6, 0] rfl ?_
            refine h_widen (k1 := (kk + 6)) (by omega) ?_
            exact g_L_agrees_b170 hfl hC hNc hlk hrt hk hs34 M3 a1 a3 a5 x2
set_option maxRecDepth 20000 in
set_option maxHeartbeats 4000000 in
theorem g_L_agrees_l34 {p : Program} {l : Launch} {e : Env} {s : State} {m : MethodId} {args : Array Value} {below : List Frame} {meth : Method} {c : Code} {Z : gZ} (hfl : l.stackTraces = false) (hC : gD p s m args c cL_agrees 8 RL Z) (hNc : gNc s) (hlk : meth.locks = false) (hrt : meth.sig.returnType = some .boolean) : ∀ (n kk : Nat), kk + n * 6 ≤ 152 → ∀ (M : gM) (a1 : Int32) (a3 : Int32) (a4 : Int32) (a5 : Int32), gY p l e rm_L_agrees s m args below meth c 8 Z (fun F => vx_MQ below (gQc 1 Z F) (gXc Z F) args s 159 (6 * 159) (zA Z)) kk M 34 [(0, .ref (zad Z 0)), (1, .int a1), (2, .ref (zad Z 146)), (3, .int a3), (4, .int a4), (5, .int a5)] [] (f_L_agrees_l34 n M a1 a3 a4 a5)
  | 0, _, _, _, _, _, _, _ => h_stuck
  | n + 1, kk, hk, M, a1, a3, a4, a5 => g_L_agrees_lb34 hfl hC hNc hlk hrt (by omega) (g_L_agrees_l34 hfl hC hNc hlk hrt n (kk + 6) (by omega)) M a1 a3 a4 a5
set_option maxRecDepth 20000 in
set_option maxHeartbeats 4000000 in
theorem g_L_agrees_b29 {p : Program} {l : Launch} {e : Env} {s : State} {m : MethodId} {args : Array Value} {below : List Frame} {meth : Method} {c : Code} {Z : gZ} (hfl : l.stackTraces = false) (hC : gD p s m args c cL_agrees 8 RL Z) (hNc : gNc s) (hlk : meth.locks = false) (hrt : meth.sig.returnType = some .boolean) (M : gM) (a1 : Int32) (a3 : Int32) (t0 : Int32) : gY p l e rm_L_agrees s m args below meth c 8 Z (fun F => vx_MQ below (gQc 1 Z F) (gXc Z F) args s 159 (6 * 159) (zA Z)) 2 M 29 [(0, .ref (zad Z 0)), (1, .int a1), (2, .ref (zad Z 146)), (3, .int a3)] [.int t0] (f_L_agrees_b29 M a1 a3 t0) := by
  unfold f_L_agrees_b29
  refine h_istore hC (lv1 := [(4, .int t0), (0, .ref (zad Z 0)), (1, .int a1), (2, .ref (zad Z 146)), (3, .int a3)]) dL_agrees_29 (by decide) rfl ?_
  refine h_iconst hC (v := 0) dL_agrees_31 (by decide) ?_
  refine h_istore hC (lv1 := [(5, .int 0), (4, .int t0), (0, .ref (zad Z 0)), (1, .int a1), (2, .ref (zad Z 146)), (3, .int a3)]) dL_agrees_32 (by decide) rfl ?_
  refine h_sub (lv1 := [(0, .ref (zad Z 0)), (1, .int a1), (2, .ref (zad Z 146)), (3, .int a3), (4, .int t0), (5, .int 0)]) [2, 3, 4, 5, 1, 0] rfl ?_
  refine h_widen (k1 := 2) (Nat.le_of_ble_eq_true rfl) ?_
  exact g_L_agrees_l34 hfl hC hNc hlk hrt 25 2 (Nat.le_of_ble_eq_true rfl) M a1 a3 t0 0
set_option maxRecDepth 20000 in
set_option maxHeartbeats 4000000 in
theorem g_L_agrees_b28 {p : Program} {l : Launch} {e : Env} {s : State} {m : MethodId} {args : Array Value} {below : List Frame} {meth : Method} {c : Code} {Z : gZ} (hfl : l.stackTraces = false) (hC : gD p s m args c cL_agrees 8 RL Z) (hNc : gNc s) (hlk : meth.locks = false) (hrt : meth.sig.returnType = some .boolean) (M : gM) (a1 : Int32) (a3 : Int32) : gY p l e rm_L_agrees s m args below meth c 8 Z (fun F => vx_MQ below (gQc 1 Z F) (gXc Z F) args s 159 (6 * 159) (zA Z)) 2 M 28 [(0, .ref (zad Z 0)), (1, .int a1), (2, .ref (zad Z 146)), (3, .int a3)] [] (f_L_agrees_b28 M a1 a3) := by
  unfold f_L_agrees_b28
  refine h_iconst hC (v := 0) dL_agrees_28 (by decide) ?_
  exact g_L_agrees_b29 hfl hC hNc hlk hrt M a1 a3 0
set_option maxRecDepth 20000 in
set_option maxHeartbeats 4000000 in
theorem c_L_agrees {l : Launch} (hfl : l.stackTraces = false) (Z : gZ) (M : gM) (a1 : Int32) (a3 : Int32) : gMetB l yL_agrees cL_agrees 8 rm_L_agrees 159 Z M [.ref (zad Z 0), .int a1, .ref (zad Z 146), .int a3] (f_L_agrees M a1 a3) := by
  refine h_enter (by decide) (Nat.le_of_ble_eq_true rfl) (fun p e s m args below meth c hC hNc hlk hrt => ?_)
  refine h_lv0 (lv1 := [(0, .ref (zad Z 0)), (1, .int a1), (2, .ref (zad Z 146)), (3, .int a3)]) rfl ?_
  unfold f_L_agrees
  refine h_aload_n hC 0 dL_agrees_0 rfl rfl ?_
  refine h_iload_n hC 1 dL_agrees_1 rfl rfl ?_
  refine h_callW (n := 2) hC [.ref (zad Z 0), .int a1] hNc (c_L_stateOf hfl Z M a1) lk_L_182 mw_L_stateOf.1 mw_L_stateOf.2.1 mw_L_stateOf.2.2 ⟨by decide, by decide, by decide +kernel⟩ rfl rfl ⟨by decide, by decide⟩ rfl rfl (Nat.le_of_ble_eq_true rfl) (Nat.le_of_ble_eq_true rfl) (Nat.le_of_ble_eq_true rfl) dL_agrees_2 (fun x2 M1 => ?_)
  refine h_ldc2 hC (v := (-9000000000000000001)) lc_L_33 dL_agrees_5 ?_
  refine h_lcmp_ne (tgt := 28) hC dL_agrees_8 dL_agrees_9 (by decide) (fun _ => ?_) (fun _ => ?_)
  · refine h_aload_n hC 0 dL_agrees_12 rfl rfl ?_
    refine h_iconst hC (v := (-1)) dL_agrees_13 (by decide) ?_
    refine h_callW (n := 2) hC [.ref (zad Z 0), .int (-1)] hNc (c_L_balance hfl Z M1 (-1)) lk_L_187 mw_L_balance.1 mw_L_balance.2.1 mw_L_balance.2.2 ⟨by decide, by decide, by decide +kernel⟩ rfl rfl ⟨by decide, by decide⟩ rfl rfl (Nat.le_of_ble_eq_true rfl) (Nat.le_of_ble_eq_true rfl) (Nat.le_of_ble_eq_true rfl) dL_agrees_14 (fun x4 M3 => ?_)
    refine h_ldc2 hC (v := (-9000000000000000001)) lc_L_33 dL_agrees_17 ?_
    refine h_lcmp_ne (tgt := 28) hC dL_agrees_20 dL_agrees_21 (by decide) (fun _ => ?_) (fun _ => ?_)
    · refine h_iconst hC (v := 1) dL_agrees_24 (by decide) ?_
      refine h_goto (tgt := 29) hC dL_agrees_25 (by decide) ?_
      exact g_L_agrees_b29 hfl hC hNc hlk hrt M3 a1 a3 1
    · exact g_L_agrees_b28 hfl hC hNc hlk hrt M3 a1 a3
  · refine h_widen (k1 := 2) (Nat.le_of_ble_eq_true rfl) ?_
    exact g_L_agrees_b28 hfl hC hNc hlk hrt M1 a1 a3
