-- ===== L_about =====
def f_L_about_b60 (M : gM) (a1 : Int32) (a4 : Int32) (a7 : Int64) (t0 : Int64) (t1 : Int64) : gR := (if t0 = t1 then (if a7 = a4.toInt64 then (qb (f_W_counts M a4) (fun x2 M1 => (if x2 = 1 then (qb (f_W_respond M1 a1) (fun x4 M3 => (if x4 = (-9000000000000000003) then (gZ01 1 (rRet 1 M3)) else (gZ01 0 (rRet 0 M3))))) else (gZ01 0 (rRet 0 M1))))) else (gZ01 1 (rRet 1 M))) else (gZ01 0 (rRet 0 M)))
def f_L_about_b241 (M : gM) (a1 : Int32) (t0 : Int64) (t1 : Int64) : gR := (if t0 = t1 then (qb (f_W_ruling M a1 (-1)) (fun x2 M1 => (if x2 = (-9000000000000000003) then (gZ01 1 (rRet 1 M1)) else (gZ01 0 (rRet 0 M1))))) else (gZ01 0 (rRet 0 M)))
def f_L_about_b218 (M : gM) (a1 : Int32) (a7 : Int32) (a8 : Int64) (a10 : Int32) (t0 : Int64) (t1 : Int64) : gR := (if t0 = t1 then (qb (f_W_amountOf M a7) (fun x2 M1 => (if a10 ≤ 0 then (f_L_about_b241 M1 a1 x2 a8) else (f_L_about_b241 M1 a1 x2 a10.toInt64)))) else (gZ01 0 (rRet 0 M)))
def f_L_about_b135 (M : gM) (a1 : Int32) (a3 : Int32) (a4 : Int32) (a5 : Int64) (a7 : Int32) (t0 : Int64) : gR := (gNzL (t0 + 1) (bV ((a3.toInt64 - a3.toInt64 / (t0 + 1) * (t0 + 1)).toInt32 - 1) (fun x1 => (qb (f_W_ruling M a1 x1) (fun x3 M2 => (if a5 = 2 then (if x3 = (-9000000000000000003) then (gZ01 1 (rRet 1 M2)) else (if x3 = a4.toInt64 then (qb (f_W_stateOf M2 a7) (fun x5 M4 => (if x1 = 0 then (f_L_about_b218 M4 a1 a7 t0 x1 x5 1) else (f_L_about_b218 M4 a1 a7 t0 x1 x5 0)))) else (gZ01 0 (rRet 0 M2)))) else (if x3 = (-9000000000000000001) then (gZ01 1 (rRet 1 M2)) else (gZ01 0 (rRet 0 M2)))))))))
def f_L_about_b292 (M : gM) (a7 : Int64) : gR := (if a7 = (-9000000000000000003) then (gZ01 1 (rRet 1 M)) else (gZ01 0 (rRet 0 M)))
def f_L_about_b450 (M : gM) (a1 : Int32) (a3 : Int32) (a7 : Int32) : gR := (qb (f_W_seal M a1 a7) (fun x2 M1 => (if x2 = 0 then (if a7 = 0 then (gNz 2 (gNz 16 (rbN (f_X8_today M1 ) (fun x4 M3 => (qb (f_W_maySee M3 a1 ((a3 / 2) - (a3 / 2) / 16 * 16) x4) (fun x6 M5 => (if x6 = 1 then (gZ01 1 (rRet 1 M5)) else (gZ01 0 (rRet 0 M5))))))))) else (gZ01 1 (rRet 1 M1))) else (gZ01 0 (rRet 0 M1)))))
def f_L_about_b425 (M : gM) (a1 : Int32) (a3 : Int32) (t0 : Int32) : gR := (qb (f_W_seal M a1 t0) (fun x2 M1 => (if x2 = 0 then (f_L_about_b450 M1 a1 a3 t0) else (if x2 = 1 then (f_L_about_b450 M1 a1 a3 t0) else (gZ01 0 (rRet 0 M1))))))
def f_L_about (M : gM) (a1 : Int32) (a2 : Int32) (a3 : Int32) : gR := (rbN (f_X8_entries M ) (fun x2 M1 => (qb (f_W_entryAt M1 a1 0) (fun x4 M3 => (if a2 = 0 then (qb (f_W_respond M3 a1) (fun x6 M5 => (if x4 = 2 then (if x6 = (-9000000000000000003) then (f_L_about_b60 M5 a1 x2 x6 x6 (-9000000000000000003)) else (f_L_about_b60 M5 a1 x2 x6 x6 x2.toInt64)) else (f_L_about_b60 M5 a1 x2 x6 x6 (-9000000000000000001))))) else (if a2 = 1 then (qb (f_W_entryAt M3 a1 2) (fun x8 M7 => (bV x8.toInt32 (fun x9 => (if x4 = 2 then (qb (f_W_amountOf M7 x9) (fun x11 M10 => (f_L_about_b135 M10 a1 a3 x2 x4 x9 x11))) else (f_L_about_b135 M7 a1 a3 x2 x4 x9 0)))))) else (if a2 = 2 then (qb (f_W_defect M3 a1) (fun x13 M12 => (if x4 < 1 then (f_L_about_b292 M12 x13) else (if x4 ≤ 3 then (if x13 = (-9000000000000000003) then (gZ01 1 (rRet 1 M12)) else (qb (f_W_due M12 3 a1) (fun x15 M14 => (if x13 = x15 then (qb (f_W_counts M14 a1) (fun x17 M16 => (if x17 = 1 then (qb (f_W_defect M16 a1) (fun x19 M18 => (if x19 = (-9000000000000000003) then (gZ01 1 (rRet 1 M18)) else (gZ01 0 (rRet 0 M18))))) else (gZ01 0 (rRet 0 M16))))) else (gZ01 0 (rRet 0 M14)))))) else (f_L_about_b292 M12 x13))))) else (if a2 = 3 then (qb (f_W_cure M3 a1) (fun x21 M20 => (if x21 = (-9000000000000000003) then (gZ01 1 (rRet 1 M20)) else (if x21 = 1 then (qb (f_W_counts M20 a1) (fun x23 M22 => (if x23 = 1 then (qb (f_W_cure M22 a1) (fun x25 M24 => (if x25 = (-9000000000000000003) then (gZ01 1 (rRet 1 M24)) else (gZ01 0 (rRet 0 M24))))) else (gZ01 0 (rRet 0 M22))))) else (gZ01 0 (rRet 0 M20)))))) else (gNz 2 (if (a3 - a3 / 2 * 2) = 0 then (f_L_about_b425 M3 a1 a3 1) else (f_L_about_b425 M3 a1 a3 0)))))))))))
abbrev rm_L_about : Room := { frames := 11, cells := 13, slots := 78, locals := 200 }
set_option maxRecDepth 20000 in
set_option maxHeartbeats 4000000 in
theorem g_L_about_b60 {p : Program} {l : Launch} {e : Env} {s : State} {m : MethodId} {args : Array Value} {below : List Frame} {meth : Method} {c : Code} {Z : gZ} (hfl : l.stackTraces = false) (hC : gD p s m args c cL_about 13 RL Z) (hNc : gNc s) (hlk : meth.locks = false) (hrt : meth.sig.returnType = some .boolean) (M : gM) (a1 : Int32) (a4 : Int32) (a7 : Int64) (t0 : Int64) (t1 : Int64) : gY p l e rm_L_about s m args below meth c 13 Z (fun F => vx_MQ below (gQc 1 Z F) (gXc Z F) args s 13 (6 * 13) (zA Z)) 5 M 60 [(0, .ref (zad Z 0)), (1, .int a1), (4, .int a4), (7, .long a7)] [.long t1, .long t0] (f_L_about_b60 M a1 a4 a7 t0 t1) := by
  unfold f_L_about_b60
  refine h_lcmp_ne (tgt := 100) hC dL_about_60 dL_about_61 (by decide) (fun _ => ?_) (fun _ => ?_)
  · refine h_lload hC 3 dL_about_64 rfl ?_
    refine h_iload hC 2 dL_about_66 rfl ?_
    refine h_i2l hC dL_about_68 ?_
    refine h_lcmp_ne (tgt := 96) hC dL_about_69 dL_about_70 (by decide) (fun _ => ?_) (fun _ => ?_)
    · refine h_aload_n hC 0 dL_about_73 rfl rfl ?_
      refine h_iload hC 2 dL_about_74 rfl ?_
      refine h_callW (n := 2) hC [.ref (zad Z 0), .int a4] hNc (c_L_counts hfl Z M a4) lk_L_212 mw_L_counts.1 mw_L_counts.2.1 mw_L_counts.2.2 ⟨by decide, by decide, by decide +kernel⟩ rfl rfl ⟨by decide, by decide⟩ rfl rfl (Nat.le_of_ble_eq_true rfl) (Nat.le_of_ble_eq_true rfl) (Nat.le_of_ble_eq_true rfl) dL_about_76 (fun x2 M1 => ?_)
      refine h_lconst hC (v := 1) dL_about_79 (by decide) ?_
      refine h_lcmp_ne (tgt := 100) hC dL_about_80 dL_about_81 (by decide) (fun _ => ?_) (fun _ => ?_)
      · refine h_aload_n hC 0 dL_about_84 rfl rfl ?_
        refine h_iload_n hC 1 dL_about_85 rfl rfl ?_
        refine h_callW (n := 2) hC [.ref (zad Z 0), .int a1] hNc (c_L_respond hfl Z M1 a1) lk_L_250 mw_L_respond.1 mw_L_respond.2.1 mw_L_respond.2.2 ⟨by decide, by decide, by decide +kernel⟩ rfl rfl ⟨by decide, by decide⟩ rfl rfl (Nat.le_of_ble_eq_true rfl) (Nat.le_of_ble_eq_true rfl) (Nat.le_of_ble_eq_true rfl) dL_about_86 (fun x4 M3 => ?_)
        refine h_ldc2 hC (v := (-9000000000000000003)) lc_L_21 dL_about_89 ?_
        refine h_lcmp_ne (tgt := 100) hC dL_about_92 dL_about_93 (by decide) (fun _ => ?_) (fun _ => ?_)
        · refine h_iconst hC (v := 1) dL_about_96 (by decide) ?_
          refine h_goto (tgt := 101) hC dL_about_97 (by decide) ?_
          exact h_zret hC hlk hrt (Nat.le_of_ble_eq_true rfl) dL_about_101
        · refine h_iconst hC (v := 0) dL_about_100 (by decide) ?_
          exact h_zret hC hlk hrt (Nat.le_of_ble_eq_true rfl) dL_about_101
      · refine h_iconst hC (v := 0) dL_about_100 (by decide) ?_
        exact h_zret hC hlk hrt (Nat.le_of_ble_eq_true rfl) dL_about_101
    · refine h_iconst hC (v := 1) dL_about_96 (by decide) ?_
      refine h_goto (tgt := 101) hC dL_about_97 (by decide) ?_
      exact h_zret hC hlk hrt (Nat.le_of_ble_eq_true rfl) dL_about_101
  · refine h_iconst hC (v := 0) dL_about_100 (by decide) ?_
    exact h_zret hC hlk hrt (Nat.le_of_ble_eq_true rfl) dL_about_101
set_option maxRecDepth 20000 in
set_option maxHeartbeats 4000000 in
theorem g_L_about_b241 {p : Program} {l : Launch} {e : Env} {s : State} {m : MethodId} {args : Array Value} {below : List Frame} {meth : Method} {c : Code} {Z : gZ} (hfl : l.stackTraces = false) (hC : gD p s m args c cL_about 13 RL Z) (hNc : gNc s) (hlk : meth.locks = false) (hrt : meth.sig.returnType = some .boolean) (M : gM) (a1 : Int32) (t0 : Int64) (t1 : Int64) : gY p l e rm_L_about s m args below meth c 13 Z (fun F => vx_MQ below (gQc 1 Z F) (gXc Z F) args s 13 (6 * 13) (zA Z)) 10 M 241 [(0, .ref (zad Z 0)), (1, .int a1)] [.long t1, .long t0] (f_L_about_b241 M a1 t0 t1) := by
  unfold f_L_about_b241
  refine h_lcmp_ne (tgt := 262) hC dL_about_241 dL_about_242 (by decide) (fun _ => ?_) (fun _ => ?_)
  · refine h_aload_n hC 0 dL_about_245 rfl rfl ?_
    refine h_iload_n hC 1 dL_about_246 rfl rfl ?_
    refine h_iconst hC (v := (-1)) dL_about_247 (by decide) ?_
    refine h_callW (n := 3) hC [.ref (zad Z 0), .int a1, .int (-1)] hNc (c_L_ruling hfl Z M a1 (-1)) lk_L_252 mw_L_ruling.1 mw_L_ruling.2.1 mw_L_ruling.2.2 ⟨by decide, by decide, by decide +kernel⟩ rfl rfl ⟨by decide, by decide⟩ rfl rfl (Nat.le_of_ble_eq_true rfl) (Nat.le_of_ble_eq_true rfl) (Nat.le_of_ble_eq_true rfl) dL_about_248 (fun x2 M1 => ?_)
    refine h_ldc2 hC (v := (-9000000000000000003)) lc_L_21 dL_about_251 ?_
    refine h_lcmp_ne (tgt := 262) hC dL_about_254 dL_about_255 (by decide) (fun _ => ?_) (fun _ => ?_)
    · refine h_iconst hC (v := 1) dL_about_258 (by decide) ?_
      refine h_goto (tgt := 263) hC dL_about_259 (by decide) ?_
      exact h_zret hC hlk hrt (Nat.le_of_ble_eq_true rfl) dL_about_263
    · refine h_iconst hC (v := 0) dL_about_262 (by decide) ?_
      exact h_zret hC hlk hrt (Nat.le_of_ble_eq_true rfl) dL_about_263
  · refine h_iconst hC (v := 0) dL_about_262 (by decide) ?_
    exact h_zret hC hlk hrt (Nat.le_of_ble_eq_true rfl) dL_about_263
set_option maxRecDepth 20000 in
set_option maxHeartbeats 4000000 in
theorem g_L_about_b218 {p : Program} {l : Launch} {e : Env} {s : State} {m : MethodId} {args : Array Value} {below : List Frame} {meth : Method} {c : Code} {Z : gZ} (hfl : l.stackTraces = false) (hC : gD p s m args c cL_about 13 RL Z) (hNc : gNc s) (hlk : meth.locks = false) (hrt : meth.sig.returnType = some .boolean) (M : gM) (a1 : Int32) (a7 : Int32) (a8 : Int64) (a10 : Int32) (t0 : Int64) (t1 : Int64) : gY p l e rm_L_about s m args below meth c 13 Z (fun F => vx_MQ below (gQc 1 Z F) (gXc Z F) args s 13 (6 * 13) (zA Z)) 9 M 218 [(0, .ref (zad Z 0)), (1, .int a1), (7, .int a7), (8, .long a8), (10, .int a10)] [.long t1, .long t0] (f_L_about_b218 M a1 a7 a8 a10 t0 t1) := by
  unfold f_L_about_b218
  refine h_lcmp_ne (tgt := 262) hC dL_about_218 dL_about_219 (by decide) (fun _ => ?_) (fun _ => ?_)
  · refine h_aload_n hC 0 dL_about_222 rfl rfl ?_
    refine h_iload hC 2 dL_about_223 rfl ?_
    refine h_callW (n := 2) hC [.ref (zad Z 0), .int a7] hNc (c_L_amountOf hfl Z M a7) lk_L_193 mw_L_amountOf.1 mw_L_amountOf.2.1 mw_L_amountOf.2.2 ⟨by decide, by decide, by decide +kernel⟩ rfl rfl ⟨by decide, by decide⟩ rfl rfl (Nat.le_of_ble_eq_true rfl) (Nat.le_of_ble_eq_true rfl) (Nat.le_of_ble_eq_true rfl) dL_about_225 (fun x2 M1 => ?_)
    refine h_iload hC 4 dL_about_228 rfl ?_
    refine h_if_le (tgt := 239) hC dL_about_230 (by decide) (fun _ => ?_) (fun _ => ?_)
    · refine h_lload hC 3 dL_about_239 rfl ?_
      refine h_sub (lv1 := [(0, .ref (zad Z 0)), (1, .int a1)]) [0, 1] rfl ?_
      exact g_L_about_b241 hfl hC hNc hlk hrt M1 a1 x2 a8
    · refine h_iload hC 4 dL_about_233 rfl ?_
      refine h_i2l hC dL_about_235 ?_
      refine h_goto (tgt := 241) hC dL_about_236 (by decide) ?_
      refine h_sub (lv1 := [(0, .ref (zad Z 0)), (1, .int a1)]) [0, 1] rfl ?_
      exact g_L_about_b241 hfl hC hNc hlk hrt M1 a1 x2 a10.toInt64
  · refine h_iconst hC (v := 0) dL_about_262 (by decide) ?_
    exact h_zret hC hlk hrt (Nat.le_of_ble_eq_true rfl) dL_about_263
set_option maxRecDepth 20000 in
set_option maxHeartbeats 4000000 in
theorem g_L_about_b135 {p : Program} {l : Launch} {e : Env} {s : State} {m : MethodId} {args : Array Value} {below : List Frame} {meth : Method} {c : Code} {Z : gZ} (hfl : l.stackTraces = false) (hC : gD p s m args c cL_about 13 RL Z) (hNc : gNc s) (hlk : meth.locks = false) (hrt : meth.sig.returnType = some .boolean) (M : gM) (a1 : Int32) (a3 : Int32) (a4 : Int32) (a5 : Int64) (a7 : Int32) (t0 : Int64) : gY p l e rm_L_about s m args below meth c 13 Z (fun F => vx_MQ below (gQc 1 Z F) (gXc Z F) args s 13 (6 * 13) (zA Z)) 5 M 135 [(0, .ref (zad Z 0)), (1, .int a1), (3, .int a3), (4, .int a4), (5, .long a5), (7, .int a7)] [.long t0] (f_L_about_b135 M a1 a3 a4 a5 a7 t0) := by
  unfold f_L_about_b135
  refine h_lstore hC (lv1 := [(8, .long t0), (0, .ref (zad Z 0)), (1, .int a1), (3, .int a3), (4, .int a4), (5, .long a5), (7, .int a7)]) dL_about_135 (by decide) rfl ?_
  refine h_iload_n hC 3 dL_about_137 rfl rfl ?_
  refine h_i2l hC dL_about_138 ?_
  refine h_lload hC 0 dL_about_139 rfl ?_
  refine h_lconst hC (v := 1) dL_about_141 (by decide) ?_
  refine h_ladd hC dL_about_142 ?_
  refine h_lrem hC dL_about_143 ?_
  refine h_l2i hC dL_about_144 ?_
  refine h_iconst hC (v := 1) dL_about_145 (by decide) ?_
  refine h_isub hC dL_about_146 ?_
  refine h_bv (fun x1 => ?_)
  refine h_istore hC (lv1 := [(10, .int x1), (8, .long t0), (0, .ref (zad Z 0)), (1, .int a1), (3, .int a3), (4, .int a4), (5, .long a5), (7, .int a7)]) dL_about_147 (by decide) rfl ?_
  refine h_aload_n hC 2 dL_about_149 rfl rfl ?_
  refine h_iload_n hC 3 dL_about_150 rfl rfl ?_
  refine h_iload hC 0 dL_about_151 rfl ?_
  refine h_callW (n := 3) hC [.ref (zad Z 0), .int a1, .int x1] hNc (c_L_ruling hfl Z M a1 x1) lk_L_252 mw_L_ruling.1 mw_L_ruling.2.1 mw_L_ruling.2.2 ⟨by decide, by decide, by decide +kernel⟩ rfl rfl ⟨by decide, by decide⟩ rfl rfl (Nat.le_of_ble_eq_true rfl) (Nat.le_of_ble_eq_true rfl) (Nat.le_of_ble_eq_true rfl) dL_about_153 (fun x3 M2 => ?_)
  refine h_lstore hC (lv1 := [(11, .long x3), (10, .int x1), (8, .long t0), (0, .ref (zad Z 0)), (1, .int a1), (3, .int a3), (4, .int a4), (5, .long a5), (7, .int a7)]) dL_about_156 (by decide) rfl ?_
  refine h_lload hC 7 dL_about_158 rfl ?_
  refine h_ldc2 hC (v := 2) lc_L_195 dL_about_160 ?_
  refine h_lcmp_eq (tgt := 184) hC dL_about_163 dL_about_164 (by decide) (fun _ => ?_) (fun _ => ?_)
  · refine h_lload hC 0 dL_about_184 rfl ?_
    refine h_ldc2 hC (v := (-9000000000000000003)) lc_L_21 dL_about_186 ?_
    refine h_lcmp_eq (tgt := 258) hC dL_about_189 dL_about_190 (by decide) (fun _ => ?_) (fun _ => ?_)
    · refine h_iconst hC (v := 1) dL_about_258 (by decide) ?_
      refine h_goto (tgt := 263) hC dL_about_259 (by decide) ?_
      exact h_zret hC hlk hrt (Nat.le_of_ble_eq_true rfl) dL_about_263
    · refine h_lload hC 0 dL_about_193 rfl ?_
      refine h_iload hC 6 dL_about_195 rfl ?_
      refine h_i2l hC dL_about_197 ?_
      refine h_lcmp_ne (tgt := 262) hC dL_about_198 dL_about_199 (by decide) (fun _ => ?_) (fun _ => ?_)
      · refine h_aload_n hC 3 dL_about_202 rfl rfl ?_
        refine h_iload hC 8 dL_about_203 rfl ?_
        refine h_callW (n := 2) hC [.ref (zad Z 0), .int a7] hNc (c_L_stateOf hfl Z M2 a7) lk_L_182 mw_L_stateOf.1 mw_L_stateOf.2.1 mw_L_stateOf.2.2 ⟨by decide, by decide, by decide +kernel⟩ rfl rfl ⟨by decide, by decide⟩ rfl rfl (Nat.le_of_ble_eq_true rfl) (Nat.le_of_ble_eq_true rfl) (Nat.le_of_ble_eq_true rfl) dL_about_205 (fun x5 M4 => ?_)
        refine h_iload hC 1 dL_about_208 rfl ?_
        refine h_if_ne (tgt := 217) hC dL_about_210 (by decide) (fun _ => ?_) (fun _ => ?_)
        · refine h_lconst hC (v := 1) dL_about_213 (by decide) ?_
          refine h_goto (tgt := 218) hC dL_about_214 (by decide) ?_
          refine h_sub (lv1 := [(0, .ref (zad Z 0)), (1, .int a1), (7, .int a7), (8, .long t0), (10, .int x1)]) [3, 4, 8, 2, 1] rfl ?_
          exact g_L_about_b218 hfl hC hNc hlk hrt M4 a1 a7 t0 x1 x5 1
        · refine h_lconst hC (v := 0) dL_about_217 (by decide) ?_
          refine h_sub (lv1 := [(0, .ref (zad Z 0)), (1, .int a1), (7, .int a7), (8, .long t0), (10, .int x1)]) [3, 4, 8, 2, 1] rfl ?_
          exact g_L_about_b218 hfl hC hNc hlk hrt M4 a1 a7 t0 x1 x5 0
      · refine h_iconst hC (v := 0) dL_about_262 (by decide) ?_
        exact h_zret hC hlk hrt (Nat.le_of_ble_eq_true rfl) dL_about_263
  · refine h_lload hC 0 dL_about_167 rfl ?_
    refine h_ldc2 hC (v := (-9000000000000000001)) lc_L_33 dL_about_169 ?_
    refine h_lcmp_ne (tgt := 180) hC dL_about_172 dL_about_173 (by decide) (fun _ => ?_) (fun _ => ?_)
    · refine h_iconst hC (v := 1) dL_about_176 (by decide) ?_
      refine h_goto (tgt := 263) hC dL_about_177 (by decide) ?_
      exact h_zret hC hlk hrt (Nat.le_of_ble_eq_true rfl) dL_about_263
    · refine h_iconst hC (v := 0) dL_about_180 (by decide) ?_
      refine h_goto (tgt := 263) hC dL_about_181 (by decide) ?_
      exact h_zret hC hlk hrt (Nat.le_of_ble_eq_true rfl) dL_about_263
set_option maxRecDepth 20000 in
set_option maxHeartbeats 4000000 in
theorem g_L_about_b292 {p : Program} {l : Launch} {e : Env} {s : State} {m : MethodId} {args : Array Value} {below : List Frame} {meth : Method} {c : Code} {Z : gZ} (hfl : l.stackTraces = false) (hC : gD p s m args c cL_about 13 RL Z) (hNc : gNc s) (hlk : meth.locks = false) (hrt : meth.sig.returnType = some .boolean) (M : gM) (a7 : Int64) : gY p l e rm_L_about s m args below meth c 13 Z (fun F => vx_MQ below (gQc 1 Z F) (gXc Z F) args s 13 (6 * 13) (zA Z)) 4 M 292 [(7, .long a7)] [] (f_L_about_b292 M a7) := by
  unfold f_L_about_b292
  refine h_lload hC 0 dL_about_292 rfl ?_
  refine h_ldc2 hC (v := (-9000000000000000003)) lc_L_21 dL_about_294 ?_
  refine h_lcmp_ne (tgt := 305) hC dL_about_297 dL_about_298 (by decide) (fun _ => ?_) (fun _ => ?_)
  · refine h_iconst hC (v := 1) dL_about_301 (by decide) ?_
    refine h_goto (tgt := 357) hC dL_about_302 (by decide) ?_
    exact h_zret hC hlk hrt (Nat.le_of_ble_eq_true rfl) dL_about_357
  · refine h_iconst hC (v := 0) dL_about_305 (by decide) ?_
    refine h_goto (tgt := 357) hC dL_about_306 (by decide) ?_
    exact h_zret hC hlk hrt (Nat.le_of_ble_eq_true rfl) dL_about_357
set_option maxRecDepth 20000 in
set_option maxHeartbeats 4000000 in
theorem g_L_about_b450 {p : Program} {l : Launch} {e : Env} {s : State} {m : MethodId} {args : Array Value} {below : List Frame} {meth : Method} {c : Code} {Z : gZ} (hfl : l.stackTraces = false) (hC : gD p s m args c cL_about 13 RL Z) (hNc : gNc s) (hlk : meth.locks = false) (hrt : meth.sig.returnType = some .boolean) (M : gM) (a1 : Int32) (a3 : Int32) (a7 : Int32) : gY p l e rm_L_about s m args below meth c 13 Z (fun F => vx_MQ below (gQc 1 Z F) (gXc Z F) args s 13 (6 * 13) (zA Z)) 3 M 450 [(0, .ref (zad Z 0)), (1, .int a1), (3, .int a3), (7, .int a7)] [] (f_L_about_b450 M a1 a3 a7) := by
  unfold f_L_about_b450
  refine h_aload_n hC 0 dL_about_450 rfl rfl ?_
  refine h_iload_n hC 1 dL_about_451 rfl rfl ?_
  refine h_iload hC 3 dL_about_452 rfl ?_
  refine h_callW (n := 3) hC [.ref (zad Z 0), .int a1, .int a7] hNc (c_L_seal hfl Z M a1 a7) lk_L_299 mw_L_seal.1 mw_L_seal.2.1 mw_L_seal.2.2 ⟨by decide, by decide, by decide +kernel⟩ rfl rfl ⟨by decide, by decide⟩ rfl rfl (Nat.le_of_ble_eq_true rfl) (Nat.le_of_ble_eq_true rfl) (Nat.le_of_ble_eq_true rfl) dL_about_454 (fun x2 M1 => ?_)
  refine h_lconst hC (v := 0) dL_about_457 (by decide) ?_
  refine h_lcmp_ne (tgt := 491) hC dL_about_458 dL_about_459 (by decide) (fun _ => ?_) (fun _ => ?_)
  · refine h_iload hC 3 dL_about_462 rfl ?_
    refine h_if_ne (tgt := 487) hC dL_about_464 (by decide) (fun _ => ?_) (fun _ => ?_)
    · refine h_aload_n hC 0 dL_about_467 rfl rfl ?_
      refine h_iload_n hC 1 dL_about_468 rfl rfl ?_
      refine h_iload_n hC 2 dL_about_469 rfl rfl ?_
      refine h_iconst hC (v := 2) dL_about_470 (by decide) ?_
      refine h_idiv hC dL_about_471 ?_
      refine h_bipush hC (v := 16) dL_about_472 (by decide) ?_
      refine h_irem hC dL_about_474 ?_
      refine h_aload_n hC 0 dL_about_475 rfl rfl ?_
      refine h_callN (n := 0) hC [] 0 8 (by decide) rfl rfl (c_X8_today hfl Z M1 ) lk_L_214 mw_X8_today.1 mw_X8_today.2.1 mw_X8_today.2.2.1 mw_X8_today.2.2.2 ⟨rfl, by decide, by decide, by decide +kernel⟩ rfl rfl ⟨by decide, by decide⟩ rfl rfl (Nat.le_of_ble_eq_true rfl) (Nat.le_of_ble_eq_true rfl) (Nat.le_of_ble_eq_true rfl) dL_about_476 (fun x4 M3 => ?_)
      refine h_callW (n := 4) hC [.ref (zad Z 0), .int a1, .int ((a3 / 2) - (a3 / 2) / 16 * 16), .int x4] hNc (c_L_maySee hfl Z M3 a1 ((a3 / 2) - (a3 / 2) / 16 * 16) x4) lk_L_221 mw_L_maySee.1 mw_L_maySee.2.1 mw_L_maySee.2.2 ⟨by decide, by decide, by decide +kernel⟩ rfl rfl ⟨by decide, by decide⟩ rfl rfl (Nat.le_of_ble_eq_true rfl) (Nat.le_of_ble_eq_true rfl) (Nat.le_of_ble_eq_true rfl) dL_about_479 (fun x6 M5 => ?_)
      refine h_lconst hC (v := 1) dL_about_482 (by decide) ?_
      refine h_lcmp_ne (tgt := 491) hC dL_about_483 dL_about_484 (by decide) (fun _ => ?_) (fun _ => ?_)
      · refine h_iconst hC (v := 1) dL_about_487 (by decide) ?_
        refine h_goto (tgt := 492) hC dL_about_488 (by decide) ?_
        exact h_zret hC hlk hrt (Nat.le_of_ble_eq_true rfl) dL_about_492
      · refine h_iconst hC (v := 0) dL_about_491 (by decide) ?_
        exact h_zret hC hlk hrt (Nat.le_of_ble_eq_true rfl) dL_about_492
    · refine h_iconst hC (v := 1) dL_about_487 (by decide) ?_
      refine h_goto (tgt := 492) hC dL_about_488 (by decide) ?_
      exact h_zret hC hlk hrt (Nat.le_of_ble_eq_true rfl) dL_about_492
  · refine h_iconst hC (v := 0) dL_about_491 (by decide) ?_
    exact h_zret hC hlk hrt (Nat.le_of_ble_eq_true rfl) dL_about_492
set_option maxRecDepth 20000 in
set_option maxHeartbeats 4000000 in
theorem g_L_about_b425 {p : Program} {l : Launch} {e : Env} {s : State} {m : MethodId} {args : Array Value} {below : List Frame} {meth : Method} {c : Code} {Z : gZ} (hfl : l.stackTraces = false) (hC : gD p s m args c cL_about 13 RL Z) (hNc : gNc s) (hlk : meth.locks = false) (hrt : meth.sig.returnType = some .boolean) (M : gM) (a1 : Int32) (a3 : Int32) (t0 : Int32) : gY p l e rm_L_about s m args below meth c 13 Z (fun F => vx_MQ below (gQc 1 Z F) (gXc Z F) args s 13 (6 * 13) (zA Z)) 2 M 425 [(0, .ref (zad Z 0)), (1, .int a1), (3, .int a3)] [.int t0] (f_L_about_b425 M a1 a3 t0) := by
  unfold f_L_about_b425
  refine h_istore hC (lv1 := [(7, .int t0), (0, .ref (zad Z 0)), (1, .int a1), (3, .int a3)]) dL_about_425 (by decide) rfl ?_
  refine h_aload_n hC 1 dL_about_427 rfl rfl ?_
  refine h_iload_n hC 2 dL_about_428 rfl rfl ?_
  refine h_iload hC 0 dL_about_429 rfl ?_
  refine h_callW (n := 3) hC [.ref (zad Z 0), .int a1, .int t0] hNc (c_L_seal hfl Z M a1 t0) lk_L_299 mw_L_seal.1 mw_L_seal.2.1 mw_L_seal.2.2 ⟨by decide, by decide, by decide +kernel⟩ rfl rfl ⟨by decide, by decide⟩ rfl rfl (Nat.le_of_ble_eq_true rfl) (Nat.le_of_ble_eq_true rfl) (Nat.le_of_ble_eq_true rfl) dL_about_431 (fun x2 M1 => ?_)
  refine h_lstore hC (lv1 := [(8, .long x2), (7, .int t0), (0, .ref (zad Z 0)), (1, .int a1), (3, .int a3)]) dL_about_434 (by decide) rfl ?_
  refine h_lload hC 0 dL_about_436 rfl ?_
  refine h_lconst hC (v := 0) dL_about_438 (by decide) ?_
  refine h_lcmp_eq (tgt := 450) hC dL_about_439 dL_about_440 (by decide) (fun _ => ?_) (fun _ => ?_)
  · refine h_sub (lv1 := [(0, .ref (zad Z 0)), (1, .int a1), (3, .int a3), (7, .int t0)]) [2, 3, 4, 1] rfl ?_
    exact g_L_about_b450 hfl hC hNc hlk hrt M1 a1 a3 t0
  · refine h_lload hC 0 dL_about_443 rfl ?_
    refine h_lconst hC (v := 1) dL_about_445 (by decide) ?_
    refine h_lcmp_ne (tgt := 491) hC dL_about_446 dL_about_447 (by decide) (fun _ => ?_) (fun _ => ?_)
    · refine h_sub (lv1 := [(0, .ref (zad Z 0)), (1, .int a1), (3, .int a3), (7, .int t0)]) [2, 3, 4, 1] rfl ?_
      exact g_L_about_b450 hfl hC hNc hlk hrt M1 a1 a3 t0
    · refine h_iconst hC (v := 0) dL_about_491 (by decide) ?_
      exact h_zret hC hlk hrt (Nat.le_of_ble_eq_true rfl) dL_about_492
set_option maxRecDepth 20000 in
set_option maxHeartbeats 4000000 in
theorem c_L_about {l : Launch} (hfl : l.stackTraces = false) (Z : gZ) (M : gM) (a1 : Int32) (a2 : Int32) (a3 : Int32) : gMetB l yL_about cL_about 13 rm_L_about 13 Z M [.ref (zad Z 0), .int a1, .int a2, .int a3] (f_L_about M a1 a2 a3) := by
  refine h_enter (by decide) (Nat.le_of_ble_eq_true rfl) (fun p e s m args below meth c hC hNc hlk hrt => ?_)
  refine h_lv0 (lv1 := [(0, .ref (zad Z 0)), (1, .int a1), (2, .int a2), (3, .int a3)]) rfl ?_
  unfold f_L_about
  refine h_aload_n hC 0 dL_about_0 rfl rfl ?_
  refine h_callN (n := 0) hC [] 0 8 (by decide) rfl rfl (c_X8_entries hfl Z M ) lk_L_206 mw_X8_entries.1 mw_X8_entries.2.1 mw_X8_entries.2.2.1 mw_X8_entries.2.2.2 ⟨rfl, by decide, by decide, by decide +kernel⟩ rfl rfl ⟨by decide, by decide⟩ rfl rfl (Nat.le_of_ble_eq_true rfl) (Nat.le_of_ble_eq_true rfl) (Nat.le_of_ble_eq_true rfl) dL_about_1 (fun x2 M1 => ?_)
  refine h_istore hC (lv1 := [(4, .int x2), (0, .ref (zad Z 0)), (1, .int a1), (2, .int a2), (3, .int a3)]) dL_about_4 (by decide) rfl ?_
  refine h_aload_n hC 1 dL_about_6 rfl rfl ?_
  refine h_iload_n hC 2 dL_about_7 rfl rfl ?_
  refine h_iconst hC (v := 0) dL_about_8 (by decide) ?_
  refine h_callW (n := 3) hC [.ref (zad Z 0), .int a1, .int 0] hNc (c_L_entryAt hfl Z M1 a1 0) lk_L_210 mw_L_entryAt.1 mw_L_entryAt.2.1 mw_L_entryAt.2.2 ⟨by decide, by decide, by decide +kernel⟩ rfl rfl ⟨by decide, by decide⟩ rfl rfl (Nat.le_of_ble_eq_true rfl) (Nat.le_of_ble_eq_true rfl) (Nat.le_of_ble_eq_true rfl) dL_about_9 (fun x4 M3 => ?_)
  refine h_lstore hC (lv1 := [(5, .long x4), (4, .int x2), (0, .ref (zad Z 0)), (1, .int a1), (2, .int a2), (3, .int a3)]) dL_about_12 (by decide) rfl ?_
  refine h_iload_n hC 4 dL_about_14 rfl rfl ?_
  refine h_if_ne (tgt := 102) hC dL_about_15 (by decide) (fun _ => ?_) (fun _ => ?_)
  · refine h_aload_n hC 2 dL_about_18 rfl rfl ?_
    refine h_iload_n hC 3 dL_about_19 rfl rfl ?_
    refine h_callW (n := 2) hC [.ref (zad Z 0), .int a1] hNc (c_L_respond hfl Z M3 a1) lk_L_250 mw_L_respond.1 mw_L_respond.2.1 mw_L_respond.2.2 ⟨by decide, by decide, by decide +kernel⟩ rfl rfl ⟨by decide, by decide⟩ rfl rfl (Nat.le_of_ble_eq_true rfl) (Nat.le_of_ble_eq_true rfl) (Nat.le_of_ble_eq_true rfl) dL_about_20 (fun x6 M5 => ?_)
    refine h_lstore hC (lv1 := [(7, .long x6), (5, .long x4), (4, .int x2), (0, .ref (zad Z 0)), (1, .int a1), (2, .int a2), (3, .int a3)]) dL_about_23 (by decide) rfl ?_
    refine h_lload hC 0 dL_about_25 rfl ?_
    refine h_lload hC 1 dL_about_27 rfl ?_
    refine h_ldc2 hC (v := 2) lc_L_195 dL_about_29 ?_
    refine h_lcmp_ne (tgt := 57) hC dL_about_32 dL_about_33 (by decide) (fun _ => ?_) (fun _ => ?_)
    · refine h_lload hC 0 dL_about_36 rfl ?_
      refine h_ldc2 hC (v := (-9000000000000000003)) lc_L_21 dL_about_38 ?_
      refine h_lcmp_ne (tgt := 51) hC dL_about_41 dL_about_42 (by decide) (fun _ => ?_) (fun _ => ?_)
      · refine h_ldc2 hC (v := (-9000000000000000003)) lc_L_21 dL_about_45 ?_
        refine h_goto (tgt := 60) hC dL_about_48 (by decide) ?_
        refine h_sub (lv1 := [(0, .ref (zad Z 0)), (1, .int a1), (4, .int x2), (7, .long x6)]) [3, 4, 2, 0] rfl ?_
        exact g_L_about_b60 hfl hC hNc hlk hrt M5 a1 x2 x6 x6 (-9000000000000000003)
      · refine h_iload hC 2 dL_about_51 rfl ?_
        refine h_i2l hC dL_about_53 ?_
        refine h_goto (tgt := 60) hC dL_about_54 (by decide) ?_
        refine h_sub (lv1 := [(0, .ref (zad Z 0)), (1, .int a1), (4, .int x2), (7, .long x6)]) [3, 4, 2, 0] rfl ?_
        exact g_L_about_b60 hfl hC hNc hlk hrt M5 a1 x2 x6 x6 x2.toInt64
    · refine h_ldc2 hC (v := (-9000000000000000001)) lc_L_33 dL_about_57 ?_
      refine h_sub (lv1 := [(0, .ref (zad Z 0)), (1, .int a1), (4, .int x2), (7, .long x6)]) [3, 4, 2, 0] rfl ?_
      exact g_L_about_b60 hfl hC hNc hlk hrt M5 a1 x2 x6 x6 (-9000000000000000001)
  · refine h_iload_n hC 4 dL_about_102 rfl rfl ?_
    refine h_iconst hC (v := 1) dL_about_103 (by decide) ?_
    refine h_icmp_ne (tgt := 264) hC dL_about_104 (by decide) (fun _ => ?_) (fun _ => ?_)
    · refine h_aload_n hC 2 dL_about_107 rfl rfl ?_
      refine h_iload_n hC 3 dL_about_108 rfl rfl ?_
      refine h_iconst hC (v := 2) dL_about_109 (by decide) ?_
      refine h_callW (n := 3) hC [.ref (zad Z 0), .int a1, .int 2] hNc (c_L_entryAt hfl Z M3 a1 2) lk_L_210 mw_L_entryAt.1 mw_L_entryAt.2.1 mw_L_entryAt.2.2 ⟨by decide, by decide, by decide +kernel⟩ rfl rfl ⟨by decide, by decide⟩ rfl rfl (Nat.le_of_ble_eq_true rfl) (Nat.le_of_ble_eq_true rfl) (Nat.le_of_ble_eq_true rfl) dL_about_110 (fun x8 M7 => ?_)
      refine h_l2i hC dL_about_113 ?_
      refine h_bv (fun x9 => ?_)
      refine h_istore hC (lv1 := [(7, .int x9), (5, .long x4), (4, .int x2), (0, .ref (zad Z 0)), (1, .int a1), (2, .int a2), (3, .int a3)]) dL_about_114 (by decide) rfl ?_
      refine h_lload hC 1 dL_about_116 rfl ?_
      refine h_ldc2 hC (v := 2) lc_L_195 dL_about_118 ?_
      refine h_lcmp_ne (tgt := 134) hC dL_about_121 dL_about_122 (by decide) (fun _ => ?_) (fun _ => ?_)
      · refine h_aload_n hC 3 dL_about_125 rfl rfl ?_
        refine h_iload hC 0 dL_about_126 rfl ?_
        refine h_callW (n := 2) hC [.ref (zad Z 0), .int x9] hNc (c_L_amountOf hfl Z M7 x9) lk_L_193 mw_L_amountOf.1 mw_L_amountOf.2.1 mw_L_amountOf.2.2 ⟨by decide, by decide, by decide +kernel⟩ rfl rfl ⟨by decide, by decide⟩ rfl rfl (Nat.le_of_ble_eq_true rfl) (Nat.le_of_ble_eq_true rfl) (Nat.le_of_ble_eq_true rfl) dL_about_128 (fun x11 M10 => ?_)
        refine h_goto (tgt := 135) hC dL_about_131 (by decide) ?_
        refine h_sub (lv1 := [(0, .ref (zad Z 0)), (1, .int a1), (3, .int a3), (4, .int x2), (5, .long x4), (7, .int x9)]) [3, 4, 6, 2, 1, 0] rfl ?_
        exact g_L_about_b135 hfl hC hNc hlk hrt M10 a1 a3 x2 x4 x9 x11
      · refine h_lconst hC (v := 0) dL_about_134 (by decide) ?_
        refine h_sub (lv1 := [(0, .ref (zad Z 0)), (1, .int a1), (3, .int a3), (4, .int x2), (5, .long x4), (7, .int x9)]) [3, 4, 6, 2, 1, 0] rfl ?_
        refine h_widen (k1 := 5) (Nat.le_of_ble_eq_true rfl) ?_
        exact g_L_about_b135 hfl hC hNc hlk hrt M7 a1 a3 x2 x4 x9 0
    · refine h_iload_n hC 4 dL_about_264 rfl rfl ?_
      refine h_iconst hC (v := 2) dL_about_265 (by decide) ?_
      refine h_icmp_ne (tgt := 358) hC dL_about_266 (by decide) (fun _ => ?_) (fun _ => ?_)
      · refine h_aload_n hC 2 dL_about_269 rfl rfl ?_
        refine h_iload_n hC 3 dL_about_270 rfl rfl ?_
        refine h_callW (n := 2) hC [.ref (zad Z 0), .int a1] hNc (c_L_defect hfl Z M3 a1) lk_L_269 mw_L_defect.1 mw_L_defect.2.1 mw_L_defect.2.2 ⟨by decide, by decide, by decide +kernel⟩ rfl rfl ⟨by decide, by decide⟩ rfl rfl (Nat.le_of_ble_eq_true rfl) (Nat.le_of_ble_eq_true rfl) (Nat.le_of_ble_eq_true rfl) dL_about_271 (fun x13 M12 => ?_)
        refine h_lstore hC (lv1 := [(7, .long x13), (5, .long x4), (4, .int x2), (0, .ref (zad Z 0)), (1, .int a1), (2, .int a2), (3, .int a3)]) dL_about_274 (by decide) rfl ?_
        refine h_lload hC 1 dL_about_276 rfl ?_
        refine h_lconst hC (v := 1) dL_about_278 (by decide) ?_
        refine h_lcmp_lt (tgt := 292) hC dL_about_279 dL_about_280 (by decide) (fun _ => ?_) (fun _ => ?_)
        · refine h_sub (lv1 := [(7, .long x13)]) [0] rfl ?_
          exact g_L_about_b292 hfl hC hNc hlk hrt M12 x13
        · refine h_lload hC 1 dL_about_283 rfl ?_
          refine h_ldc2 hC (v := 3) lc_L_219 dL_about_285 ?_
          refine h_lcmp_le (tgt := 309) hC dL_about_288 dL_about_289 (by decide) (fun _ => ?_) (fun _ => ?_)
          · refine h_lload hC 0 dL_about_309 rfl ?_
            refine h_ldc2 hC (v := (-9000000000000000003)) lc_L_21 dL_about_311 ?_
            refine h_lcmp_eq (tgt := 352) hC dL_about_314 dL_about_315 (by decide) (fun _ => ?_) (fun _ => ?_)
            · refine h_iconst hC (v := 1) dL_about_352 (by decide) ?_
              refine h_goto (tgt := 357) hC dL_about_353 (by decide) ?_
              exact h_zret hC hlk hrt (Nat.le_of_ble_eq_true rfl) dL_about_357
            · refine h_lload hC 0 dL_about_318 rfl ?_
              refine h_aload_n hC 3 dL_about_320 rfl rfl ?_
              refine h_iconst hC (v := 3) dL_about_321 (by decide) ?_
              refine h_iload_n hC 4 dL_about_322 rfl rfl ?_
              refine h_callW (n := 3) hC [.ref (zad Z 0), .int 3, .int a1] hNc (c_L_due hfl Z M12 3 a1) lk_L_199 mw_L_due.1 mw_L_due.2.1 mw_L_due.2.2 ⟨by decide, by decide, by decide +kernel⟩ rfl rfl ⟨by decide, by decide⟩ rfl rfl (Nat.le_of_ble_eq_true rfl) (Nat.le_of_ble_eq_true rfl) (Nat.le_of_ble_eq_true rfl) dL_about_323 (fun x15 M14 => ?_)
              refine h_lcmp_ne (tgt := 356) hC dL_about_326 dL_about_327 (by decide) (fun _ => ?_) (fun _ => ?_)
              · refine h_aload_n hC 3 dL_about_330 rfl rfl ?_
                refine h_iload_n hC 4 dL_about_331 rfl rfl ?_
                refine h_callW (n := 2) hC [.ref (zad Z 0), .int a1] hNc (c_L_counts hfl Z M14 a1) lk_L_212 mw_L_counts.1 mw_L_counts.2.1 mw_L_counts.2.2 ⟨by decide, by decide, by decide +kernel⟩ rfl rfl ⟨by decide, by decide⟩ rfl rfl (Nat.le_of_ble_eq_true rfl) (Nat.le_of_ble_eq_true rfl) (Nat.le_of_ble_eq_true rfl) dL_about_332 (fun x17 M16 => ?_)
                refine h_lconst hC (v := 1) dL_about_335 (by decide) ?_
                refine h_lcmp_ne (tgt := 356) hC dL_about_336 dL_about_337 (by decide) (fun _ => ?_) (fun _ => ?_)
                · refine h_aload_n hC 3 dL_about_340 rfl rfl ?_
                  refine h_iload_n hC 4 dL_about_341 rfl rfl ?_
                  refine h_callW (n := 2) hC [.ref (zad Z 0), .int a1] hNc (c_L_defect hfl Z M16 a1) lk_L_269 mw_L_defect.1 mw_L_defect.2.1 mw_L_defect.2.2 ⟨by decide, by decide, by decide +kernel⟩ rfl rfl ⟨by decide, by decide⟩ rfl rfl (Nat.le_of_ble_eq_true rfl) (Nat.le_of_ble_eq_true rfl) (Nat.le_of_ble_eq_true rfl) dL_about_342 (fun x19 M18 => ?_)
                  refine h_ldc2 hC (v := (-9000000000000000003)) lc_L_21 dL_about_345 ?_
                  refine h_lcmp_ne (tgt := 356) hC dL_about_348 dL_about_349 (by decide) (fun _ => ?_) (fun _ => ?_)
                  · refine h_iconst hC (v := 1) dL_about_352 (by decide) ?_
                    refine h_goto (tgt := 357) hC dL_about_353 (by decide) ?_
                    exact h_zret hC hlk hrt (Nat.le_of_ble_eq_true rfl) dL_about_357
                  · refine h_iconst hC (v := 0) dL_about_356 (by decide) ?_
                    exact h_zret hC hlk hrt (Nat.le_of_ble_eq_true rfl) dL_about_357
                · refine h_iconst hC (v := 0) dL_about_356 (by decide) ?_
                  exact h_zret hC hlk hrt (Nat.le_of_ble_eq_true rfl) dL_about_357
              · refine h_iconst hC (v := 0) dL_about_356 (by decide) ?_
                exact h_zret hC hlk hrt (Nat.le_of_ble_eq_true rfl) dL_about_357
          · refine h_sub (lv1 := [(7, .long x13)]) [0] rfl ?_
            exact g_L_about_b292 hfl hC hNc hlk hrt M12 x13
      · refine h_iload_n hC 4 dL_about_358 rfl rfl ?_
        refine h_iconst hC (v := 3) dL_about_359 (by decide) ?_
        refine h_icmp_ne (tgt := 414) hC dL_about_360 (by decide) (fun _ => ?_) (fun _ => ?_)
        · refine h_aload_n hC 2 dL_about_363 rfl rfl ?_
          refine h_iload_n hC 3 dL_about_364 rfl rfl ?_
          refine h_callW (n := 2) hC [.ref (zad Z 0), .int a1] hNc (c_L_cure hfl Z M3 a1) lk_L_271 mw_L_cure.1 mw_L_cure.2.1 mw_L_cure.2.2 ⟨by decide, by decide, by decide +kernel⟩ rfl rfl ⟨by decide, by decide⟩ rfl rfl (Nat.le_of_ble_eq_true rfl) (Nat.le_of_ble_eq_true rfl) (Nat.le_of_ble_eq_true rfl) dL_about_365 (fun x21 M20 => ?_)
          refine h_lstore hC (lv1 := [(7, .long x21), (5, .long x4), (4, .int x2), (0, .ref (zad Z 0)), (1, .int a1), (2, .int a2), (3, .int a3)]) dL_about_368 (by decide) rfl ?_
          refine h_lload hC 0 dL_about_370 rfl ?_
          refine h_ldc2 hC (v := (-9000000000000000003)) lc_L_21 dL_about_372 ?_
          refine h_lcmp_eq (tgt := 408) hC dL_about_375 dL_about_376 (by decide) (fun _ => ?_) (fun _ => ?_)
          · refine h_iconst hC (v := 1) dL_about_408 (by decide) ?_
            refine h_goto (tgt := 413) hC dL_about_409 (by decide) ?_
            exact h_zret hC hlk hrt (Nat.le_of_ble_eq_true rfl) dL_about_413
          · refine h_lload hC 0 dL_about_379 rfl ?_
            refine h_lconst hC (v := 1) dL_about_381 (by decide) ?_
            refine h_lcmp_ne (tgt := 412) hC dL_about_382 dL_about_383 (by decide) (fun _ => ?_) (fun _ => ?_)
            · refine h_aload_n hC 3 dL_about_386 rfl rfl ?_
              refine h_iload_n hC 4 dL_about_387 rfl rfl ?_
              refine h_callW (n := 2) hC [.ref (zad Z 0), .int a1] hNc (c_L_counts hfl Z M20 a1) lk_L_212 mw_L_counts.1 mw_L_counts.2.1 mw_L_counts.2.2 ⟨by decide, by decide, by decide +kernel⟩ rfl rfl ⟨by decide, by decide⟩ rfl rfl (Nat.le_of_ble_eq_true rfl) (Nat.le_of_ble_eq_true rfl) (Nat.le_of_ble_eq_true rfl) dL_about_388 (fun x23 M22 => ?_)
              refine h_lconst hC (v := 1) dL_about_391 (by decide) ?_
              refine h_lcmp_ne (tgt := 412) hC dL_about_392 dL_about_393 (by decide) (fun _ => ?_) (fun _ => ?_)
              · refine h_aload_n hC 3 dL_about_396 rfl rfl ?_
                refine h_iload_n hC 4 dL_about_397 rfl rfl ?_
                refine h_callW (n := 2) hC [.ref (zad Z 0), .int a1] hNc (c_L_cure hfl Z M22 a1) lk_L_271 mw_L_cure.1 mw_L_cure.2.1 mw_L_cure.2.2 ⟨by decide, by decide, by decide +kernel⟩ rfl rfl ⟨by decide, by decide⟩ rfl rfl (Nat.le_of_ble_eq_true rfl) (Nat.le_of_ble_eq_true rfl) (Nat.le_of_ble_eq_true rfl) dL_about_398 (fun x25 M24 => ?_)
                refine h_ldc2 hC (v := (-9000000000000000003)) lc_L_21 dL_about_401 ?_
                refine h_lcmp_ne (tgt := 412) hC dL_about_404 dL_about_405 (by decide) (fun _ => ?_) (fun _ => ?_)
                · refine h_iconst hC (v := 1) dL_about_408 (by decide) ?_
                  refine h_goto (tgt := 413) hC dL_about_409 (by decide) ?_
                  exact h_zret hC hlk hrt (Nat.le_of_ble_eq_true rfl) dL_about_413
                · refine h_iconst hC (v := 0) dL_about_412 (by decide) ?_
                  exact h_zret hC hlk hrt (Nat.le_of_ble_eq_true rfl) dL_about_413
              · refine h_iconst hC (v := 0) dL_about_412 (by decide) ?_
                exact h_zret hC hlk hrt (Nat.le_of_ble_eq_true rfl) dL_about_413
            · refine h_iconst hC (v := 0) dL_about_412 (by decide) ?_
              exact h_zret hC hlk hrt (Nat.le_of_ble_eq_true rfl) dL_about_413
        · refine h_iload_n hC 5 dL_about_414 rfl rfl ?_
          refine h_iconst hC (v := 2) dL_about_415 (by decide) ?_
          refine h_irem hC dL_about_416 ?_
          refine h_if_ne (tgt := 424) hC dL_about_417 (by decide) (fun _ => ?_) (fun _ => ?_)
          · refine h_iconst hC (v := 1) dL_about_420 (by decide) ?_
            refine h_goto (tgt := 425) hC dL_about_421 (by decide) ?_
            refine h_sub (lv1 := [(0, .ref (zad Z 0)), (1, .int a1), (3, .int a3)]) [2, 3, 5] rfl ?_
            exact g_L_about_b425 hfl hC hNc hlk hrt M3 a1 a3 1
          · refine h_iconst hC (v := 0) dL_about_424 (by decide) ?_
            refine h_sub (lv1 := [(0, .ref (zad Z 0)), (1, .int a1), (3, .int a3)]) [2, 3, 5] rfl ?_
            exact g_L_about_b425 hfl hC hNc hlk hrt M3 a1 a3 0
