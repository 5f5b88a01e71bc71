-- ===== L_entries =====
def f_L_entries_b338 (self86 : gM → Int32 → Int32 → Int32 → Int32 → gR) (M : gM) (a1 : Int32) (a2 : Int32) (a4 : Int32) : gR := (bV (a4 + 1) (fun x1 => (self86 M a1 a2 1 x1)))
def f_L_entries_b324 (self86 : gM → Int32 → Int32 → Int32 → Int32 → gR) (M : gM) (a1 : Int32) (a2 : Int32) (a4 : Int32) : gR := (qb (f_W_due M 3 a4) (fun x2 M1 => (if x2 = (-1) then (f_L_entries_b338 self86 M1 a1 a2 a4) else (bV (a4 + 1) (fun x3 => (self86 M1 a1 a2 0 x3))))))
def f_L_entries_b303 (self86 : gM → Int32 → Int32 → Int32 → Int32 → gR) (M : gM) (a1 : Int32) (a2 : Int32) (a4 : Int32) (a5 : Int64) (t0 : Int32) : gR := (if t0 = 0 then (bV (a4 + 1) (fun x1 => (self86 M a1 a2 0 x1))) else (if a5 ≤ 0 then (f_L_entries_b324 self86 M a1 a2 a4) else (if a5 < 4 then (f_L_entries_b338 self86 M a1 a2 a4) else (f_L_entries_b324 self86 M a1 a2 a4))))
def f_L_entries_b298 (self86 : gM → Int32 → Int32 → Int32 → Int32 → gR) (M : gM) (a1 : Int32) (a2 : Int32) (a4 : Int32) (a5 : Int64) : gR := (f_L_entries_b303 self86 M a1 a2 a4 a5 1)
def f_L_entries_b302 (self86 : gM → Int32 → Int32 → Int32 → Int32 → gR) (M : gM) (a1 : Int32) (a2 : Int32) (a4 : Int32) (a5 : Int64) : gR := (f_L_entries_b303 self86 M a1 a2 a4 a5 0)
def f_L_entries_b269 (self86 : gM → Int32 → Int32 → Int32 → Int32 → gR) (M : gM) (a1 : Int32) (a2 : Int32) (a4 : Int32) (a5 : Int64) : gR := (if a5 = 3 then (qb (f_W_entryAt M a4 3) (fun x2 M1 => (qb (f_W_entryAt M1 x2.toInt32 0) (fun x4 M3 => (if x4 = 2 then (f_L_entries_b298 self86 M3 a1 a2 a4 a5) else (f_L_entries_b302 self86 M3 a1 a2 a4 a5)))))) else (f_L_entries_b298 self86 M a1 a2 a4 a5))
def f_L_entries_b217 (self86 : gM → Int32 → Int32 → Int32 → Int32 → gR) (M : gM) (a1 : Int32) (a2 : Int32) (a4 : Int32) (a5 : Int64) : gR := (gNz 16 (rbN (f_X8_today M ) (fun x2 M1 => (qb (f_W_maySee M1 a4 (a1 - a1 / 16 * 16) (x2 + 1)) (fun x4 M3 => (if x4 = (-9000000000000000002) then (if a5 = 4 then (qb (f_W_entryAt M3 a4 4) (fun x6 M5 => (qb (f_W_entryAt M5 x6.toInt32 0) (fun x8 M7 => (if x8 = 2 then (f_L_entries_b269 self86 M7 a1 a2 a4 a5) else (f_L_entries_b302 self86 M7 a1 a2 a4 a5)))))) else (f_L_entries_b269 self86 M3 a1 a2 a4 a5)) else (f_L_entries_b302 self86 M3 a1 a2 a4 a5)))))))
def f_L_entries_b178 (self86 : gM → Int32 → Int32 → Int32 → Int32 → gR) (M : gM) (a1 : Int32) (a2 : Int32) (a4 : Int32) (a5 : Int64) (t0 : Int32) : gR := (qb (f_W_entryAt M a4 1) (fun x2 M1 => (bV x2.toInt32 (fun x3 => (if t0 = 0 then (f_L_entries_b302 self86 M1 a1 a2 a4 a5) else (if x3 = 0 then (f_L_entries_b217 self86 M1 a1 a2 a4 a5) else (gNz 16 (qb (f_W_maySee M1 a4 (a1 - a1 / 16 * 16) (x3 - 1)) (fun x5 M4 => (if x5 = 0 then (f_L_entries_b217 self86 M4 a1 a2 a4 a5) else (f_L_entries_b302 self86 M4 a1 a2 a4 a5)))))))))))
def f_L_entries_b173 (self86 : gM → Int32 → Int32 → Int32 → Int32 → gR) (M : gM) (a1 : Int32) (a2 : Int32) (a4 : Int32) (a5 : Int64) : gR := (f_L_entries_b178 self86 M a1 a2 a4 a5 1)
def f_L_entries_b177 (self86 : gM → Int32 → Int32 → Int32 → Int32 → gR) (M : gM) (a1 : Int32) (a2 : Int32) (a4 : Int32) (a5 : Int64) : gR := (f_L_entries_b178 self86 M a1 a2 a4 a5 0)
def f_L_entries_b146 (self86 : gM → Int32 → Int32 → Int32 → Int32 → gR) (M : gM) (a1 : Int32) (a2 : Int32) (a4 : Int32) (a5 : Int64) : gR := (qb (f_W_counts M a4) (fun x2 M1 => (if x2 = 1 then (f_L_entries_b173 self86 M1 a1 a2 a4 a5) else (if a5 < 1 then (f_L_entries_b177 self86 M1 a1 a2 a4 a5) else (if (3 : Int64) < a5 then (f_L_entries_b177 self86 M1 a1 a2 a4 a5) else (f_L_entries_b173 self86 M1 a1 a2 a4 a5))))))
def f_L_entries_lb86 (self86 : gM → Int32 → Int32 → Int32 → Int32 → gR) (M : gM) (a1 : Int32) (a2 : Int32) (a3 : Int32) (a4 : Int32) : gR := (if a2 ≤ a4 then (gZ01 a3 (rRet a3 M)) else (if a3 = 0 then (gZ01 a3 (rRet a3 M)) else (qb (f_W_entryAt M a4 0) (fun x2 M1 => (if x2 < 0 then (f_L_entries_b177 self86 M1 a1 a2 a4 x2) else (if (12 : Int64) < x2 then (f_L_entries_b177 self86 M1 a1 a2 a4 x2) else (if a4 = 0 then (f_L_entries_b146 self86 M1 a1 a2 a4 x2) else (qb (f_W_entryAt M1 a4 1) (fun x4 M3 => (qb (f_W_entryAt M3 (a4 - 1) 1) (fun x6 M5 => (if x4 < x6 then (f_L_entries_b177 self86 M5 a1 a2 a4 x2) else (f_L_entries_b146 self86 M5 a1 a2 a4 x2)))))))))))))
def f_L_entries_l86 : Nat → gM → Int32 → Int32 → Int32 → Int32 → gR
  | 0, _, _, _, _, _ => rStuck
  | n + 1, M, a1, a2, a3, a4 => f_L_entries_lb86 (f_L_entries_l86 n) M a1 a2 a3 a4
def f_L_entries_b84 (M : gM) (a1 : Int32) (a2 : Int32) (a3 : Int32) (t0 : Int32) : gR := (f_L_entries_l86 13 M a1 a2 a3 t0)
def f_L_entries_b69 (M : gM) (a1 : Int32) (a2 : Int32) (t0 : Int32) : gR := (if a2 ≤ 12 then (f_L_entries_b84 M a1 a2 t0 0) else (f_L_entries_b84 M a1 a2 t0 (a2 - 12)))
def f_L_entries_b64 (M : gM) (a1 : Int32) (a2 : Int32) : gR := (f_L_entries_b69 M a1 a2 1)
def f_L_entries_b68 (M : gM) (a1 : Int32) (a2 : Int32) : gR := (f_L_entries_b69 M a1 a2 0)
def f_L_entries (M : gM) (a1 : Int32) : gR := (rbN (f_X8_entries M ) (fun x2 M1 => (qb (f_W_entryAt M1 x2 0) (fun x4 M3 => (if x4 = (-9000000000000000001) then (qb (f_W_entryAt M3 0 5) (fun x6 M5 => (if x6 = (-9000000000000000001) then (qb (f_W_counts M5 x2) (fun x8 M7 => (if x8 = (-9000000000000000001) then (if x2 = 0 then (f_L_entries_b64 M7 a1 x2) else (qb (f_W_entryAt M7 (x2 - 1) 1) (fun x10 M9 => (rbN (f_X8_today M9 ) (fun x12 M11 => (if x12.toInt64 < x10 then (f_L_entries_b68 M11 a1 x2) else (f_L_entries_b64 M11 a1 x2))))))) else (f_L_entries_b68 M7 a1 x2)))) else (f_L_entries_b68 M5 a1 x2)))) else (f_L_entries_b68 M3 a1 x2))))))
abbrev rm_L_entries : Room := { frames := 11, cells := 332, slots := 1992, locals := 200 }
set_option maxRecDepth 20000 in
set_option maxHeartbeats 4000000 in
theorem g_L_entries_b338 {p : Program} {l : Launch} {e : Env} {s : State} {m : MethodId} {args : Array Value} {below : List Frame} {meth : Method} {c : Code} {Z : gZ} (hfl : l.stackTraces = false) (hC : gD p s m args c cL_entries 8 RL Z) (hNc : gNc s) (hlk : meth.locks = false) (hrt : meth.sig.returnType = some .boolean) {self86 : gM → Int32 → Int32 → Int32 → Int32 → gR} {kk : Nat} (hk : kk + 25 ≤ 332) (hs86 : ∀ (M : gM) (a1 : Int32) (a2 : Int32) (a3 : Int32) (a4 : Int32), gY p l e rm_L_entries s m args below meth c 8 Z (fun F => vx_MQ below (gQc 1 Z F) (gXc Z F) args s 332 (6 * 332) (zA Z)) (kk + 25) M 86 [(0, .ref (zad Z 0)), (1, .int a1), (2, .int a2), (3, .int a3), (4, .int a4)] [] (self86 M a1 a2 a3 a4)) (M : gM) (a1 : Int32) (a2 : Int32) (a4 : Int32) : gY p l e rm_L_entries s m args below meth c 8 Z (fun F => vx_MQ below (gQc 1 Z F) (gXc Z F) args s 332 (6 * 332) (zA Z)) (kk + 25) M 338 [(0, .ref (zad Z 0)), (1, .int a1), (2, .int a2), (4, .int a4)] [] (f_L_entries_b338 self86 M a1 a2 a4) := by
  unfold f_L_entries_b338
  refine h_iconst hC (v := 1) dL_entries_338 (by decide) ?_
  refine h_goto (tgt := 343) hC dL_entries_339 (by decide) ?_
  refine h_istore_n hC (lv1 := [(3, .int 1), (0, .ref (zad Z 0)), (1, .int a1), (2, .int a2), (4, .int a4)]) dL_entries_343 rfl (by decide) rfl ?_
  refine h_iinc hC 4 (v := 1) (fun x1 => [(4, .int x1), (3, .int 1), (0, .ref (zad Z 0)), (1, .int a1), (2, .int a2)]) dL_entries_344 rfl (by decide) (by decide) (fun _ => rfl) (fun x1 => ?_)
  refine h_goto (tgt := 86) hC dL_entries_347 (by decide) ?_
  refine h_sub (lv1 := [(0, .ref (zad Z 0)), (1, .int a1), (2, .int a2), (3, .int 1), (4, .int x1)]) [2, 3, 4, 1, 0] rfl ?_
  refine h_widen (k1 := kk + 25) (by omega) ?_
  exact hs86 M a1 a2 1 x1
set_option maxRecDepth 20000 in
set_option maxHeartbeats 4000000 in
theorem g_L_entries_b324 {p : Program} {l : Launch} {e : Env} {s : State} {m : MethodId} {args : Array Value} {below : List Frame} {meth : Method} {c : Code} {Z : gZ} (hfl : l.stackTraces = false) (hC : gD p s m args c cL_entries 8 RL Z) (hNc : gNc s) (hlk : meth.locks = false) (hrt : meth.sig.returnType = some .boolean) {self86 : gM → Int32 → Int32 → Int32 → Int32 → gR} {kk : Nat} (hk : kk + 25 ≤ 332) (hs86 : ∀ (M : gM) (a1 : Int32) (a2 : Int32) (a3 : Int32) (a4 : Int32), gY p l e rm_L_entries s m args below meth c 8 Z (fun F => vx_MQ below (gQc 1 Z F) (gXc Z F) args s 332 (6 * 332) (zA Z)) (kk + 25) M 86 [(0, .ref (zad Z 0)), (1, .int a1), (2, .int a2), (3, .int a3), (4, .int a4)] [] (self86 M a1 a2 a3 a4)) (M : gM) (a1 : Int32) (a2 : Int32) (a4 : Int32) : gY p l e rm_L_entries s m args below meth c 8 Z (fun F => vx_MQ below (gQc 1 Z F) (gXc Z F) args s 332 (6 * 332) (zA Z)) (kk + 23) M 324 [(0, .ref (zad Z 0)), (1, .int a1), (2, .int a2), (4, .int a4)] [] (f_L_entries_b324 self86 M a1 a2 a4) := by
  unfold f_L_entries_b324
  refine h_aload_n hC 0 dL_entries_324 rfl rfl ?_
  refine h_iconst hC (v := 3) dL_entries_325 (by decide) ?_
  refine h_iload hC 3 dL_entries_326 rfl ?_
  refine h_callW (n := 3) hC [.ref (zad Z 0), .int 3, .int a4] hNc (c_L_due hfl Z M 3 a4) lk_L_199 mw_L_due.1 mw_L_due.2.1 mw_L_due.2.2 ⟨by decide, by decide, by decide +kernel⟩ rfl rfl ⟨by decide, by decide⟩ rfl rfl (Nat.le_of_ble_eq_true rfl) (show (kk + 23) + 2 ≤ 332 from by omega) (show 6 * ((kk + 23) + 2) ≤ 1992 from by omega) dL_entries_328 (fun x2 M1 => ?_)
  refine h_ldc2 hC (v := (-1)) lc_L_204 dL_entries_331 ?_
  refine h_lcmp_ne (tgt := 342) hC dL_entries_334 dL_entries_335 (by decide) (fun _ => ?_) (fun _ => ?_)
  · exact g_L_entries_b338 hfl hC hNc hlk hrt hk hs86 M1 a1 a2 a4
  · refine h_iconst hC (v := 0) dL_entries_342 (by decide) ?_
    refine h_istore_n hC (lv1 := [(3, .int 0), (0, .ref (zad Z 0)), (1, .int a1), (2, .int a2), (4, .int a4)]) dL_entries_343 rfl (by decide) rfl ?_
    refine h_iinc hC 4 (v := 1) (fun x3 => [(4, .int x3), (3, .int 0), (0, .ref (zad Z 0)), (1, .int a1), (2, .int a2)]) dL_entries_344 rfl (by decide) (by decide) (fun _ => rfl) (fun x3 => ?_)
    refine h_goto (tgt := 86) hC dL_entries_347 (by decide) ?_
    refine h_sub (lv1 := [(0, .ref (zad Z 0)), (1, .int a1), (2, .int a2), (3, .int 0), (4, .int x3)]) [2, 3, 4, 1, 0] rfl ?_
    refine h_widen (k1 := kk + 25) (by omega) ?_
    exact hs86 M1 a1 a2 0 x3
set_option maxRecDepth 20000 in
set_option maxHeartbeats 4000000 in
theorem g_L_entries_b303 {p : Program} {l : Launch} {e : Env} {s : State} {m : MethodId} {args : Array Value} {below : List Frame} {meth : Method} {c : Code} {Z : gZ} (hfl : l.stackTraces = false) (hC : gD p s m args c cL_entries 8 RL Z) (hNc : gNc s) (hlk : meth.locks = false) (hrt : meth.sig.returnType = some .boolean) {self86 : gM → Int32 → Int32 → Int32 → Int32 → gR} {kk : Nat} (hk : kk + 25 ≤ 332) (hs86 : ∀ (M : gM) (a1 : Int32) (a2 : Int32) (a3 : Int32) (a4 : Int32), gY p l e rm_L_entries s m args below meth c 8 Z (fun F => vx_MQ below (gQc 1 Z F) (gXc Z F) args s 332 (6 * 332) (zA Z)) (kk + 25) M 86 [(0, .ref (zad Z 0)), (1, .int a1), (2, .int a2), (3, .int a3), (4, .int a4)] [] (self86 M a1 a2 a3 a4)) (M : gM) (a1 : Int32) (a2 : Int32) (a4 : Int32) (a5 : Int64) (t0 : Int32) : gY p l e rm_L_entries s m args below meth c 8 Z (fun F => vx_MQ below (gQc 1 Z F) (gXc Z F) args s 332 (6 * 332) (zA Z)) (kk + 23) M 303 [(0, .ref (zad Z 0)), (1, .int a1), (2, .int a2), (4, .int a4), (5, .long a5)] [.int t0] (f_L_entries_b303 self86 M a1 a2 a4 a5 t0) := by
  unfold f_L_entries_b303
  refine h_istore_n hC (lv1 := [(3, .int t0), (0, .ref (zad Z 0)), (1, .int a1), (2, .int a2), (4, .int a4), (5, .long a5)]) dL_entries_303 rfl (by decide) rfl ?_
  refine h_iload_n hC 0 dL_entries_304 rfl rfl ?_
  refine h_if_eq (tgt := 342) hC dL_entries_305 (by decide) (fun _ => ?_) (fun _ => ?_)
  · refine h_iconst hC (v := 0) dL_entries_342 (by decide) ?_
    refine h_istore_n hC (lv1 := [(3, .int 0), (0, .ref (zad Z 0)), (1, .int a1), (2, .int a2), (4, .int a4), (5, .long a5)]) dL_entries_343 rfl (by decide) rfl ?_
    refine h_iinc hC 4 (v := 1) (fun x1 => [(4, .int x1), (3, .int 0), (0, .ref (zad Z 0)), (1, .int a1), (2, .int a2), (5, .long a5)]) dL_entries_344 rfl (by decide) (by decide) (fun _ => rfl) (fun x1 => ?_)
    refine h_goto (tgt := 86) hC dL_entries_347 (by decide) ?_
    refine h_sub (lv1 := [(0, .ref (zad Z 0)), (1, .int a1), (2, .int a2), (3, .int 0), (4, .int x1)]) [2, 3, 4, 1, 0] rfl ?_
    refine h_widen (k1 := kk + 25) (by omega) ?_
    exact hs86 M a1 a2 0 x1
  · refine h_lload hC 5 dL_entries_308 rfl ?_
    refine h_lconst hC (v := 0) dL_entries_310 (by decide) ?_
    refine h_lcmp_le (tgt := 324) hC dL_entries_311 dL_entries_312 (by decide) (fun _ => ?_) (fun _ => ?_)
    · refine h_sub (lv1 := [(0, .ref (zad Z 0)), (1, .int a1), (2, .int a2), (4, .int a4)]) [1, 2, 3, 4] rfl ?_
      exact g_L_entries_b324 hfl hC hNc hlk hrt hk hs86 M a1 a2 a4
    · refine h_lload hC 5 dL_entries_315 rfl ?_
      refine h_ldc2 hC (v := 4) lc_L_224 dL_entries_317 ?_
      refine h_lcmp_lt (tgt := 338) hC dL_entries_320 dL_entries_321 (by decide) (fun _ => ?_) (fun _ => ?_)
      · refine h_sub (lv1 := [(0, .ref (zad Z 0)), (1, .int a1), (2, .int a2), (4, .int a4)]) [1, 2, 3, 4] rfl ?_
        refine h_widen (k1 := (kk + 25)) (by omega) ?_
        exact g_L_entries_b338 hfl hC hNc hlk hrt hk hs86 M a1 a2 a4
      · refine h_sub (lv1 := [(0, .ref (zad Z 0)), (1, .int a1), (2, .int a2), (4, .int a4)]) [1, 2, 3, 4] rfl ?_
        exact g_L_entries_b324 hfl hC hNc hlk hrt hk hs86 M a1 a2 a4
set_option maxRecDepth 20000 in
set_option maxHeartbeats 4000000 in
theorem g_L_entries_b298 {p : Program} {l : Launch} {e : Env} {s : State} {m : MethodId} {args : Array Value} {below : List Frame} {meth : Method} {c : Code} {Z : gZ} (hfl : l.stackTraces = false) (hC : gD p s m args c cL_entries 8 RL Z) (hNc : gNc s) (hlk : meth.locks = false) (hrt : meth.sig.returnType = some .boolean) {self86 : gM → Int32 → Int32 → Int32 → Int32 → gR} {kk : Nat} (hk : kk + 25 ≤ 332) (hs86 : ∀ (M : gM) (a1 : Int32) (a2 : Int32) (a3 : Int32) (a4 : Int32), gY p l e rm_L_entries s m args below meth c 8 Z (fun F => vx_MQ below (gQc 1 Z F) (gXc Z F) args s 332 (6 * 332) (zA Z)) (kk + 25) M 86 [(0, .ref (zad Z 0)), (1, .int a1), (2, .int a2), (3, .int a3), (4, .int a4)] [] (self86 M a1 a2 a3 a4)) (M : gM) (a1 : Int32) (a2 : Int32) (a4 : Int32) (a5 : Int64) : gY p l e rm_L_entries s m args below meth c 8 Z (fun F => vx_MQ below (gQc 1 Z F) (gXc Z F) args s 332 (6 * 332) (zA Z)) (kk + 23) M 298 [(0, .ref (zad Z 0)), (1, .int a1), (2, .int a2), (4, .int a4), (5, .long a5)] [] (f_L_entries_b298 self86 M a1 a2 a4 a5) := by
  unfold f_L_entries_b298
  refine h_iconst hC (v := 1) dL_entries_298 (by decide) ?_
  refine h_goto (tgt := 303) hC dL_entries_299 (by decide) ?_
  exact g_L_entries_b303 hfl hC hNc hlk hrt hk hs86 M a1 a2 a4 a5 1
set_option maxRecDepth 20000 in
set_option maxHeartbeats 4000000 in
theorem g_L_entries_b302 {p : Program} {l : Launch} {e : Env} {s : State} {m : MethodId} {args : Array Value} {below : List Frame} {meth : Method} {c : Code} {Z : gZ} (hfl : l.stackTraces = false) (hC : gD p s m args c cL_entries 8 RL Z) (hNc : gNc s) (hlk : meth.locks = false) (hrt : meth.sig.returnType = some .boolean) {self86 : gM → Int32 → Int32 → Int32 → Int32 → gR} {kk : Nat} (hk : kk + 25 ≤ 332) (hs86 : ∀ (M : gM) (a1 : Int32) (a2 : Int32) (a3 : Int32) (a4 : Int32), gY p l e rm_L_entries s m args below meth c 8 Z (fun F => vx_MQ below (gQc 1 Z F) (gXc Z F) args s 332 (6 * 332) (zA Z)) (kk + 25) M 86 [(0, .ref (zad Z 0)), (1, .int a1), (2, .int a2), (3, .int a3), (4, .int a4)] [] (self86 M a1 a2 a3 a4)) (M : gM) (a1 : Int32) (a2 : Int32) (a4 : Int32) (a5 : Int64) : gY p l e rm_L_entries s m args below meth c 8 Z (fun F => vx_MQ below (gQc 1 Z F) (gXc Z F) args s 332 (6 * 332) (zA Z)) (kk + 23) M 302 [(0, .ref (zad Z 0)), (1, .int a1), (2, .int a2), (4, .int a4), (5, .long a5)] [] (f_L_entries_b302 self86 M a1 a2 a4 a5) := by
  unfold f_L_entries_b302
  refine h_iconst hC (v := 0) dL_entries_302 (by decide) ?_
  exact g_L_entries_b303 hfl hC hNc hlk hrt hk hs86 M a1 a2 a4 a5 0
set_option maxRecDepth 20000 in
set_option maxHeartbeats 4000000 in
theorem g_L_entries_b269 {p : Program} {l : Launch} {e : Env} {s : State} {m : MethodId} {args : Array Value} {below : List Frame} {meth : Method} {c : Code} {Z : gZ} (hfl : l.stackTraces = false) (hC : gD p s m args c cL_entries 8 RL Z) (hNc : gNc s) (hlk : meth.locks = false) (hrt : meth.sig.returnType = some .boolean) {self86 : gM → Int32 → Int32 → Int32 → Int32 → gR} {kk : Nat} (hk : kk + 25 ≤ 332) (hs86 : ∀ (M : gM) (a1 : Int32) (a2 : Int32) (a3 : Int32) (a4 : Int32), gY p l e rm_L_entries s m args below meth c 8 Z (fun F => vx_MQ below (gQc 1 Z F) (gXc Z F) args s 332 (6 * 332) (zA Z)) (kk + 25) M 86 [(0, .ref (zad Z 0)), (1, .int a1), (2, .int a2), (3, .int a3), (4, .int a4)] [] (self86 M a1 a2 a3 a4)) (M : gM) (a1 : Int32) (a2 : Int32) (a4 : Int32) (a5 : Int64) : gY p l e rm_L_entries s m args below meth c 8 Z (fun F => vx_MQ below (gQc 1 Z F) (gXc Z F) args s 332 (6 * 332) (zA Z)) (kk + 19) M 269 [(0, .ref (zad Z 0)), (1, .int a1), (2, .int a2), (4, .int a4), (5, .long a5)] [] (f_L_entries_b269 self86 M a1 a2 a4 a5) := by
  unfold f_L_entries_b269
  refine h_lload hC 4 dL_entries_269 rfl ?_
  refine h_ldc2 hC (v := 3) lc_L_219 dL_entries_271 ?_
  refine h_lcmp_ne (tgt := 298) hC dL_entries_274 dL_entries_275 (by decide) (fun _ => ?_) (fun _ => ?_)
  · refine h_aload_n hC 0 dL_entries_278 rfl rfl ?_
    refine h_aload_n hC 0 dL_entries_279 rfl rfl ?_
    refine h_iload hC 3 dL_entries_280 rfl ?_
    refine h_iconst hC (v := 3) dL_entries_282 (by decide) ?_
    refine h_callW (n := 3) hC [.ref (zad Z 0), .int a4, .int 3] hNc (c_L_entryAt hfl Z M a4 3) lk_L_210 mw_L_entryAt.1 mw_L_entryAt.2.1 mw_L_entryAt.2.2 ⟨by decide, by decide, by decide +kernel⟩ rfl rfl ⟨by decide, by decide⟩ rfl rfl (Nat.le_of_ble_eq_true rfl) (show (kk + 19) + 2 ≤ 332 from by omega) (show 6 * ((kk + 19) + 2) ≤ 1992 from by omega) dL_entries_283 (fun x2 M1 => ?_)
    refine h_l2i hC dL_entries_286 ?_
    refine h_iconst hC (v := 0) dL_entries_287 (by decide) ?_
    refine h_callW (n := 3) hC [.ref (zad Z 0), .int x2.toInt32, .int 0] hNc (c_L_entryAt hfl Z M1 x2.toInt32 0) lk_L_210 mw_L_entryAt.1 mw_L_entryAt.2.1 mw_L_entryAt.2.2 ⟨by decide, by decide, by decide +kernel⟩ rfl rfl ⟨by decide, by decide⟩ rfl rfl (Nat.le_of_ble_eq_true rfl) (show (kk + 21) + 2 ≤ 332 from by omega) (show 6 * ((kk + 21) + 2) ≤ 1992 from by omega) dL_entries_288 (fun x4 M3 => ?_)
    refine h_ldc2 hC (v := 2) lc_L_195 dL_entries_291 ?_
    refine h_lcmp_ne (tgt := 302) hC dL_entries_294 dL_entries_295 (by decide) (fun _ => ?_) (fun _ => ?_)
    · exact g_L_entries_b298 hfl hC hNc hlk hrt hk hs86 M3 a1 a2 a4 a5
    · exact g_L_entries_b302 hfl hC hNc hlk hrt hk hs86 M3 a1 a2 a4 a5
  · refine h_widen (k1 := (kk + 23)) (by omega) ?_
    exact g_L_entries_b298 hfl hC hNc hlk hrt hk hs86 M a1 a2 a4 a5
set_option maxRecDepth 20000 in
set_option maxHeartbeats 4000000 in
theorem g_L_entries_b217 {p : Program} {l : Launch} {e : Env} {s : State} {m : MethodId} {args : Array Value} {below : List Frame} {meth : Method} {c : Code} {Z : gZ} (hfl : l.stackTraces = false) (hC : gD p s m args c cL_entries 8 RL Z) (hNc : gNc s) (hlk : meth.locks = false) (hrt : meth.sig.returnType = some .boolean) {self86 : gM → Int32 → Int32 → Int32 → Int32 → gR} {kk : Nat} (hk : kk + 25 ≤ 332) (hs86 : ∀ (M : gM) (a1 : Int32) (a2 : Int32) (a3 : Int32) (a4 : Int32), gY p l e rm_L_entries s m args below meth c 8 Z (fun F => vx_MQ below (gQc 1 Z F) (gXc Z F) args s 332 (6 * 332) (zA Z)) (kk + 25) M 86 [(0, .ref (zad Z 0)), (1, .int a1), (2, .int a2), (3, .int a3), (4, .int a4)] [] (self86 M a1 a2 a3 a4)) (M : gM) (a1 : Int32) (a2 : Int32) (a4 : Int32) (a5 : Int64) : gY p l e rm_L_entries s m args below meth c 8 Z (fun F => vx_MQ below (gQc 1 Z F) (gXc Z F) args s 332 (6 * 332) (zA Z)) (kk + 12) M 217 [(0, .ref (zad Z 0)), (1, .int a1), (2, .int a2), (4, .int a4), (5, .long a5)] [] (f_L_entries_b217 self86 M a1 a2 a4 a5) := by
  unfold f_L_entries_b217
  refine h_aload_n hC 0 dL_entries_217 rfl rfl ?_
  refine h_iload hC 3 dL_entries_218 rfl ?_
  refine h_iload_n hC 1 dL_entries_220 rfl rfl ?_
  refine h_bipush hC (v := 16) dL_entries_221 (by decide) ?_
  refine h_irem hC dL_entries_223 ?_
  refine h_aload_n hC 0 dL_entries_224 rfl rfl ?_
  refine h_callN (n := 0) hC [] 0 8 (by decide) rfl rfl (c_X8_today hfl Z M ) lk_L_214 mw_X8_today.1 mw_X8_today.2.1 mw_X8_today.2.2.1 mw_X8_today.2.2.2 ⟨rfl, by decide, by decide, by decide +kernel⟩ rfl rfl ⟨by decide, by decide⟩ rfl rfl (Nat.le_of_ble_eq_true rfl) (show (kk + 12) ≤ 332 from by omega) (show 6 * ((kk + 12)) ≤ 1992 from by omega) dL_entries_225 (fun x2 M1 => ?_)
  refine h_iconst hC (v := 1) dL_entries_228 (by decide) ?_
  refine h_iadd hC dL_entries_229 ?_
  refine h_callW (n := 4) hC [.ref (zad Z 0), .int a4, .int (a1 - a1 / 16 * 16), .int (x2 + 1)] hNc (c_L_maySee hfl Z M1 a4 (a1 - a1 / 16 * 16) (x2 + 1)) lk_L_221 mw_L_maySee.1 mw_L_maySee.2.1 mw_L_maySee.2.2 ⟨by decide, by decide, by decide +kernel⟩ rfl rfl ⟨by decide, by decide⟩ rfl rfl (Nat.le_of_ble_eq_true rfl) (show (kk + 12) + 3 ≤ 332 from by omega) (show 6 * ((kk + 12) + 3) ≤ 1992 from by omega) dL_entries_230 (fun x4 M3 => ?_)
  refine h_ldc2 hC (v := (-9000000000000000002)) lc_L_17 dL_entries_233 ?_
  refine h_lcmp_ne (tgt := 302) hC dL_entries_236 dL_entries_237 (by decide) (fun _ => ?_) (fun _ => ?_)
  · refine h_lload hC 4 dL_entries_240 rfl ?_
    refine h_ldc2 hC (v := 4) lc_L_224 dL_entries_242 ?_
    refine h_lcmp_ne (tgt := 269) hC dL_entries_245 dL_entries_246 (by decide) (fun _ => ?_) (fun _ => ?_)
    · refine h_aload_n hC 0 dL_entries_249 rfl rfl ?_
      refine h_aload_n hC 0 dL_entries_250 rfl rfl ?_
      refine h_iload hC 3 dL_entries_251 rfl ?_
      refine h_iconst hC (v := 4) dL_entries_253 (by decide) ?_
      refine h_callW (n := 3) hC [.ref (zad Z 0), .int a4, .int 4] hNc (c_L_entryAt hfl Z M3 a4 4) lk_L_210 mw_L_entryAt.1 mw_L_entryAt.2.1 mw_L_entryAt.2.2 ⟨by decide, by decide, by decide +kernel⟩ rfl rfl ⟨by decide, by decide⟩ rfl rfl (Nat.le_of_ble_eq_true rfl) (show (kk + 15) + 2 ≤ 332 from by omega) (show 6 * ((kk + 15) + 2) ≤ 1992 from by omega) dL_entries_254 (fun x6 M5 => ?_)
      refine h_l2i hC dL_entries_257 ?_
      refine h_iconst hC (v := 0) dL_entries_258 (by decide) ?_
      refine h_callW (n := 3) hC [.ref (zad Z 0), .int x6.toInt32, .int 0] hNc (c_L_entryAt hfl Z M5 x6.toInt32 0) lk_L_210 mw_L_entryAt.1 mw_L_entryAt.2.1 mw_L_entryAt.2.2 ⟨by decide, by decide, by decide +kernel⟩ rfl rfl ⟨by decide, by decide⟩ rfl rfl (Nat.le_of_ble_eq_true rfl) (show (kk + 17) + 2 ≤ 332 from by omega) (show 6 * ((kk + 17) + 2) ≤ 1992 from by omega) dL_entries_259 (fun x8 M7 => ?_)
      refine h_ldc2 hC (v := 2) lc_L_195 dL_entries_262 ?_
      refine h_lcmp_ne (tgt := 302) hC dL_entries_265 dL_entries_266 (by decide) (fun _ => ?_) (fun _ => ?_)
      · exact g_L_entries_b269 hfl hC hNc hlk hrt hk hs86 M7 a1 a2 a4 a5
      · refine h_widen (k1 := (kk + 23)) (by omega) ?_
        exact g_L_entries_b302 hfl hC hNc hlk hrt hk hs86 M7 a1 a2 a4 a5
    · refine h_widen (k1 := (kk + 19)) (by omega) ?_
      exact g_L_entries_b269 hfl hC hNc hlk hrt hk hs86 M3 a1 a2 a4 a5
  · refine h_widen (k1 := (kk + 23)) (by omega) ?_
    exact g_L_entries_b302 hfl hC hNc hlk hrt hk hs86 M3 a1 a2 a4 a5
set_option maxRecDepth 20000 in
set_option maxHeartbeats 4000000 in
theorem g_L_entries_b178 {p : Program} {l : Launch} {e : Env} {s : State} {m : MethodId} {args : Array Value} {below : List Frame} {meth : Method} {c : Code} {Z : gZ} (hfl : l.stackTraces = false) (hC : gD p s m args c cL_entries 8 RL Z) (hNc : gNc s) (hlk : meth.locks = false) (hrt : meth.sig.returnType = some .boolean) {self86 : gM → Int32 → Int32 → Int32 → Int32 → gR} {kk : Nat} (hk : kk + 25 ≤ 332) (hs86 : ∀ (M : gM) (a1 : Int32) (a2 : Int32) (a3 : Int32) (a4 : Int32), gY p l e rm_L_entries s m args below meth c 8 Z (fun F => vx_MQ below (gQc 1 Z F) (gXc Z F) args s 332 (6 * 332) (zA Z)) (kk + 25) M 86 [(0, .ref (zad Z 0)), (1, .int a1), (2, .int a2), (3, .int a3), (4, .int a4)] [] (self86 M a1 a2 a3 a4)) (M : gM) (a1 : Int32) (a2 : Int32) (a4 : Int32) (a5 : Int64) (t0 : Int32) : gY p l e rm_L_entries s m args below meth c 8 Z (fun F => vx_MQ below (gQc 1 Z F) (gXc Z F) args s 332 (6 * 332) (zA Z)) (kk + 7) M 178 [(0, .ref (zad Z 0)), (1, .int a1), (2, .int a2), (4, .int a4), (5, .long a5)] [.int t0] (f_L_entries_b178 self86 M a1 a2 a4 a5 t0) := by
  unfold f_L_entries_b178
  refine h_istore_n hC (lv1 := [(3, .int t0), (0, .ref (zad Z 0)), (1, .int a1), (2, .int a2), (4, .int a4), (5, .long a5)]) dL_entries_178 rfl (by decide) rfl ?_
  refine h_aload_n hC 1 dL_entries_179 rfl rfl ?_
  refine h_iload hC 4 dL_entries_180 rfl ?_
  refine h_iconst hC (v := 1) dL_entries_182 (by decide) ?_
  refine h_callW (n := 3) hC [.ref (zad Z 0), .int a4, .int 1] hNc (c_L_entryAt hfl Z M a4 1) lk_L_210 mw_L_entryAt.1 mw_L_entryAt.2.1 mw_L_entryAt.2.2 ⟨by decide, by decide, by decide +kernel⟩ rfl rfl ⟨by decide, by decide⟩ rfl rfl (Nat.le_of_ble_eq_true rfl) (show (kk + 7) + 2 ≤ 332 from by omega) (show 6 * ((kk + 7) + 2) ≤ 1992 from by omega) dL_entries_183 (fun x2 M1 => ?_)
  refine h_l2i hC dL_entries_186 ?_
  refine h_bv (fun x3 => ?_)
  refine h_istore hC (lv1 := [(7, .int x3), (3, .int t0), (0, .ref (zad Z 0)), (1, .int a1), (2, .int a2), (4, .int a4), (5, .long a5)]) dL_entries_187 (by decide) rfl ?_
  refine h_iload_n hC 1 dL_entries_189 rfl rfl ?_
  refine h_if_eq (tgt := 302) hC dL_entries_190 (by decide) (fun _ => ?_) (fun _ => ?_)
  · refine h_sub (lv1 := [(0, .ref (zad Z 0)), (1, .int a1), (2, .int a2), (4, .int a4), (5, .long a5)]) [2, 3, 4, 5, 6] rfl ?_
    refine h_widen (k1 := (kk + 23)) (by omega) ?_
    exact g_L_entries_b302 hfl hC hNc hlk hrt hk hs86 M1 a1 a2 a4 a5
  · refine h_iload hC 0 dL_entries_193 rfl ?_
    refine h_if_eq (tgt := 217) hC dL_entries_195 (by decide) (fun _ => ?_) (fun _ => ?_)
    · refine h_sub (lv1 := [(0, .ref (zad Z 0)), (1, .int a1), (2, .int a2), (4, .int a4), (5, .long a5)]) [2, 3, 4, 5, 6] rfl ?_
      refine h_widen (k1 := (kk + 12)) (by omega) ?_
      exact g_L_entries_b217 hfl hC hNc hlk hrt hk hs86 M1 a1 a2 a4 a5
    · refine h_aload_n hC 2 dL_entries_198 rfl rfl ?_
      refine h_iload hC 5 dL_entries_199 rfl ?_
      refine h_iload_n hC 3 dL_entries_201 rfl rfl ?_
      refine h_bipush hC (v := 16) dL_entries_202 (by decide) ?_
      refine h_irem hC dL_entries_204 ?_
      refine h_iload hC 0 dL_entries_205 rfl ?_
      refine h_iconst hC (v := 1) dL_entries_207 (by decide) ?_
      refine h_isub hC dL_entries_208 ?_
      refine h_callW (n := 4) hC [.ref (zad Z 0), .int a4, .int (a1 - a1 / 16 * 16), .int (x3 - 1)] hNc (c_L_maySee hfl Z M1 a4 (a1 - a1 / 16 * 16) (x3 - 1)) lk_L_221 mw_L_maySee.1 mw_L_maySee.2.1 mw_L_maySee.2.2 ⟨by decide, by decide, by decide +kernel⟩ rfl rfl ⟨by decide, by decide⟩ rfl rfl (Nat.le_of_ble_eq_true rfl) (show (kk + 9) + 3 ≤ 332 from by omega) (show 6 * ((kk + 9) + 3) ≤ 1992 from by omega) dL_entries_209 (fun x5 M4 => ?_)
      refine h_lconst hC (v := 0) dL_entries_212 (by decide) ?_
      refine h_lcmp_ne (tgt := 302) hC dL_entries_213 dL_entries_214 (by decide) (fun _ => ?_) (fun _ => ?_)
      · refine h_sub (lv1 := [(0, .ref (zad Z 0)), (1, .int a1), (2, .int a2), (4, .int a4), (5, .long a5)]) [2, 3, 4, 5, 6] rfl ?_
        exact g_L_entries_b217 hfl hC hNc hlk hrt hk hs86 M4 a1 a2 a4 a5
      · refine h_sub (lv1 := [(0, .ref (zad Z 0)), (1, .int a1), (2, .int a2), (4, .int a4), (5, .long a5)]) [2, 3, 4, 5, 6] rfl ?_
        refine h_widen (k1 := (kk + 23)) (by omega) ?_
        exact g_L_entries_b302 hfl hC hNc hlk hrt hk hs86 M4 a1 a2 a4 a5
set_option maxRecDepth 20000 in
set_option maxHeartbeats 4000000 in
theorem g_L_entries_b173 {p : Program} {l : Launch} {e : Env} {s : State} {m : MethodId} {args : Array Value} {below : List Frame} {meth : Method} {c : Code} {Z : gZ} (hfl : l.stackTraces = false) (hC : gD p s m args c cL_entries 8 RL Z) (hNc : gNc s) (hlk : meth.locks = false) (hrt : meth.sig.returnType = some .boolean) {self86 : gM → Int32 → Int32 → Int32 → Int32 → gR} {kk : Nat} (hk : kk + 25 ≤ 332) (hs86 : ∀ (M : gM) (a1 : Int32) (a2 : Int32) (a3 : Int32) (a4 : Int32), gY p l e rm_L_entries s m args below meth c 8 Z (fun F => vx_MQ below (gQc 1 Z F) (gXc Z F) args s 332 (6 * 332) (zA Z)) (kk + 25) M 86 [(0, .ref (zad Z 0)), (1, .int a1), (2, .int a2), (3, .int a3), (4, .int a4)] [] (self86 M a1 a2 a3 a4)) (M : gM) (a1 : Int32) (a2 : Int32) (a4 : Int32) (a5 : Int64) : gY p l e rm_L_entries s m args below meth c 8 Z (fun F => vx_MQ below (gQc 1 Z F) (gXc Z F) args s 332 (6 * 332) (zA Z)) (kk + 7) M 173 [(0, .ref (zad Z 0)), (1, .int a1), (2, .int a2), (4, .int a4), (5, .long a5)] [] (f_L_entries_b173 self86 M a1 a2 a4 a5) := by
  unfold f_L_entries_b173
  refine h_iconst hC (v := 1) dL_entries_173 (by decide) ?_
  refine h_goto (tgt := 178) hC dL_entries_174 (by decide) ?_
  exact g_L_entries_b178 hfl hC hNc hlk hrt hk hs86 M a1 a2 a4 a5 1
set_option maxRecDepth 20000 in
set_option maxHeartbeats 4000000 in
theorem g_L_entries_b177 {p : Program} {l : Launch} {e : Env} {s : State} {m : MethodId} {args : Array Value} {below : List Frame} {meth : Method} {c : Code} {Z : gZ} (hfl : l.stackTraces = false) (hC : gD p s m args c cL_entries 8 RL Z) (hNc : gNc s) (hlk : meth.locks = false) (hrt : meth.sig.returnType = some .boolean) {self86 : gM → Int32 → Int32 → Int32 → Int32 → gR} {kk : Nat} (hk : kk + 25 ≤ 332) (hs86 : ∀ (M : gM) (a1 : Int32) (a2 : Int32) (a3 : Int32) (a4 : Int32), gY p l e rm_L_entries s m args below meth c 8 Z (fun F => vx_MQ below (gQc 1 Z F) (gXc Z F) args s 332 (6 * 332) (zA Z)) (kk + 25) M 86 [(0, .ref (zad Z 0)), (1, .int a1), (2, .int a2), (3, .int a3), (4, .int a4)] [] (self86 M a1 a2 a3 a4)) (M : gM) (a1 : Int32) (a2 : Int32) (a4 : Int32) (a5 : Int64) : gY p l e rm_L_entries s m args below meth c 8 Z (fun F => vx_MQ below (gQc 1 Z F) (gXc Z F) args s 332 (6 * 332) (zA Z)) (kk + 7) M 177 [(0, .ref (zad Z 0)), (1, .int a1), (2, .int a2), (4, .int a4), (5, .long a5)] [] (f_L_entries_b177 self86 M a1 a2 a4 a5) := by
  unfold f_L_entries_b177
  refine h_iconst hC (v := 0) dL_entries_177 (by decide) ?_
  exact g_L_entries_b178 hfl hC hNc hlk hrt hk hs86 M a1 a2 a4 a5 0
set_option maxRecDepth 20000 in
set_option maxHeartbeats 4000000 in
theorem g_L_entries_b146 {p : Program} {l : Launch} {e : Env} {s : State} {m : MethodId} {args : Array Value} {below : List Frame} {meth : Method} {c : Code} {Z : gZ} (hfl : l.stackTraces = false) (hC : gD p s m args c cL_entries 8 RL Z) (hNc : gNc s) (hlk : meth.locks = false) (hrt : meth.sig.returnType = some .boolean) {self86 : gM → Int32 → Int32 → Int32 → Int32 → gR} {kk : Nat} (hk : kk + 25 ≤ 332) (hs86 : ∀ (M : gM) (a1 : Int32) (a2 : Int32) (a3 : Int32) (a4 : Int32), gY p l e rm_L_entries s m args below meth c 8 Z (fun F => vx_MQ below (gQc 1 Z F) (gXc Z F) args s 332 (6 * 332) (zA Z)) (kk + 25) M 86 [(0, .ref (zad Z 0)), (1, .int a1), (2, .int a2), (3, .int a3), (4, .int a4)] [] (self86 M a1 a2 a3 a4)) (M : gM) (a1 : Int32) (a2 : Int32) (a4 : Int32) (a5 : Int64) : gY p l e rm_L_entries s m args below meth c 8 Z (fun F => vx_MQ below (gQc 1 Z F) (gXc Z F) args s 332 (6 * 332) (zA Z)) (kk + 6) M 146 [(0, .ref (zad Z 0)), (1, .int a1), (2, .int a2), (4, .int a4), (5, .long a5)] [] (f_L_entries_b146 self86 M a1 a2 a4 a5) := by
  unfold f_L_entries_b146
  refine h_aload_n hC 0 dL_entries_146 rfl rfl ?_
  refine h_iload hC 3 dL_entries_147 rfl ?_
  refine h_callW (n := 2) hC [.ref (zad Z 0), .int a4] hNc (c_L_counts hfl Z M a4) lk_L_212 mw_L_counts.1 mw_L_counts.2.1 mw_L_counts.2.2 ⟨by decide, by decide, by decide +kernel⟩ rfl rfl ⟨by decide, by decide⟩ rfl rfl (Nat.le_of_ble_eq_true rfl) (show (kk + 6) + 1 ≤ 332 from by omega) (show 6 * ((kk + 6) + 1) ≤ 1992 from by omega) dL_entries_149 (fun x2 M1 => ?_)
  refine h_lconst hC (v := 1) dL_entries_152 (by decide) ?_
  refine h_lcmp_eq (tgt := 173) hC dL_entries_153 dL_entries_154 (by decide) (fun _ => ?_) (fun _ => ?_)
  · exact g_L_entries_b173 hfl hC hNc hlk hrt hk hs86 M1 a1 a2 a4 a5
  · refine h_lload hC 4 dL_entries_157 rfl ?_
    refine h_lconst hC (v := 1) dL_entries_159 (by decide) ?_
    refine h_lcmp_lt (tgt := 177) hC dL_entries_160 dL_entries_161 (by decide) (fun _ => ?_) (fun _ => ?_)
    · exact g_L_entries_b177 hfl hC hNc hlk hrt hk hs86 M1 a1 a2 a4 a5
    · refine h_lload hC 4 dL_entries_164 rfl ?_
      refine h_ldc2 hC (v := 3) lc_L_219 dL_entries_166 ?_
      refine h_lcmp_gt (tgt := 177) hC dL_entries_169 dL_entries_170 (by decide) (fun _ => ?_) (fun _ => ?_)
      · exact g_L_entries_b177 hfl hC hNc hlk hrt hk hs86 M1 a1 a2 a4 a5
      · exact g_L_entries_b173 hfl hC hNc hlk hrt hk hs86 M1 a1 a2 a4 a5
set_option maxRecDepth 20000 in
set_option maxHeartbeats 4000000 in
theorem g_L_entries_lb86 {p : Program} {l : Launch} {e : Env} {s : State} {m : MethodId} {args : Array Value} {below : List Frame} {meth : Method} {c : Code} {Z : gZ} (hfl : l.stackTraces = false) (hC : gD p s m args c cL_entries 8 RL Z) (hNc : gNc s) (hlk : meth.locks = false) (hrt : meth.sig.returnType = some .boolean) {self86 : gM → Int32 → Int32 → Int32 → Int32 → gR} {kk : Nat} (hk : kk + 25 ≤ 332) (hs86 : ∀ (M : gM) (a1 : Int32) (a2 : Int32) (a3 : Int32) (a4 : Int32), gY p l e rm_L_entries s m args below meth c 8 Z (fun F => vx_MQ below (gQc 1 Z F) (gXc Z F) args s 332 (6 * 332) (zA Z)) (kk + 25) M 86 [(0, .ref (zad Z 0)), (1, .int a1), (2, .int a2), (3, .int a3), (4, .int a4)] [] (self86 M a1 a2 a3 a4)) (M : gM) (a1 : Int32) (a2 : Int32) (a3 : Int32) (a4 : Int32) : gY p l e rm_L_entries s m args below meth c 8 Z (fun F => vx_MQ below (gQc 1 Z F) (gXc Z F) args s 332 (6 * 332) (zA Z)) kk M 86 [(0, .ref (zad Z 0)), (1, .int a1), (2, .int a2), (3, .int a3), (4, .int a4)] [] (f_L_entries_lb86 self86 M a1 a2 a3 a4) := by
  unfold f_L_entries_lb86
  refine h_iload hC 4 dL_entries_86 rfl ?_
  refine h_iload_n hC 2 dL_entries_88 rfl rfl ?_
  refine h_icmp_ge (tgt := 350) hC dL_entries_89 (by decide) (fun _ => ?_) (fun _ => ?_)
  · refine h_widen (k1 := 332) (by omega) ?_
    refine h_iload_n hC 3 dL_entries_350 rfl rfl ?_
    exact h_zret hC hlk hrt (Nat.le_of_ble_eq_true rfl) dL_entries_351
  · refine h_iload_n hC 3 dL_entries_92 rfl rfl ?_
    refine h_if_eq (tgt := 350) hC dL_entries_93 (by decide) (fun _ => ?_) (fun _ => ?_)
    · refine h_widen (k1 := 332) (by omega) ?_
      refine h_iload_n hC 3 dL_entries_350 rfl rfl ?_
      exact h_zret hC hlk hrt (Nat.le_of_ble_eq_true rfl) dL_entries_351
    · refine h_aload_n hC 0 dL_entries_96 rfl rfl ?_
      refine h_iload hC 4 dL_entries_97 rfl ?_
      refine h_iconst hC (v := 0) dL_entries_99 (by decide) ?_
      refine h_callW (n := 3) hC [.ref (zad Z 0), .int a4, .int 0] hNc (c_L_entryAt hfl Z M a4 0) lk_L_210 mw_L_entryAt.1 mw_L_entryAt.2.1 mw_L_entryAt.2.2 ⟨by decide, by decide, by decide +kernel⟩ rfl rfl ⟨by decide, by decide⟩ rfl rfl (Nat.le_of_ble_eq_true rfl) (show kk + 2 ≤ 332 from by omega) (show 6 * (kk + 2) ≤ 1992 from by omega) dL_entries_100 (fun x2 M1 => ?_)
      refine h_lstore hC (lv1 := [(5, .long x2), (0, .ref (zad Z 0)), (1, .int a1), (2, .int a2), (3, .int a3), (4, .int a4)]) dL_entries_103 (by decide) rfl ?_
      refine h_lload hC 0 dL_entries_105 rfl ?_
      refine h_lconst hC (v := 0) dL_entries_107 (by decide) ?_
      refine h_lcmp_lt (tgt := 177) hC dL_entries_108 dL_entries_109 (by decide) (fun _ => ?_) (fun _ => ?_)
      · refine h_sub (lv1 := [(0, .ref (zad Z 0)), (1, .int a1), (2, .int a2), (4, .int a4), (5, .long x2)]) [1, 2, 3, 5, 0] rfl ?_
        refine h_widen (k1 := (kk + 7)) (by omega) ?_
        exact g_L_entries_b177 hfl hC hNc hlk hrt hk hs86 M1 a1 a2 a4 x2
      · refine h_lload hC 0 dL_entries_112 rfl ?_
        refine h_ldc2 hC (v := 12) lc_L_217 dL_entries_114 ?_
        refine h_lcmp_gt (tgt := 177) hC dL_entries_117 dL_entries_118 (by decide) (fun _ => ?_) (fun _ => ?_)
        · refine h_sub (lv1 := [(0, .ref (zad Z 0)), (1, .int a1), (2, .int a2), (4, .int a4), (5, .long x2)]) [1, 2, 3, 5, 0] rfl ?_
          refine h_widen (k1 := (kk + 7)) (by omega) ?_
          exact g_L_entries_b177 hfl hC hNc hlk hrt hk hs86 M1 a1 a2 a4 x2
        · refine h_iload hC 5 dL_entries_121 rfl ?_
          refine h_if_eq (tgt := 146) hC dL_entries_123 (by decide) (fun _ => ?_) (fun _ => ?_)
          · refine h_sub (lv1 := [(0, .ref (zad Z 0)), (1, .int a1), (2, .int a2), (4, .int a4), (5, .long x2)]) [1, 2, 3, 5, 0] rfl ?_
            refine h_widen (k1 := (kk + 6)) (by omega) ?_
            exact g_L_entries_b146 hfl hC hNc hlk hrt hk hs86 M1 a1 a2 a4 x2
          · refine h_aload_n hC 1 dL_entries_126 rfl rfl ?_
            refine h_iload hC 5 dL_entries_127 rfl ?_
            refine h_iconst hC (v := 1) dL_entries_129 (by decide) ?_
            refine h_callW (n := 3) hC [.ref (zad Z 0), .int a4, .int 1] hNc (c_L_entryAt hfl Z M1 a4 1) lk_L_210 mw_L_entryAt.1 mw_L_entryAt.2.1 mw_L_entryAt.2.2 ⟨by decide, by decide, by decide +kernel⟩ rfl rfl ⟨by decide, by decide⟩ rfl rfl (Nat.le_of_ble_eq_true rfl) (show (kk + 2) + 2 ≤ 332 from by omega) (show 6 * ((kk + 2) + 2) ≤ 1992 from by omega) dL_entries_130 (fun x4 M3 => ?_)
            refine h_aload_n hC 1 dL_entries_133 rfl rfl ?_
            refine h_iload hC 5 dL_entries_134 rfl ?_
            refine h_iconst hC (v := 1) dL_entries_136 (by decide) ?_
            refine h_isub hC dL_entries_137 ?_
            refine h_iconst hC (v := 1) dL_entries_138 (by decide) ?_
            refine h_callW (n := 3) hC [.ref (zad Z 0), .int (a4 - 1), .int 1] hNc (c_L_entryAt hfl Z M3 (a4 - 1) 1) lk_L_210 mw_L_entryAt.1 mw_L_entryAt.2.1 mw_L_entryAt.2.2 ⟨by decide, by decide, by decide +kernel⟩ rfl rfl ⟨by decide, by decide⟩ rfl rfl (Nat.le_of_ble_eq_true rfl) (show (kk + 4) + 2 ≤ 332 from by omega) (show 6 * ((kk + 4) + 2) ≤ 1992 from by omega) dL_entries_139 (fun x6 M5 => ?_)
            refine h_lcmp_lt (tgt := 177) hC dL_entries_142 dL_entries_143 (by decide) (fun _ => ?_) (fun _ => ?_)
            · refine h_sub (lv1 := [(0, .ref (zad Z 0)), (1, .int a1), (2, .int a2), (4, .int a4), (5, .long x2)]) [1, 2, 3, 5, 0] rfl ?_
              refine h_widen (k1 := (kk + 7)) (by omega) ?_
              exact g_L_entries_b177 hfl hC hNc hlk hrt hk hs86 M5 a1 a2 a4 x2
            · refine h_sub (lv1 := [(0, .ref (zad Z 0)), (1, .int a1), (2, .int a2), (4, .int a4), (5, .long x2)]) [1, 2, 3, 5, 0] rfl ?_
              exact g_L_entries_b146 hfl hC hNc hlk hrt hk hs86 M5 a1 a2 a4 x2
set_option maxRecDepth 20000 in
set_option maxHeartbeats 4000000 in
theorem g_L_entries_l86 {p : Program} {l : Launch} {e : Env} {s : State} {m : MethodId} {args : Array Value} {below : List Frame} {meth : Method} {c : Code} {Z : gZ} (hfl : l.stackTraces = false) (hC : gD p s m args c cL_entries 8 RL Z) (hNc : gNc s) (hlk : meth.locks = false) (hrt : meth.sig.returnType = some .boolean) : ∀ (n kk : Nat), kk + n * 25 ≤ 332 → ∀ (M : gM) (a1 : Int32) (a2 : Int32) (a3 : Int32) (a4 : Int32), gY p l e rm_L_entries s m args below meth c 8 Z (fun F => vx_MQ below (gQc 1 Z F) (gXc Z F) args s 332 (6 * 332) (zA Z)) kk M 86 [(0, .ref (zad Z 0)), (1, .int a1), (2, .int a2), (3, .int a3), (4, .int a4)] [] (f_L_entries_l86 n M a1 a2 a3 a4)
  | 0, _, _, _, _, _, _, _ => h_stuck
  | n + 1, kk, hk, M, a1, a2, a3, a4 => g_L_entries_lb86 hfl hC hNc hlk hrt (by omega) (g_L_entries_l86 hfl hC hNc hlk hrt n (kk + 25) (by omega)) M a1 a2 a3 a4
set_option maxRecDepth 20000 in
set_option maxHeartbeats 4000000 in
theorem g_L_entries_b84 {p : Program} {l : Launch} {e : Env} {s : State} {m : MethodId} {args : Array Value} {below : List Frame} {meth : Method} {c : Code} {Z : gZ} (hfl : l.stackTraces = false) (hC : gD p s m args c cL_entries 8 RL Z) (hNc : gNc s) (hlk : meth.locks = false) (hrt : meth.sig.returnType = some .boolean) (M : gM) (a1 : Int32) (a2 : Int32) (a3 : Int32) (t0 : Int32) : gY p l e rm_L_entries s m args below meth c 8 Z (fun F => vx_MQ below (gQc 1 Z F) (gXc Z F) args s 332 (6 * 332) (zA Z)) 7 M 84 [(0, .ref (zad Z 0)), (1, .int a1), (2, .int a2), (3, .int a3)] [.int t0] (f_L_entries_b84 M a1 a2 a3 t0) := by
  unfold f_L_entries_b84
  refine h_istore hC (lv1 := [(4, .int t0), (0, .ref (zad Z 0)), (1, .int a1), (2, .int a2), (3, .int a3)]) dL_entries_84 (by decide) rfl ?_
  refine h_sub (lv1 := [(0, .ref (zad Z 0)), (1, .int a1), (2, .int a2), (3, .int a3), (4, .int t0)]) [1, 2, 3, 4, 0] rfl ?_
  refine h_widen (k1 := 7) (Nat.le_of_ble_eq_true rfl) ?_
  exact g_L_entries_l86 hfl hC hNc hlk hrt 13 7 (Nat.le_of_ble_eq_true rfl) M a1 a2 a3 t0
set_option maxRecDepth 20000 in
set_option maxHeartbeats 4000000 in
theorem g_L_entries_b69 {p : Program} {l : Launch} {e : Env} {s : State} {m : MethodId} {args : Array Value} {below : List Frame} {meth : Method} {c : Code} {Z : gZ} (hfl : l.stackTraces = false) (hC : gD p s m args c cL_entries 8 RL Z) (hNc : gNc s) (hlk : meth.locks = false) (hrt : meth.sig.returnType = some .boolean) (M : gM) (a1 : Int32) (a2 : Int32) (t0 : Int32) : gY p l e rm_L_entries s m args below meth c 8 Z (fun F => vx_MQ below (gQc 1 Z F) (gXc Z F) args s 332 (6 * 332) (zA Z)) 7 M 69 [(0, .ref (zad Z 0)), (1, .int a1), (2, .int a2)] [.int t0] (f_L_entries_b69 M a1 a2 t0) := by
  unfold f_L_entries_b69
  refine h_istore_n hC (lv1 := [(3, .int t0), (0, .ref (zad Z 0)), (1, .int a1), (2, .int a2)]) dL_entries_69 rfl (by decide) rfl ?_
  refine h_iload_n hC 3 dL_entries_70 rfl rfl ?_
  refine h_bipush hC (v := 12) dL_entries_71 (by decide) ?_
  refine h_icmp_le (tgt := 83) hC dL_entries_73 (by decide) (fun _ => ?_) (fun _ => ?_)
  · refine h_iconst hC (v := 0) dL_entries_83 (by decide) ?_
    refine h_sub (lv1 := [(0, .ref (zad Z 0)), (1, .int a1), (2, .int a2), (3, .int t0)]) [1, 2, 3, 0] rfl ?_
    exact g_L_entries_b84 hfl hC hNc hlk hrt M a1 a2 t0 0
  · refine h_iload_n hC 3 dL_entries_76 rfl rfl ?_
    refine h_bipush hC (v := 12) dL_entries_77 (by decide) ?_
    refine h_isub hC dL_entries_79 ?_
    refine h_goto (tgt := 84) hC dL_entries_80 (by decide) ?_
    refine h_sub (lv1 := [(0, .ref (zad Z 0)), (1, .int a1), (2, .int a2), (3, .int t0)]) [1, 2, 3, 0] rfl ?_
    exact g_L_entries_b84 hfl hC hNc hlk hrt M a1 a2 t0 (a2 - 12)
set_option maxRecDepth 20000 in
set_option maxHeartbeats 4000000 in
theorem g_L_entries_b64 {p : Program} {l : Launch} {e : Env} {s : State} {m : MethodId} {args : Array Value} {below : List Frame} {meth : Method} {c : Code} {Z : gZ} (hfl : l.stackTraces = false) (hC : gD p s m args c cL_entries 8 RL Z) (hNc : gNc s) (hlk : meth.locks = false) (hrt : meth.sig.returnType = some .boolean) (M : gM) (a1 : Int32) (a2 : Int32) : gY p l e rm_L_entries s m args below meth c 8 Z (fun F => vx_MQ below (gQc 1 Z F) (gXc Z F) args s 332 (6 * 332) (zA Z)) 7 M 64 [(0, .ref (zad Z 0)), (1, .int a1), (2, .int a2)] [] (f_L_entries_b64 M a1 a2) := by
  unfold f_L_entries_b64
  refine h_iconst hC (v := 1) dL_entries_64 (by decide) ?_
  refine h_goto (tgt := 69) hC dL_entries_65 (by decide) ?_
  exact g_L_entries_b69 hfl hC hNc hlk hrt M a1 a2 1
set_option maxRecDepth 20000 in
set_option maxHeartbeats 4000000 in
theorem g_L_entries_b68 {p : Program} {l : Launch} {e : Env} {s : State} {m : MethodId} {args : Array Value} {below : List Frame} {meth : Method} {c : Code} {Z : gZ} (hfl : l.stackTraces = false) (hC : gD p s m args c cL_entries 8 RL Z) (hNc : gNc s) (hlk : meth.locks = false) (hrt : meth.sig.returnType = some .boolean) (M : gM) (a1 : Int32) (a2 : Int32) : gY p l e rm_L_entries s m args below meth c 8 Z (fun F => vx_MQ below (gQc 1 Z F) (gXc Z F) args s 332 (6 * 332) (zA Z)) 7 M 68 [(0, .ref (zad Z 0)), (1, .int a1), (2, .int a2)] [] (f_L_entries_b68 M a1 a2) := by
  unfold f_L_entries_b68
  refine h_iconst hC (v := 0) dL_entries_68 (by decide) ?_
  exact g_L_entries_b69 hfl hC hNc hlk hrt M a1 a2 0
set_option maxRecDepth 20000 in
set_option maxHeartbeats 4000000 in
theorem c_L_entries {l : Launch} (hfl : l.stackTraces = false) (Z : gZ) (M : gM) (a1 : Int32) : gMetB l yL_entries cL_entries 8 rm_L_entries 332 Z M [.ref (zad Z 0), .int a1] (f_L_entries M a1) := by
  refine h_enter (by decide) (Nat.le_of_ble_eq_true rfl) (fun p e s m args below meth c hC hNc hlk hrt => ?_)
  refine h_lv0 (lv1 := [(0, .ref (zad Z 0)), (1, .int a1)]) rfl ?_
  unfold f_L_entries
  refine h_aload_n hC 0 dL_entries_0 rfl rfl ?_
  refine h_callN (n := 0) hC [] 0 8 (by decide) rfl rfl (c_X8_entries hfl Z M ) lk_L_206 mw_X8_entries.1 mw_X8_entries.2.1 mw_X8_entries.2.2.1 mw_X8_entries.2.2.2 ⟨rfl, by decide, by decide, by decide +kernel⟩ rfl rfl ⟨by decide, by decide⟩ rfl rfl (Nat.le_of_ble_eq_true rfl) (Nat.le_of_ble_eq_true rfl) (Nat.le_of_ble_eq_true rfl) dL_entries_1 (fun x2 M1 => ?_)
  refine h_istore_n hC (lv1 := [(2, .int x2), (0, .ref (zad Z 0)), (1, .int a1)]) dL_entries_4 rfl (by decide) rfl ?_
  refine h_aload_n hC 1 dL_entries_5 rfl rfl ?_
  refine h_iload_n hC 0 dL_entries_6 rfl rfl ?_
  refine h_iconst hC (v := 0) dL_entries_7 (by decide) ?_
  refine h_callW (n := 3) hC [.ref (zad Z 0), .int x2, .int 0] hNc (c_L_entryAt hfl Z M1 x2 0) lk_L_210 mw_L_entryAt.1 mw_L_entryAt.2.1 mw_L_entryAt.2.2 ⟨by decide, by decide, by decide +kernel⟩ rfl rfl ⟨by decide, by decide⟩ rfl rfl (Nat.le_of_ble_eq_true rfl) (Nat.le_of_ble_eq_true rfl) (Nat.le_of_ble_eq_true rfl) dL_entries_8 (fun x4 M3 => ?_)
  refine h_ldc2 hC (v := (-9000000000000000001)) lc_L_33 dL_entries_11 ?_
  refine h_lcmp_ne (tgt := 68) hC dL_entries_14 dL_entries_15 (by decide) (fun _ => ?_) (fun _ => ?_)
  · refine h_aload_n hC 1 dL_entries_18 rfl rfl ?_
    refine h_iconst hC (v := 0) dL_entries_19 (by decide) ?_
    refine h_iconst hC (v := 5) dL_entries_20 (by decide) ?_
    refine h_callW (n := 3) hC [.ref (zad Z 0), .int 0, .int 5] hNc (c_L_entryAt hfl Z M3 0 5) lk_L_210 mw_L_entryAt.1 mw_L_entryAt.2.1 mw_L_entryAt.2.2 ⟨by decide, by decide, by decide +kernel⟩ rfl rfl ⟨by decide, by decide⟩ rfl rfl (Nat.le_of_ble_eq_true rfl) (Nat.le_of_ble_eq_true rfl) (Nat.le_of_ble_eq_true rfl) dL_entries_21 (fun x6 M5 => ?_)
    refine h_ldc2 hC (v := (-9000000000000000001)) lc_L_33 dL_entries_24 ?_
    refine h_lcmp_ne (tgt := 68) hC dL_entries_27 dL_entries_28 (by decide) (fun _ => ?_) (fun _ => ?_)
    · refine h_aload_n hC 1 dL_entries_31 rfl rfl ?_
      refine h_iload_n hC 0 dL_entries_32 rfl rfl ?_
      refine h_callW (n := 2) hC [.ref (zad Z 0), .int x2] hNc (c_L_counts hfl Z M5 x2) lk_L_212 mw_L_counts.1 mw_L_counts.2.1 mw_L_counts.2.2 ⟨by decide, by decide, by decide +kernel⟩ rfl rfl ⟨by decide, by decide⟩ rfl rfl (Nat.le_of_ble_eq_true rfl) (Nat.le_of_ble_eq_true rfl) (Nat.le_of_ble_eq_true rfl) dL_entries_33 (fun x8 M7 => ?_)
      refine h_ldc2 hC (v := (-9000000000000000001)) lc_L_33 dL_entries_36 ?_
      refine h_lcmp_ne (tgt := 68) hC dL_entries_39 dL_entries_40 (by decide) (fun _ => ?_) (fun _ => ?_)
      · refine h_iload_n hC 0 dL_entries_43 rfl rfl ?_
        refine h_if_eq (tgt := 64) hC dL_entries_44 (by decide) (fun _ => ?_) (fun _ => ?_)
        · refine h_sub (lv1 := [(0, .ref (zad Z 0)), (1, .int a1), (2, .int x2)]) [1, 2, 0] rfl ?_
          refine h_widen (k1 := 7) (Nat.le_of_ble_eq_true rfl) ?_
          exact g_L_entries_b64 hfl hC hNc hlk hrt M7 a1 x2
        · refine h_aload_n hC 1 dL_entries_47 rfl rfl ?_
          refine h_iload_n hC 0 dL_entries_48 rfl rfl ?_
          refine h_iconst hC (v := 1) dL_entries_49 (by decide) ?_
          refine h_isub hC dL_entries_50 ?_
          refine h_iconst hC (v := 1) dL_entries_51 (by decide) ?_
          refine h_callW (n := 3) hC [.ref (zad Z 0), .int (x2 - 1), .int 1] hNc (c_L_entryAt hfl Z M7 (x2 - 1) 1) lk_L_210 mw_L_entryAt.1 mw_L_entryAt.2.1 mw_L_entryAt.2.2 ⟨by decide, by decide, by decide +kernel⟩ rfl rfl ⟨by decide, by decide⟩ rfl rfl (Nat.le_of_ble_eq_true rfl) (Nat.le_of_ble_eq_true rfl) (Nat.le_of_ble_eq_true rfl) dL_entries_52 (fun x10 M9 => ?_)
          refine h_aload_n hC 1 dL_entries_55 rfl rfl ?_
          refine h_callN (n := 0) hC [] 0 8 (by decide) rfl rfl (c_X8_today hfl Z M9 ) lk_L_214 mw_X8_today.1 mw_X8_today.2.1 mw_X8_today.2.2.1 mw_X8_today.2.2.2 ⟨rfl, by decide, by decide, by decide +kernel⟩ rfl rfl ⟨by decide, by decide⟩ rfl rfl (Nat.le_of_ble_eq_true rfl) (Nat.le_of_ble_eq_true rfl) (Nat.le_of_ble_eq_true rfl) dL_entries_56 (fun x12 M11 => ?_)
          refine h_i2l hC dL_entries_59 ?_
          refine h_lcmp_gt (tgt := 68) hC dL_entries_60 dL_entries_61 (by decide) (fun _ => ?_) (fun _ => ?_)
          · refine h_sub (lv1 := [(0, .ref (zad Z 0)), (1, .int a1), (2, .int x2)]) [1, 2, 0] rfl ?_
            exact g_L_entries_b68 hfl hC hNc hlk hrt M11 a1 x2
          · refine h_sub (lv1 := [(0, .ref (zad Z 0)), (1, .int a1), (2, .int x2)]) [1, 2, 0] rfl ?_
            exact g_L_entries_b64 hfl hC hNc hlk hrt M11 a1 x2
      · refine h_sub (lv1 := [(0, .ref (zad Z 0)), (1, .int a1), (2, .int x2)]) [1, 2, 0] rfl ?_
        refine h_widen (k1 := 7) (Nat.le_of_ble_eq_true rfl) ?_
        exact g_L_entries_b68 hfl hC hNc hlk hrt M7 a1 x2
    · refine h_sub (lv1 := [(0, .ref (zad Z 0)), (1, .int a1), (2, .int x2)]) [1, 2, 0] rfl ?_
      refine h_widen (k1 := 7) (Nat.le_of_ble_eq_true rfl) ?_
      exact g_L_entries_b68 hfl hC hNc hlk hrt M5 a1 x2
  · refine h_sub (lv1 := [(0, .ref (zad Z 0)), (1, .int a1), (2, .int x2)]) [1, 2, 0] rfl ?_
    refine h_widen (k1 := 7) (Nat.le_of_ble_eq_true rfl) ?_
    exact g_L_entries_b68 hfl hC hNc hlk hrt M3 a1 x2
