def gb (x : Int32) : Int32 := if x = 0 then 0 else 1
theorem rRet_inj {v v1 : Int32} {M M1 : gM} (h : rRet v M = rRet v1 M1) : v = v1 ∧ M = M1 := by
  unfold rRet at h
  injection h with h1 h2
  injection h2 with h3 h4
  exact ⟨h3, h4⟩
theorem rRet_thr {v : Int32} {k : Nat} {M M1 : gM} : rRet v M ≠ rThr k M1 := by
  intro h
  unfold rRet rThr at h
  injection h with h1 h2
  omega
theorem rRet_ne {v : Int32} {M : gM} {r : gR} (h : r = rRet v M) : r.1 ≠ 0 := by
  rw [h]
  show ¬ (1 = 0)
  omega
/-- what the law asks of a call: the same answer, the same exception -/
def AgI (rL : gR) (f : gM → gR) (P : gM → Prop) : Prop := ∃ (v : Int32) (M1 : gM) (b : Int32) (M2 : gM), rL = rRet v M1 ∧ f M1 = rRet b M2 ∧ M2 9 0 = v ∧ (v = 0 → M2 10 0 = b) ∧ P M2
def AgB (rL : gR) (f : gM → gR) (P : gM → Prop) : Prop := ∃ (v : Int32) (M1 : gM) (b : Int32) (M2 : gM), rL = rRet v M1 ∧ f M1 = rRet b M2 ∧ M2 9 0 = v ∧ (v = 0 → M2 10 0 = gb b) ∧ P M2
def AgV (rL : gR) (f : gM → gR) (P : gM → Prop) : Prop := ∃ (v : Int32) (M1 : gM) (M2 : gM), rL = rRet v M1 ∧ f M1 = rRet 0 M2 ∧ M2 9 0 = v ∧ P M2
def AgT (rL : gR) (f : gM → gR) (P : gM → Prop) : Prop := ∃ (v : Int32) (M1 : gM) (M2 : gM), rL = rRet v M1 ∧ f M1 = rRet v M2 ∧ P M2
theorem lg_cmp_self {x y : Int64} (h : x = y) : lg_cmp x y = 0 := (lg_cmp_eq x y).mpr h
section GL
variable {p : Program} {l : Launch} {e : Env} {R : Room} {s : State} {m : MethodId} {args : Array Value} {below : List Frame} {meth : Method} {c : Code} {nL : Nat} {Z : gZ} {Q : State → Prop} {k : Nat} {M : gM} {pc : Nat} {lv : List (Nat × Value)} {st : List Value} {cc : ByteArray} {own : String}

theorem v_bool (hC : gD p s m args c cc nL own Z) {x : Int32} {off off2 : Int} {tgt : Nat} (d1 : decode cc pc = .ok (.ifCond .eq off, 3)) (ht : (pc : Int) + off = (tgt : Int)) (d2 : decode cc (pc + 3) = .ok (.iconst 1, 1)) (d3 : decode cc (pc + 4) = .ok (.goto off2, 3)) (ht2 : ((pc + 4 : Nat) : Int) + off2 = ((tgt + 1 : Nat) : Int)) (d4 : decode cc tgt = .ok (.iconst 0, 1)) (kk : gV p l e R s m args below meth c nL Z Q k M (tgt + 1) lv (.int (gb x) :: st)) : gV p l e R s m args below meth c nL Z Q k M pc lv (.int x :: st) := by
  refine v_if_eq (tgt := tgt) hC d1 ht (fun h => ?_) (fun h => ?_)
  · refine v_iconst hC (v := 0) d4 (by decide) ?_
    have e0 : gb x = 0 := if_pos h
    rw [e0] at kk
    exact kk
  · refine v_iconst hC (v := 1) d2 (by decide) ?_
    refine v_goto (tgt := tgt + 1) hC d3 ht2 ?_
    have e0 : gb x = 1 := if_neg h
    rw [e0] at kk
    exact kk
theorem v_boolL (hC : gD p s m args c cc nL own Z) {x : Int32} {off off2 : Int} {tgt : Nat} (d1 : decode cc pc = .ok (.ifCond .eq off, 3)) (ht : (pc : Int) + off = (tgt : Int)) (d2 : decode cc (pc + 3) = .ok (.lconst 1, 1)) (d3 : decode cc (pc + 4) = .ok (.goto off2, 3)) (ht2 : ((pc + 4 : Nat) : Int) + off2 = ((tgt + 1 : Nat) : Int)) (d4 : decode cc tgt = .ok (.lconst 0, 1)) (kk : gV p l e R s m args below meth c nL Z Q k M (tgt + 1) lv (.long (gb x).toInt64 :: st)) : gV p l e R s m args below meth c nL Z Q k M pc lv (.int x :: st) := by
  refine v_if_eq (tgt := tgt) hC d1 ht (fun h => ?_) (fun h => ?_)
  · refine v_lconst hC (v := 0) d4 (by decide) ?_
    have e0 : gb x = 0 := if_pos h
    rw [e0] at kk
    exact kk
  · refine v_lconst hC (v := 1) d2 (by decide) ?_
    refine v_goto (tgt := tgt + 1) hC d3 ht2 ?_
    have e0 : gb x = 1 := if_neg h
    rw [e0] at kk
    exact kk
theorem v_callEi (hC : gD p s m args c cc nL own Z) {C : String} {idx maxL n mcY : Nat} {y : MethodName} {bytes : ByteArray} {rt : Option FieldType} {rm : Room} {st1 : List Value} {r : gR} {v0 : Int32} {M0 : gM} (hr : r = rRet v0 M0) (As : List Value) (tq ci : Nat) {T : u_T} {N1 : Nat} {fs : List Value} (hq : tq < gN) (hfs : gE Z M tq = .inr (ci, fs)) (hc : vwCl[ci]? = some (C, T, N1)) (hM : gMet l y bytes maxL rt rm 1 mcY Z M (.ref (zad Z tq) :: As) r) (h1 : Cond.methodLink own idx y ∈ gWS) (h2 : Cond.instanceMethod y ∈ gWS) (h3 : Cond.selects C y y ∈ gWS) (h4 : Cond.initialized C ∈ gWS) (h5 : Cond.code y bytes maxL rt ∈ gWS) (hd : y.cls = C ∧ y.cls ≠ "java/lang/invoke/MethodHandle" ∧ y.cls ≠ "java/lang/invoke/VarHandle" ∧ (parseMethodDescriptor y.desc).map (fun d => d.parameters.length) = some n) (hrc : rm.cells = mcY) (hrs : rm.slots = 6 * mcY) (hR : rm.frames + 1 ≤ R.frames ∧ 8 + (maxL + 11) + rm.locals ≤ R.locals) (hn : As.length = n) (hst : st1 = As.reverse ++ .ref (zad Z tq) :: st) (hcat : (st.map fun v => v.category).sum ≤ 8) (hf1 : k + mcY ≤ R.cells) (hf2 : 6 * (k + mcY) ≤ R.slots) (d : decode cc pc = .ok (.invokevirtual idx, 3)) (kk : gV p l e R s m args below meth c nL Z Q (k + mcY) M0 (pc + 3) lv (.int v0 :: st)) : gV p l e R s m args below meth c nL Z Q k M pc lv st1 := v_callKi (n := n) hC As tq ci hq hfs hc hM (rRet_ne hr) h1 h2 h3 h4 h5 hd hrc hrs hR hn hst hcat hf1 hf2 d (fun ex M1 h => rRet_thr (hr.symm.trans h)) (fun v M1 h => by
  obtain ⟨e1, e2⟩ := rRet_inj (hr.symm.trans h)
  subst e1; subst e2
  exact kk)
theorem v_callEv (hC : gD p s m args c cc nL own Z) {C : String} {idx maxL n mcY : Nat} {y : MethodName} {bytes : ByteArray} {rt : Option FieldType} {rm : Room} {st1 : List Value} {r : gR} {M0 : gM} (hr : r = rRet 0 M0) (As : List Value) (tq ci : Nat) {T : u_T} {N1 : Nat} {fs : List Value} (hq : tq < gN) (hfs : gE Z M tq = .inr (ci, fs)) (hc : vwCl[ci]? = some (C, T, N1)) (hM : gMet l y bytes maxL rt rm 0 mcY Z M (.ref (zad Z tq) :: As) r) (h1 : Cond.methodLink own idx y ∈ gWS) (h2 : Cond.instanceMethod y ∈ gWS) (h3 : Cond.selects C y y ∈ gWS) (h4 : Cond.initialized C ∈ gWS) (h5 : Cond.code y bytes maxL rt ∈ gWS) (hd : y.cls = C ∧ y.cls ≠ "java/lang/invoke/MethodHandle" ∧ y.cls ≠ "java/lang/invoke/VarHandle" ∧ (parseMethodDescriptor y.desc).map (fun d => d.parameters.length) = some n) (hrc : rm.cells = mcY) (hrs : rm.slots = 6 * mcY) (hR : rm.frames + 1 ≤ R.frames ∧ 8 + (maxL + 11) + rm.locals ≤ R.locals) (hn : As.length = n) (hst : st1 = As.reverse ++ .ref (zad Z tq) :: st) (hcat : (st.map fun v => v.category).sum ≤ 8) (hf1 : k + mcY ≤ R.cells) (hf2 : 6 * (k + mcY) ≤ R.slots) (d : decode cc pc = .ok (.invokevirtual idx, 3)) (kk : gV p l e R s m args below meth c nL Z Q (k + mcY) M0 (pc + 3) lv st) : gV p l e R s m args below meth c nL Z Q k M pc lv st1 := v_callKv (n := n) hC As tq ci hq hfs hc hM (rRet_ne hr) h1 h2 h3 h4 h5 hd hrc hrs hR hn hst hcat hf1 hf2 d (fun ex M1 h => rRet_thr (hr.symm.trans h)) (fun M1 h => by
  obtain ⟨e1, e2⟩ := rRet_inj (hr.symm.trans h)
  subst e2
  exact kk)
theorem v_callLE (hC : gD p s m args c cc nL own Z) {idx maxL n mcY : Nat} {y : MethodName} {bytes : ByteArray} {hh : List (Nat × Nat × Nat × Nat)} {rm : Room} {st1 : List Value} {r : gR} {v0 : Int32} {M0 : gM} (hr : r = rRet v0 M0) (As : List Value) (hNc : gNc s) (hM : gMetL l y bytes maxL hh rm mcY Z M As r) (h1 : Cond.methodLink own idx y ∈ gWS) (h2 : Cond.static y ∈ gWS) (h4 : Cond.initialized y.cls ∈ gWS) (h5 : Cond.codeWith y bytes maxL (some .int) hh ∈ gWS) (hd : y.cls ≠ "java/lang/invoke/MethodHandle" ∧ y.cls ≠ "java/lang/invoke/VarHandle" ∧ (parseMethodDescriptor y.desc).map (fun d => d.parameters.length) = some n) (hrc : rm.cells = mcY) (hrs : rm.slots = 6 * mcY) (hR : rm.frames + 1 ≤ R.frames ∧ 8 + (maxL + 11) + rm.locals ≤ R.locals) (hn : As.length = n) (hst : st1 = As.reverse ++ st) (hcat : (st.map fun v => v.category).sum ≤ 8) (hf1 : k + mcY ≤ R.cells) (hf2 : 6 * (k + mcY) ≤ R.slots) (d : decode cc pc = .ok (.invokestatic idx, 3)) (kk : gV p l e R s m args below meth c nL Z Q (k + mcY) M0 (pc + 3) lv (.int v0 :: st)) : gV p l e R s m args below meth c nL Z Q k M pc lv st1 := v_callL (n := n) hC As hNc hM (rRet_ne hr) h1 h2 h4 h5 hd hrc hrs hR hn hst hcat hf1 hf2 d (fun v M1 h => by
  obtain ⟨e1, e2⟩ := rRet_inj (hr.symm.trans h)
  subst e1; subst e2
  exact kk)
end GL
theorem ll_178 : Cond.methodLink RL 178 yL_pass ∈ gWS := gIx 416 (by decide +kernel) rfl
theorem ll_183 : Cond.methodLink RL 183 yX9_pass ∈ gWS := gIx 1416 (by decide +kernel) rfl
theorem ll_184 : Cond.methodLink RL 184 yX9_thrown ∈ gWS := gIx 1412 (by decide +kernel) rfl
theorem ll_188 : Cond.methodLink RL 188 yL_holiday ∈ gWS := gIx 513 (by decide +kernel) rfl
theorem ll_190 : Cond.methodLink RL 190 yX9_holiday ∈ gWS := gIx 1427 (by decide +kernel) rfl
theorem ll_191 : Cond.methodLink RL 191 yL_setRule ∈ gWS := gIx 534 (by decide +kernel) rfl
theorem ll_194 : Cond.methodLink RL 194 yX9_setRule ∈ gWS := gIx 1435 (by decide +kernel) rfl
theorem ll_195 : Cond.methodLink RL 195 yL_open ∈ gWS := gIx 558 (by decide +kernel) rfl
theorem ll_197 : Cond.methodLink RL 197 yX9_open ∈ gWS := gIx 1439 (by decide +kernel) rfl
theorem ll_198 : Cond.methodLink RL 198 yL_join ∈ gWS := gIx 571 (by decide +kernel) rfl
theorem ll_201 : Cond.methodLink RL 201 yX9_join ∈ gWS := gIx 1447 (by decide +kernel) rfl
theorem ll_202 : Cond.methodLink RL 202 yL_lead ∈ gWS := gIx 602 (by decide +kernel) rfl
theorem ll_205 : Cond.methodLink RL 205 yX9_lead ∈ gWS := gIx 1462 (by decide +kernel) rfl
theorem ll_206 : Cond.methodLink RL 206 yL_claim ∈ gWS := gIx 614 (by decide +kernel) rfl
theorem ll_209 : Cond.methodLink RL 209 yX9_claim ∈ gWS := gIx 1470 (by decide +kernel) rfl
theorem ll_210 : Cond.methodLink RL 210 yL_sever ∈ gWS := gIx 637 (by decide +kernel) rfl
theorem ll_212 : Cond.methodLink RL 212 yX9_sever ∈ gWS := gIx 1475 (by decide +kernel) rfl
theorem ll_213 : Cond.methodLink RL 213 yL_serve ∈ gWS := gIx 654 (by decide +kernel) rfl
theorem ll_215 : Cond.methodLink RL 215 yX9_serve ∈ gWS := gIx 1483 (by decide +kernel) rfl
theorem ll_216 : Cond.methodLink RL 216 yL_answer ∈ gWS := gIx 688 (by decide +kernel) rfl
theorem ll_218 : Cond.methodLink RL 218 yX9_answer ∈ gWS := gIx 1499 (by decide +kernel) rfl
theorem ll_219 : Cond.methodLink RL 219 yL_motion ∈ gWS := gIx 759 (by decide +kernel) rfl
theorem ll_221 : Cond.methodLink RL 221 yX9_motion ∈ gWS := gIx 1551 (by decide +kernel) rfl
theorem ll_222 : Cond.methodLink RL 222 yL_respond ∈ gWS := gIx 766 (by decide +kernel) rfl
theorem ll_224 : Cond.methodLink RL 224 yX9_respond ∈ gWS := gIx 1555 (by decide +kernel) rfl
theorem ll_225 : Cond.methodLink RL 225 yL_ruling ∈ gWS := gIx 787 (by decide +kernel) rfl
theorem ll_227 : Cond.methodLink RL 227 yX9_ruling ∈ gWS := gIx 1575 (by decide +kernel) rfl
theorem ll_228 : Cond.methodLink RL 228 yL_judge ∈ gWS := gIx 794 (by decide +kernel) rfl
theorem ll_230 : Cond.methodLink RL 230 yX9_judge ∈ gWS := gIx 1579 (by decide +kernel) rfl
theorem ll_231 : Cond.methodLink RL 231 yL_vacate ∈ gWS := gIx 810 (by decide +kernel) rfl
theorem ll_233 : Cond.methodLink RL 233 yX9_vacate ∈ gWS := gIx 1583 (by decide +kernel) rfl
theorem ll_234 : Cond.methodLink RL 234 yL_appeal ∈ gWS := gIx 825 (by decide +kernel) rfl
theorem ll_236 : Cond.methodLink RL 236 yX9_appeal ∈ gWS := gIx 1591 (by decide +kernel) rfl
theorem ll_237 : Cond.methodLink RL 237 yL_decide ∈ gWS := gIx 844 (by decide +kernel) rfl
theorem ll_239 : Cond.methodLink RL 239 yX9_decide ∈ gWS := gIx 1607 (by decide +kernel) rfl
theorem ll_240 : Cond.methodLink RL 240 yL_settle ∈ gWS := gIx 856 (by decide +kernel) rfl
theorem ll_242 : Cond.methodLink RL 242 yX9_settle ∈ gWS := gIx 1611 (by decide +kernel) rfl
theorem ll_243 : Cond.methodLink RL 243 yL_pay ∈ gWS := gIx 863 (by decide +kernel) rfl
theorem ll_245 : Cond.methodLink RL 245 yX9_pay ∈ gWS := gIx 1615 (by decide +kernel) rfl
theorem ll_246 : Cond.methodLink RL 246 yL_stay ∈ gWS := gIx 878 (by decide +kernel) rfl
theorem ll_249 : Cond.methodLink RL 249 yX9_stay ∈ gWS := gIx 1624 (by decide +kernel) rfl
theorem ll_250 : Cond.methodLink RL 250 yL_defect ∈ gWS := gIx 893 (by decide +kernel) rfl
theorem ll_252 : Cond.methodLink RL 252 yX9_defect ∈ gWS := gIx 1628 (by decide +kernel) rfl
theorem ll_253 : Cond.methodLink RL 253 yL_cure ∈ gWS := gIx 901 (by decide +kernel) rfl
theorem ll_255 : Cond.methodLink RL 255 yX9_cure ∈ gWS := gIx 1632 (by decide +kernel) rfl
theorem ll_256 : Cond.methodLink RL 256 yL_extend ∈ gWS := gIx 909 (by decide +kernel) rfl
theorem ll_258 : Cond.methodLink RL 258 yX9_extend ∈ gWS := gIx 1636 (by decide +kernel) rfl
theorem ll_259 : Cond.methodLink RL 259 yL_hearing ∈ gWS := gIx 927 (by decide +kernel) rfl
theorem ll_261 : Cond.methodLink RL 261 yX9_hearing ∈ gWS := gIx 1648 (by decide +kernel) rfl
theorem ll_262 : Cond.methodLink RL 262 yL_continueHearing ∈ gWS := gIx 952 (by decide +kernel) rfl
theorem ll_264 : Cond.methodLink RL 264 yX9_continueHearing ∈ gWS := gIx 1664 (by decide +kernel) rfl
theorem ll_265 : Cond.methodLink RL 265 yL_strike ∈ gWS := gIx 969 (by decide +kernel) rfl
theorem ll_267 : Cond.methodLink RL 267 yX9_strike ∈ gWS := gIx 1672 (by decide +kernel) rfl
theorem ll_268 : Cond.methodLink RL 268 yL_dismiss ∈ gWS := gIx 1004 (by decide +kernel) rfl
theorem ll_270 : Cond.methodLink RL 270 yX9_dismiss ∈ gWS := gIx 1676 (by decide +kernel) rfl
theorem ll_271 : Cond.methodLink RL 271 yL_seat ∈ gWS := gIx 1028 (by decide +kernel) rfl
theorem ll_273 : Cond.methodLink RL 273 yX9_seat ∈ gWS := gIx 1684 (by decide +kernel) rfl
theorem ll_274 : Cond.methodLink RL 274 yL_exhibit ∈ gWS := gIx 1037 (by decide +kernel) rfl
theorem ll_276 : Cond.methodLink RL 276 yX9_exhibit ∈ gWS := gIx 1688 (by decide +kernel) rfl
theorem ll_277 : Cond.methodLink RL 277 yL_hand ∈ gWS := gIx 1049 (by decide +kernel) rfl
theorem ll_279 : Cond.methodLink RL 279 yX9_hand ∈ gWS := gIx 1692 (by decide +kernel) rfl
theorem ll_280 : Cond.methodLink RL 280 yL_object ∈ gWS := gIx 1061 (by decide +kernel) rfl
theorem ll_283 : Cond.methodLink RL 283 yX9_object ∈ gWS := gIx 1700 (by decide +kernel) rfl
theorem ll_284 : Cond.methodLink RL 284 yL_sustain ∈ gWS := gIx 1069 (by decide +kernel) rfl
theorem ll_287 : Cond.methodLink RL 287 yX9_sustain ∈ gWS := gIx 1704 (by decide +kernel) rfl
theorem ll_288 : Cond.methodLink RL 288 yL_isAdmitted ∈ gWS := gIx 1077 (by decide +kernel) rfl
theorem ll_290 : Cond.methodLink RL 290 yX9_isAdmitted ∈ gWS := gIx 1708 (by decide +kernel) rfl
theorem ll_291 : Cond.methodLink RL 291 yL_seal ∈ gWS := gIx 1088 (by decide +kernel) rfl
theorem ll_293 : Cond.methodLink RL 293 yX9_seal ∈ gWS := gIx 1712 (by decide +kernel) rfl
theorem ll_294 : Cond.methodLink RL 294 yL_maySee ∈ gWS := gIx 1103 (by decide +kernel) rfl
theorem ll_296 : Cond.methodLink RL 296 yX9_maySee ∈ gWS := gIx 1716 (by decide +kernel) rfl
theorem ll_297 : Cond.methodLink RL 297 yL_certify ∈ gWS := gIx 1119 (by decide +kernel) rfl
theorem ll_300 : Cond.methodLink RL 300 yX9_certify ∈ gWS := gIx 1720 (by decide +kernel) rfl
theorem ll_301 : Cond.methodLink RL 301 yL_member ∈ gWS := gIx 1127 (by decide +kernel) rfl
theorem ll_303 : Cond.methodLink RL 303 yX9_member ∈ gWS := gIx 1724 (by decide +kernel) rfl
theorem ll_304 : Cond.methodLink RL 304 yL_share ∈ gWS := gIx 1149 (by decide +kernel) rfl
theorem ll_306 : Cond.methodLink RL 306 yX9_share ∈ gWS := gIx 1732 (by decide +kernel) rfl
theorem ll_307 : Cond.methodLink RL 307 yX8_today ∈ gWS := gIx 408 (by decide +kernel) rfl
theorem ll_310 : Cond.methodLink RL 310 yX9_today ∈ gWS := gIx 1736 (by decide +kernel) rfl
theorem ll_311 : Cond.methodLink RL 311 yX8_entries ∈ gWS := gIx 412 (by decide +kernel) rfl
theorem ll_314 : Cond.methodLink RL 314 yX9_entries ∈ gWS := gIx 1740 (by decide +kernel) rfl
theorem ll_315 : Cond.methodLink RL 315 yL_entryAt ∈ gWS := gIx 1160 (by decide +kernel) rfl
theorem ll_317 : Cond.methodLink RL 317 yX9_entryAt ∈ gWS := gIx 1744 (by decide +kernel) rfl
theorem ll_318 : Cond.methodLink RL 318 yL_counts ∈ gWS := gIx 1168 (by decide +kernel) rfl
theorem ll_320 : Cond.methodLink RL 320 yX9_counts ∈ gWS := gIx 1748 (by decide +kernel) rfl
theorem ll_321 : Cond.methodLink RL 321 yL_stateOf ∈ gWS := gIx 1175 (by decide +kernel) rfl
theorem ll_323 : Cond.methodLink RL 323 yX9_stateOf ∈ gWS := gIx 1752 (by decide +kernel) rfl
theorem ll_324 : Cond.methodLink RL 324 yL_stateByDocket ∈ gWS := gIx 1182 (by decide +kernel) rfl
theorem ll_326 : Cond.methodLink RL 326 yX9_stateByDocket ∈ gWS := gIx 1756 (by decide +kernel) rfl
theorem ll_327 : Cond.methodLink RL 327 yL_amountOf ∈ gWS := gIx 1190 (by decide +kernel) rfl
theorem ll_329 : Cond.methodLink RL 329 yX9_amountOf ∈ gWS := gIx 1761 (by decide +kernel) rfl
theorem ll_330 : Cond.methodLink RL 330 yL_balance ∈ gWS := gIx 1197 (by decide +kernel) rfl
theorem ll_332 : Cond.methodLink RL 332 yX9_balance ∈ gWS := gIx 1765 (by decide +kernel) rfl
theorem ll_333 : Cond.methodLink RL 333 yL_caseOf ∈ gWS := gIx 1204 (by decide +kernel) rfl
theorem ll_335 : Cond.methodLink RL 335 yX9_caseOf ∈ gWS := gIx 1769 (by decide +kernel) rfl
theorem ll_336 : Cond.methodLink RL 336 yL_isAnswered ∈ gWS := gIx 1211 (by decide +kernel) rfl
theorem ll_338 : Cond.methodLink RL 338 yX9_isAnswered ∈ gWS := gIx 1773 (by decide +kernel) rfl
theorem ll_339 : Cond.methodLink RL 339 yL_due ∈ gWS := gIx 1218 (by decide +kernel) rfl
theorem ll_341 : Cond.methodLink RL 341 yX9_due ∈ gWS := gIx 1777 (by decide +kernel) rfl
theorem ll_342 : Cond.methodLink RL 342 yL_dueByDays ∈ gWS := gIx 1225 (by decide +kernel) rfl
theorem ll_344 : Cond.methodLink RL 344 yX9_dueByDays ∈ gWS := gIx 1781 (by decide +kernel) rfl
theorem ll_345 : Cond.methodLink RL 345 yL_hearingAt ∈ gWS := gIx 1241 (by decide +kernel) rfl
theorem ll_347 : Cond.methodLink RL 347 yX9_hearingAt ∈ gWS := gIx 1668 (by decide +kernel) rfl
theorem mw_L_amountOf : Cond.static yL_amountOf ∈ gWS ∧ Cond.initialized yL_amountOf.cls ∈ gWS ∧ Cond.codeWith yL_amountOf cL_amountOf 4 (some .int) [(0, 9, 12, 25)] ∈ gWS := ⟨gIx 1191 (by decide +kernel) rfl, gIx 74 (by decide +kernel) rfl, gIx 1192 (by decide +kernel) rfl⟩
theorem mw_L_answer : Cond.static yL_answer ∈ gWS ∧ Cond.initialized yL_answer.cls ∈ gWS ∧ Cond.codeWith yL_answer cL_answer 4 (some .int) [(0, 9, 12, 25), (0, 9, 15, 15)] ∈ gWS := ⟨gIx 689 (by decide +kernel) rfl, gIx 74 (by decide +kernel) rfl, gIx 690 (by decide +kernel) rfl⟩
theorem mw_L_appeal : Cond.static yL_appeal ∈ gWS ∧ Cond.initialized yL_appeal.cls ∈ gWS ∧ Cond.codeWith yL_appeal cL_appeal 4 (some .int) [(0, 9, 12, 25), (0, 9, 15, 15)] ∈ gWS := ⟨gIx 826 (by decide +kernel) rfl, gIx 74 (by decide +kernel) rfl, gIx 827 (by decide +kernel) rfl⟩
theorem mw_L_balance : Cond.static yL_balance ∈ gWS ∧ Cond.initialized yL_balance.cls ∈ gWS ∧ Cond.codeWith yL_balance cL_balance 4 (some .int) [(0, 9, 12, 25)] ∈ gWS := ⟨gIx 1198 (by decide +kernel) rfl, gIx 74 (by decide +kernel) rfl, gIx 1199 (by decide +kernel) rfl⟩
theorem mw_L_caseOf : Cond.static yL_caseOf ∈ gWS ∧ Cond.initialized yL_caseOf.cls ∈ gWS ∧ Cond.codeWith yL_caseOf cL_caseOf 4 (some .int) [(0, 9, 12, 25)] ∈ gWS := ⟨gIx 1205 (by decide +kernel) rfl, gIx 74 (by decide +kernel) rfl, gIx 1206 (by decide +kernel) rfl⟩
theorem mw_L_certify : Cond.static yL_certify ∈ gWS ∧ Cond.initialized yL_certify.cls ∈ gWS ∧ Cond.codeWith yL_certify cL_certify 3 (some .int) [(0, 5, 8, 25), (0, 5, 11, 15)] ∈ gWS := ⟨gIx 1120 (by decide +kernel) rfl, gIx 74 (by decide +kernel) rfl, gIx 1121 (by decide +kernel) rfl⟩
theorem mw_L_claim : Cond.static yL_claim ∈ gWS ∧ Cond.initialized yL_claim.cls ∈ gWS ∧ Cond.codeWith yL_claim cL_claim 7 (some .int) [(0, 14, 17, 25), (0, 14, 21, 13), (0, 14, 25, 15)] ∈ gWS := ⟨gIx 615 (by decide +kernel) rfl, gIx 74 (by decide +kernel) rfl, gIx 616 (by decide +kernel) rfl⟩
theorem mw_L_continueHearing : Cond.static yL_continueHearing ∈ gWS ∧ Cond.initialized yL_continueHearing.cls ∈ gWS ∧ Cond.codeWith yL_continueHearing cL_continueHearing 4 (some .int) [(0, 9, 12, 25), (0, 9, 15, 15)] ∈ gWS := ⟨gIx 953 (by decide +kernel) rfl, gIx 74 (by decide +kernel) rfl, gIx 954 (by decide +kernel) rfl⟩
theorem mw_L_counts : Cond.static yL_counts ∈ gWS ∧ Cond.initialized yL_counts.cls ∈ gWS ∧ Cond.codeWith yL_counts cL_counts 4 (some .int) [(0, 16, 19, 25)] ∈ gWS := ⟨gIx 1169 (by decide +kernel) rfl, gIx 74 (by decide +kernel) rfl, gIx 1170 (by decide +kernel) rfl⟩
theorem mw_L_cure : Cond.static yL_cure ∈ gWS ∧ Cond.initialized yL_cure.cls ∈ gWS ∧ Cond.codeWith yL_cure cL_cure 4 (some .int) [(0, 16, 19, 25), (0, 16, 22, 15)] ∈ gWS := ⟨gIx 902 (by decide +kernel) rfl, gIx 74 (by decide +kernel) rfl, gIx 903 (by decide +kernel) rfl⟩
theorem mw_L_decide : Cond.static yL_decide ∈ gWS ∧ Cond.initialized yL_decide.cls ∈ gWS ∧ Cond.codeWith yL_decide cL_decide 6 (some .int) [(0, 12, 15, 25), (0, 12, 19, 13), (0, 12, 23, 15)] ∈ gWS := ⟨gIx 845 (by decide +kernel) rfl, gIx 74 (by decide +kernel) rfl, gIx 846 (by decide +kernel) rfl⟩
theorem mw_L_defect : Cond.static yL_defect ∈ gWS ∧ Cond.initialized yL_defect.cls ∈ gWS ∧ Cond.codeWith yL_defect cL_defect 4 (some .int) [(0, 9, 12, 25), (0, 9, 15, 15)] ∈ gWS := ⟨gIx 894 (by decide +kernel) rfl, gIx 74 (by decide +kernel) rfl, gIx 895 (by decide +kernel) rfl⟩
theorem mw_L_dismiss : Cond.static yL_dismiss ∈ gWS ∧ Cond.initialized yL_dismiss.cls ∈ gWS ∧ Cond.codeWith yL_dismiss cL_dismiss 5 (some .int) [(0, 10, 13, 25), (0, 10, 17, 15)] ∈ gWS := ⟨gIx 1005 (by decide +kernel) rfl, gIx 74 (by decide +kernel) rfl, gIx 1006 (by decide +kernel) rfl⟩
theorem mw_L_due : Cond.static yL_due ∈ gWS ∧ Cond.initialized yL_due.cls ∈ gWS ∧ Cond.codeWith yL_due cL_due 5 (some .int) [(0, 10, 13, 25)] ∈ gWS := ⟨gIx 1219 (by decide +kernel) rfl, gIx 74 (by decide +kernel) rfl, gIx 1220 (by decide +kernel) rfl⟩
theorem mw_L_dueByDays : Cond.static yL_dueByDays ∈ gWS ∧ Cond.initialized yL_dueByDays.cls ∈ gWS ∧ Cond.codeWith yL_dueByDays cL_dueByDays 5 (some .int) [(0, 10, 13, 25)] ∈ gWS := ⟨gIx 1226 (by decide +kernel) rfl, gIx 74 (by decide +kernel) rfl, gIx 1227 (by decide +kernel) rfl⟩
theorem mw_L_entryAt : Cond.static yL_entryAt ∈ gWS ∧ Cond.initialized yL_entryAt.cls ∈ gWS ∧ Cond.codeWith yL_entryAt cL_entryAt 5 (some .int) [(0, 10, 13, 25)] ∈ gWS := ⟨gIx 1161 (by decide +kernel) rfl, gIx 74 (by decide +kernel) rfl, gIx 1162 (by decide +kernel) rfl⟩
theorem mw_L_exhibit : Cond.static yL_exhibit ∈ gWS ∧ Cond.initialized yL_exhibit.cls ∈ gWS ∧ Cond.codeWith yL_exhibit cL_exhibit 5 (some .int) [(0, 10, 13, 25), (0, 10, 17, 15)] ∈ gWS := ⟨gIx 1038 (by decide +kernel) rfl, gIx 74 (by decide +kernel) rfl, gIx 1039 (by decide +kernel) rfl⟩
theorem mw_L_extend : Cond.static yL_extend ∈ gWS ∧ Cond.initialized yL_extend.cls ∈ gWS ∧ Cond.codeWith yL_extend cL_extend 6 (some .int) [(0, 12, 15, 25), (0, 12, 19, 13), (0, 12, 23, 15)] ∈ gWS := ⟨gIx 910 (by decide +kernel) rfl, gIx 74 (by decide +kernel) rfl, gIx 911 (by decide +kernel) rfl⟩
theorem mw_L_hand : Cond.static yL_hand ∈ gWS ∧ Cond.initialized yL_hand.cls ∈ gWS ∧ Cond.codeWith yL_hand cL_hand 6 (some .int) [(0, 19, 22, 25)] ∈ gWS := ⟨gIx 1050 (by decide +kernel) rfl, gIx 74 (by decide +kernel) rfl, gIx 1051 (by decide +kernel) rfl⟩
theorem mw_L_hearing : Cond.static yL_hearing ∈ gWS ∧ Cond.initialized yL_hearing.cls ∈ gWS ∧ Cond.codeWith yL_hearing cL_hearing 6 (some .int) [(0, 12, 15, 25), (0, 12, 19, 13), (0, 12, 23, 15)] ∈ gWS := ⟨gIx 928 (by decide +kernel) rfl, gIx 74 (by decide +kernel) rfl, gIx 929 (by decide +kernel) rfl⟩
theorem mw_L_hearingAt : Cond.static yL_hearingAt ∈ gWS ∧ Cond.initialized yL_hearingAt.cls ∈ gWS ∧ Cond.codeWith yL_hearingAt cL_hearingAt 4 (some .int) [(0, 9, 12, 25)] ∈ gWS := ⟨gIx 1242 (by decide +kernel) rfl, gIx 74 (by decide +kernel) rfl, gIx 1243 (by decide +kernel) rfl⟩
theorem mw_L_holiday : Cond.static yL_holiday ∈ gWS ∧ Cond.initialized yL_holiday.cls ∈ gWS ∧ Cond.codeWith yL_holiday cL_holiday 4 (some .int) [(0, 16, 19, 13), (0, 16, 22, 15)] ∈ gWS := ⟨gIx 514 (by decide +kernel) rfl, gIx 74 (by decide +kernel) rfl, gIx 515 (by decide +kernel) rfl⟩
theorem mw_L_isAdmitted : Cond.static yL_isAdmitted ∈ gWS ∧ Cond.initialized yL_isAdmitted.cls ∈ gWS ∧ Cond.codeWith yL_isAdmitted cL_isAdmitted 4 (some .int) [(0, 16, 19, 25)] ∈ gWS := ⟨gIx 1078 (by decide +kernel) rfl, gIx 74 (by decide +kernel) rfl, gIx 1079 (by decide +kernel) rfl⟩
theorem mw_L_isAnswered : Cond.static yL_isAnswered ∈ gWS ∧ Cond.initialized yL_isAnswered.cls ∈ gWS ∧ Cond.codeWith yL_isAnswered cL_isAnswered 4 (some .int) [(0, 16, 19, 25)] ∈ gWS := ⟨gIx 1212 (by decide +kernel) rfl, gIx 74 (by decide +kernel) rfl, gIx 1213 (by decide +kernel) rfl⟩
theorem mw_L_join : Cond.static yL_join ∈ gWS ∧ Cond.initialized yL_join.cls ∈ gWS ∧ Cond.codeWith yL_join cL_join 6 (some .int) [(0, 12, 15, 25), (0, 12, 19, 15)] ∈ gWS := ⟨gIx 572 (by decide +kernel) rfl, gIx 74 (by decide +kernel) rfl, gIx 573 (by decide +kernel) rfl⟩
theorem mw_L_judge : Cond.static yL_judge ∈ gWS ∧ Cond.initialized yL_judge.cls ∈ gWS ∧ Cond.codeWith yL_judge cL_judge 5 (some .int) [(0, 10, 13, 25), (0, 10, 17, 13), (0, 10, 21, 15)] ∈ gWS := ⟨gIx 795 (by decide +kernel) rfl, gIx 74 (by decide +kernel) rfl, gIx 796 (by decide +kernel) rfl⟩
theorem mw_L_lead : Cond.static yL_lead ∈ gWS ∧ Cond.initialized yL_lead.cls ∈ gWS ∧ Cond.codeWith yL_lead cL_lead 5 (some .int) [(0, 10, 13, 25), (0, 10, 17, 15)] ∈ gWS := ⟨gIx 603 (by decide +kernel) rfl, gIx 74 (by decide +kernel) rfl, gIx 604 (by decide +kernel) rfl⟩
theorem mw_L_maySee : Cond.static yL_maySee ∈ gWS ∧ Cond.initialized yL_maySee.cls ∈ gWS ∧ Cond.codeWith yL_maySee cL_maySee 6 (some .int) [(0, 19, 22, 25), (0, 19, 26, 13)] ∈ gWS := ⟨gIx 1104 (by decide +kernel) rfl, gIx 74 (by decide +kernel) rfl, gIx 1105 (by decide +kernel) rfl⟩
theorem mw_L_member : Cond.static yL_member ∈ gWS ∧ Cond.initialized yL_member.cls ∈ gWS ∧ Cond.codeWith yL_member cL_member 6 (some .int) [(0, 12, 15, 25), (0, 12, 19, 15)] ∈ gWS := ⟨gIx 1128 (by decide +kernel) rfl, gIx 74 (by decide +kernel) rfl, gIx 1129 (by decide +kernel) rfl⟩
theorem mw_L_motion : Cond.static yL_motion ∈ gWS ∧ Cond.initialized yL_motion.cls ∈ gWS ∧ Cond.codeWith yL_motion cL_motion 4 (some .int) [(0, 9, 12, 25), (0, 9, 15, 15)] ∈ gWS := ⟨gIx 760 (by decide +kernel) rfl, gIx 74 (by decide +kernel) rfl, gIx 761 (by decide +kernel) rfl⟩
theorem mw_L_object : Cond.static yL_object ∈ gWS ∧ Cond.initialized yL_object.cls ∈ gWS ∧ Cond.codeWith yL_object cL_object 4 (some .int) [(0, 6, 9, 25), (0, 6, 12, 15)] ∈ gWS := ⟨gIx 1062 (by decide +kernel) rfl, gIx 74 (by decide +kernel) rfl, gIx 1063 (by decide +kernel) rfl⟩
theorem mw_L_open : Cond.static yL_open ∈ gWS ∧ Cond.initialized yL_open.cls ∈ gWS ∧ Cond.codeWith yL_open cL_open 4 (some .int) [(0, 9, 12, 25), (0, 9, 15, 15)] ∈ gWS := ⟨gIx 559 (by decide +kernel) rfl, gIx 74 (by decide +kernel) rfl, gIx 560 (by decide +kernel) rfl⟩
theorem mw_L_pass : Cond.static yL_pass ∈ gWS ∧ Cond.initialized yL_pass.cls ∈ gWS ∧ Cond.codeWith yL_pass cL_pass 4 (some .int) [(0, 9, 12, 13), (0, 9, 15, 15)] ∈ gWS := ⟨gIx 417 (by decide +kernel) rfl, gIx 74 (by decide +kernel) rfl, gIx 418 (by decide +kernel) rfl⟩
theorem mw_L_pay : Cond.static yL_pay ∈ gWS ∧ Cond.initialized yL_pay.cls ∈ gWS ∧ Cond.codeWith yL_pay cL_pay 5 (some .int) [(0, 10, 13, 25), (0, 10, 17, 13), (0, 10, 21, 15)] ∈ gWS := ⟨gIx 864 (by decide +kernel) rfl, gIx 74 (by decide +kernel) rfl, gIx 865 (by decide +kernel) rfl⟩
theorem mw_L_respond : Cond.static yL_respond ∈ gWS ∧ Cond.initialized yL_respond.cls ∈ gWS ∧ Cond.codeWith yL_respond cL_respond 4 (some .int) [(0, 9, 12, 25), (0, 9, 15, 15)] ∈ gWS := ⟨gIx 767 (by decide +kernel) rfl, gIx 74 (by decide +kernel) rfl, gIx 768 (by decide +kernel) rfl⟩
theorem mw_L_ruling : Cond.static yL_ruling ∈ gWS ∧ Cond.initialized yL_ruling.cls ∈ gWS ∧ Cond.codeWith yL_ruling cL_ruling 5 (some .int) [(0, 10, 13, 25), (0, 10, 17, 13), (0, 10, 21, 15)] ∈ gWS := ⟨gIx 788 (by decide +kernel) rfl, gIx 74 (by decide +kernel) rfl, gIx 789 (by decide +kernel) rfl⟩
theorem mw_L_seal : Cond.static yL_seal ∈ gWS ∧ Cond.initialized yL_seal.cls ∈ gWS ∧ Cond.codeWith yL_seal cL_seal 5 (some .int) [(0, 17, 20, 25)] ∈ gWS := ⟨gIx 1089 (by decide +kernel) rfl, gIx 74 (by decide +kernel) rfl, gIx 1090 (by decide +kernel) rfl⟩
theorem mw_L_seat : Cond.static yL_seat ∈ gWS ∧ Cond.initialized yL_seat.cls ∈ gWS ∧ Cond.codeWith yL_seat cL_seat 5 (some .int) [(0, 10, 13, 25)] ∈ gWS := ⟨gIx 1029 (by decide +kernel) rfl, gIx 74 (by decide +kernel) rfl, gIx 1030 (by decide +kernel) rfl⟩
theorem mw_L_serve : Cond.static yL_serve ∈ gWS ∧ Cond.initialized yL_serve.cls ∈ gWS ∧ Cond.codeWith yL_serve cL_serve 5 (some .int) [(0, 10, 13, 25), (0, 10, 17, 15)] ∈ gWS := ⟨gIx 655 (by decide +kernel) rfl, gIx 74 (by decide +kernel) rfl, gIx 656 (by decide +kernel) rfl⟩
theorem mw_L_setRule : Cond.static yL_setRule ∈ gWS ∧ Cond.initialized yL_setRule.cls ∈ gWS ∧ Cond.codeWith yL_setRule cL_setRule 6 (some .int) [(0, 12, 15, 25), (0, 12, 19, 13)] ∈ gWS := ⟨gIx 535 (by decide +kernel) rfl, gIx 74 (by decide +kernel) rfl, gIx 536 (by decide +kernel) rfl⟩
theorem mw_L_settle : Cond.static yL_settle ∈ gWS ∧ Cond.initialized yL_settle.cls ∈ gWS ∧ Cond.codeWith yL_settle cL_settle 4 (some .int) [(0, 9, 12, 25), (0, 9, 15, 15)] ∈ gWS := ⟨gIx 857 (by decide +kernel) rfl, gIx 74 (by decide +kernel) rfl, gIx 858 (by decide +kernel) rfl⟩
theorem mw_L_sever : Cond.static yL_sever ∈ gWS ∧ Cond.initialized yL_sever.cls ∈ gWS ∧ Cond.codeWith yL_sever cL_sever 4 (some .int) [(0, 9, 12, 25), (0, 9, 15, 15)] ∈ gWS := ⟨gIx 638 (by decide +kernel) rfl, gIx 74 (by decide +kernel) rfl, gIx 639 (by decide +kernel) rfl⟩
theorem mw_L_share : Cond.static yL_share ∈ gWS ∧ Cond.initialized yL_share.cls ∈ gWS ∧ Cond.codeWith yL_share cL_share 5 (some .int) [(0, 10, 13, 25)] ∈ gWS := ⟨gIx 1150 (by decide +kernel) rfl, gIx 74 (by decide +kernel) rfl, gIx 1151 (by decide +kernel) rfl⟩
theorem mw_L_stateByDocket : Cond.static yL_stateByDocket ∈ gWS ∧ Cond.initialized yL_stateByDocket.cls ∈ gWS ∧ Cond.codeWith yL_stateByDocket cL_stateByDocket 4 (some .int) [(0, 9, 12, 25)] ∈ gWS := ⟨gIx 1183 (by decide +kernel) rfl, gIx 74 (by decide +kernel) rfl, gIx 1184 (by decide +kernel) rfl⟩
theorem mw_L_stateOf : Cond.static yL_stateOf ∈ gWS ∧ Cond.initialized yL_stateOf.cls ∈ gWS ∧ Cond.codeWith yL_stateOf cL_stateOf 4 (some .int) [(0, 9, 12, 25)] ∈ gWS := ⟨gIx 1176 (by decide +kernel) rfl, gIx 74 (by decide +kernel) rfl, gIx 1177 (by decide +kernel) rfl⟩
theorem mw_L_stay : Cond.static yL_stay ∈ gWS ∧ Cond.initialized yL_stay.cls ∈ gWS ∧ Cond.codeWith yL_stay cL_stay 5 (some .int) [(0, 10, 13, 25), (0, 10, 17, 15)] ∈ gWS := ⟨gIx 879 (by decide +kernel) rfl, gIx 74 (by decide +kernel) rfl, gIx 880 (by decide +kernel) rfl⟩
theorem mw_L_strike : Cond.static yL_strike ∈ gWS ∧ Cond.initialized yL_strike.cls ∈ gWS ∧ Cond.codeWith yL_strike cL_strike 6 (some .int) [(0, 12, 15, 25), (0, 12, 19, 15)] ∈ gWS := ⟨gIx 970 (by decide +kernel) rfl, gIx 74 (by decide +kernel) rfl, gIx 971 (by decide +kernel) rfl⟩
theorem mw_L_sustain : Cond.static yL_sustain ∈ gWS ∧ Cond.initialized yL_sustain.cls ∈ gWS ∧ Cond.codeWith yL_sustain cL_sustain 5 (some .int) [(0, 7, 10, 25), (0, 7, 14, 15)] ∈ gWS := ⟨gIx 1070 (by decide +kernel) rfl, gIx 74 (by decide +kernel) rfl, gIx 1071 (by decide +kernel) rfl⟩
theorem mw_L_vacate : Cond.static yL_vacate ∈ gWS ∧ Cond.initialized yL_vacate.cls ∈ gWS ∧ Cond.codeWith yL_vacate cL_vacate 4 (some .int) [(0, 9, 12, 25), (0, 9, 15, 15)] ∈ gWS := ⟨gIx 811 (by decide +kernel) rfl, gIx 74 (by decide +kernel) rfl, gIx 812 (by decide +kernel) rfl⟩
theorem mw_X8_entries : Cond.instanceMethod yX8_entries ∈ gWS ∧ Cond.selects RX8 yX8_entries yX8_entries ∈ gWS ∧ Cond.initialized RX8 ∈ gWS ∧ Cond.code yX8_entries cX8_entries 1 (some .int) ∈ gWS := ⟨gIx 413 (by decide +kernel) rfl, gIx 414 (by decide +kernel) rfl, gIx 75 (by decide +kernel) rfl, gIx 415 (by decide +kernel) rfl⟩
theorem mw_X8_today : Cond.instanceMethod yX8_today ∈ gWS ∧ Cond.selects RX8 yX8_today yX8_today ∈ gWS ∧ Cond.initialized RX8 ∈ gWS ∧ Cond.code yX8_today cX8_today 1 (some .int) ∈ gWS := ⟨gIx 409 (by decide +kernel) rfl, gIx 410 (by decide +kernel) rfl, gIx 75 (by decide +kernel) rfl, gIx 411 (by decide +kernel) rfl⟩
theorem mw_X9_amountOf : Cond.instanceMethod yX9_amountOf ∈ gWS ∧ Cond.selects RX9 yX9_amountOf yX9_amountOf ∈ gWS ∧ Cond.initialized RX9 ∈ gWS ∧ Cond.code yX9_amountOf cX9_amountOf 2 (some .int) ∈ gWS := ⟨gIx 1762 (by decide +kernel) rfl, gIx 1763 (by decide +kernel) rfl, gIx 84 (by decide +kernel) rfl, gIx 1764 (by decide +kernel) rfl⟩
theorem mw_X9_answer : Cond.instanceMethod yX9_answer ∈ gWS ∧ Cond.selects RX9 yX9_answer yX9_answer ∈ gWS ∧ Cond.initialized RX9 ∈ gWS ∧ Cond.code yX9_answer cX9_answer 3 (some .int) ∈ gWS := ⟨gIx 1500 (by decide +kernel) rfl, gIx 1501 (by decide +kernel) rfl, gIx 84 (by decide +kernel) rfl, gIx 1502 (by decide +kernel) rfl⟩
theorem mw_X9_appeal : Cond.instanceMethod yX9_appeal ∈ gWS ∧ Cond.selects RX9 yX9_appeal yX9_appeal ∈ gWS ∧ Cond.initialized RX9 ∈ gWS ∧ Cond.code yX9_appeal cX9_appeal 7 (some .int) ∈ gWS := ⟨gIx 1592 (by decide +kernel) rfl, gIx 1593 (by decide +kernel) rfl, gIx 84 (by decide +kernel) rfl, gIx 1594 (by decide +kernel) rfl⟩
theorem mw_X9_balance : Cond.instanceMethod yX9_balance ∈ gWS ∧ Cond.selects RX9 yX9_balance yX9_balance ∈ gWS ∧ Cond.initialized RX9 ∈ gWS ∧ Cond.code yX9_balance cX9_balance 2 (some .int) ∈ gWS := ⟨gIx 1766 (by decide +kernel) rfl, gIx 1767 (by decide +kernel) rfl, gIx 84 (by decide +kernel) rfl, gIx 1768 (by decide +kernel) rfl⟩
theorem mw_X9_caseOf : Cond.instanceMethod yX9_caseOf ∈ gWS ∧ Cond.selects RX9 yX9_caseOf yX9_caseOf ∈ gWS ∧ Cond.initialized RX9 ∈ gWS ∧ Cond.code yX9_caseOf cX9_caseOf 2 (some .int) ∈ gWS := ⟨gIx 1770 (by decide +kernel) rfl, gIx 1771 (by decide +kernel) rfl, gIx 84 (by decide +kernel) rfl, gIx 1772 (by decide +kernel) rfl⟩
theorem mw_X9_certify : Cond.instanceMethod yX9_certify ∈ gWS ∧ Cond.selects RX9 yX9_certify yX9_certify ∈ gWS ∧ Cond.initialized RX9 ∈ gWS ∧ Cond.code yX9_certify cX9_certify 3 none ∈ gWS := ⟨gIx 1721 (by decide +kernel) rfl, gIx 1722 (by decide +kernel) rfl, gIx 84 (by decide +kernel) rfl, gIx 1723 (by decide +kernel) rfl⟩
theorem mw_X9_claim : Cond.instanceMethod yX9_claim ∈ gWS ∧ Cond.selects RX9 yX9_claim yX9_claim ∈ gWS ∧ Cond.initialized RX9 ∈ gWS ∧ Cond.code yX9_claim cX9_claim 7 (some .int) ∈ gWS := ⟨gIx 1471 (by decide +kernel) rfl, gIx 1472 (by decide +kernel) rfl, gIx 84 (by decide +kernel) rfl, gIx 1473 (by decide +kernel) rfl⟩
theorem mw_X9_continueHearing : Cond.instanceMethod yX9_continueHearing ∈ gWS ∧ Cond.selects RX9 yX9_continueHearing yX9_continueHearing ∈ gWS ∧ Cond.initialized RX9 ∈ gWS ∧ Cond.code yX9_continueHearing cX9_continueHearing 6 (some .int) ∈ gWS := ⟨gIx 1665 (by decide +kernel) rfl, gIx 1666 (by decide +kernel) rfl, gIx 84 (by decide +kernel) rfl, gIx 1667 (by decide +kernel) rfl⟩
theorem mw_X9_counts : Cond.instanceMethod yX9_counts ∈ gWS ∧ Cond.selects RX9 yX9_counts yX9_counts ∈ gWS ∧ Cond.initialized RX9 ∈ gWS ∧ Cond.code yX9_counts cX9_counts 2 (some .boolean) ∈ gWS := ⟨gIx 1749 (by decide +kernel) rfl, gIx 1750 (by decide +kernel) rfl, gIx 84 (by decide +kernel) rfl, gIx 1751 (by decide +kernel) rfl⟩
theorem mw_X9_cure : Cond.instanceMethod yX9_cure ∈ gWS ∧ Cond.selects RX9 yX9_cure yX9_cure ∈ gWS ∧ Cond.initialized RX9 ∈ gWS ∧ Cond.code yX9_cure cX9_cure 3 (some .boolean) ∈ gWS := ⟨gIx 1633 (by decide +kernel) rfl, gIx 1634 (by decide +kernel) rfl, gIx 84 (by decide +kernel) rfl, gIx 1635 (by decide +kernel) rfl⟩
theorem mw_X9_decide : Cond.instanceMethod yX9_decide ∈ gWS ∧ Cond.selects RX9 yX9_decide yX9_decide ∈ gWS ∧ Cond.initialized RX9 ∈ gWS ∧ Cond.code yX9_decide cX9_decide 9 (some .int) ∈ gWS := ⟨gIx 1608 (by decide +kernel) rfl, gIx 1609 (by decide +kernel) rfl, gIx 84 (by decide +kernel) rfl, gIx 1610 (by decide +kernel) rfl⟩
theorem mw_X9_defect : Cond.instanceMethod yX9_defect ∈ gWS ∧ Cond.selects RX9 yX9_defect yX9_defect ∈ gWS ∧ Cond.initialized RX9 ∈ gWS ∧ Cond.code yX9_defect cX9_defect 3 (some .int) ∈ gWS := ⟨gIx 1629 (by decide +kernel) rfl, gIx 1630 (by decide +kernel) rfl, gIx 84 (by decide +kernel) rfl, gIx 1631 (by decide +kernel) rfl⟩
theorem mw_X9_dismiss : Cond.instanceMethod yX9_dismiss ∈ gWS ∧ Cond.selects RX9 yX9_dismiss yX9_dismiss ∈ gWS ∧ Cond.initialized RX9 ∈ gWS ∧ Cond.code yX9_dismiss cX9_dismiss 6 (some .int) ∈ gWS := ⟨gIx 1677 (by decide +kernel) rfl, gIx 1678 (by decide +kernel) rfl, gIx 84 (by decide +kernel) rfl, gIx 1679 (by decide +kernel) rfl⟩
theorem mw_X9_dueByDays : Cond.instanceMethod yX9_dueByDays ∈ gWS ∧ Cond.selects RX9 yX9_dueByDays yX9_dueByDays ∈ gWS ∧ Cond.initialized RX9 ∈ gWS ∧ Cond.code yX9_dueByDays cX9_dueByDays 3 (some .int) ∈ gWS := ⟨gIx 1782 (by decide +kernel) rfl, gIx 1783 (by decide +kernel) rfl, gIx 84 (by decide +kernel) rfl, gIx 1784 (by decide +kernel) rfl⟩
theorem mw_X9_entries : Cond.instanceMethod yX9_entries ∈ gWS ∧ Cond.selects RX9 yX9_entries yX9_entries ∈ gWS ∧ Cond.initialized RX9 ∈ gWS ∧ Cond.code yX9_entries cX9_entries 1 (some .int) ∈ gWS := ⟨gIx 1741 (by decide +kernel) rfl, gIx 1742 (by decide +kernel) rfl, gIx 84 (by decide +kernel) rfl, gIx 1743 (by decide +kernel) rfl⟩
theorem mw_X9_entryAt : Cond.instanceMethod yX9_entryAt ∈ gWS ∧ Cond.selects RX9 yX9_entryAt yX9_entryAt ∈ gWS ∧ Cond.initialized RX9 ∈ gWS ∧ Cond.code yX9_entryAt cX9_entryAt 3 (some .int) ∈ gWS := ⟨gIx 1745 (by decide +kernel) rfl, gIx 1746 (by decide +kernel) rfl, gIx 84 (by decide +kernel) rfl, gIx 1747 (by decide +kernel) rfl⟩
theorem mw_X9_exhibit : Cond.instanceMethod yX9_exhibit ∈ gWS ∧ Cond.selects RX9 yX9_exhibit yX9_exhibit ∈ gWS ∧ Cond.initialized RX9 ∈ gWS ∧ Cond.code yX9_exhibit cX9_exhibit 3 (some .int) ∈ gWS := ⟨gIx 1689 (by decide +kernel) rfl, gIx 1690 (by decide +kernel) rfl, gIx 84 (by decide +kernel) rfl, gIx 1691 (by decide +kernel) rfl⟩
theorem mw_X9_extend : Cond.instanceMethod yX9_extend ∈ gWS ∧ Cond.selects RX9 yX9_extend yX9_extend ∈ gWS ∧ Cond.initialized RX9 ∈ gWS ∧ Cond.code yX9_extend cX9_extend 7 (some .int) ∈ gWS := ⟨gIx 1637 (by decide +kernel) rfl, gIx 1638 (by decide +kernel) rfl, gIx 84 (by decide +kernel) rfl, gIx 1639 (by decide +kernel) rfl⟩
theorem mw_X9_hand : Cond.instanceMethod yX9_hand ∈ gWS ∧ Cond.selects RX9 yX9_hand yX9_hand ∈ gWS ∧ Cond.initialized RX9 ∈ gWS ∧ Cond.code yX9_hand cX9_hand 4 (some .boolean) ∈ gWS := ⟨gIx 1693 (by decide +kernel) rfl, gIx 1694 (by decide +kernel) rfl, gIx 84 (by decide +kernel) rfl, gIx 1695 (by decide +kernel) rfl⟩
theorem mw_X9_hearing : Cond.instanceMethod yX9_hearing ∈ gWS ∧ Cond.selects RX9 yX9_hearing yX9_hearing ∈ gWS ∧ Cond.initialized RX9 ∈ gWS ∧ Cond.code yX9_hearing cX9_hearing 6 (some .int) ∈ gWS := ⟨gIx 1649 (by decide +kernel) rfl, gIx 1650 (by decide +kernel) rfl, gIx 84 (by decide +kernel) rfl, gIx 1651 (by decide +kernel) rfl⟩
theorem mw_X9_hearingAt : Cond.instanceMethod yX9_hearingAt ∈ gWS ∧ Cond.selects RX9 yX9_hearingAt yX9_hearingAt ∈ gWS ∧ Cond.initialized RX9 ∈ gWS ∧ Cond.code yX9_hearingAt cX9_hearingAt 2 (some .int) ∈ gWS := ⟨gIx 1669 (by decide +kernel) rfl, gIx 1670 (by decide +kernel) rfl, gIx 84 (by decide +kernel) rfl, gIx 1671 (by decide +kernel) rfl⟩
theorem mw_X9_holiday : Cond.instanceMethod yX9_holiday ∈ gWS ∧ Cond.selects RX9 yX9_holiday yX9_holiday ∈ gWS ∧ Cond.initialized RX9 ∈ gWS ∧ Cond.code yX9_holiday cX9_holiday 4 (some .boolean) ∈ gWS := ⟨gIx 1428 (by decide +kernel) rfl, gIx 1429 (by decide +kernel) rfl, gIx 84 (by decide +kernel) rfl, gIx 1430 (by decide +kernel) rfl⟩
theorem mw_X9_isAdmitted : Cond.instanceMethod yX9_isAdmitted ∈ gWS ∧ Cond.selects RX9 yX9_isAdmitted yX9_isAdmitted ∈ gWS ∧ Cond.initialized RX9 ∈ gWS ∧ Cond.code yX9_isAdmitted cX9_isAdmitted 4 (some .boolean) ∈ gWS := ⟨gIx 1709 (by decide +kernel) rfl, gIx 1710 (by decide +kernel) rfl, gIx 84 (by decide +kernel) rfl, gIx 1711 (by decide +kernel) rfl⟩
theorem mw_X9_isAnswered : Cond.instanceMethod yX9_isAnswered ∈ gWS ∧ Cond.selects RX9 yX9_isAnswered yX9_isAnswered ∈ gWS ∧ Cond.initialized RX9 ∈ gWS ∧ Cond.code yX9_isAnswered cX9_isAnswered 2 (some .boolean) ∈ gWS := ⟨gIx 1774 (by decide +kernel) rfl, gIx 1775 (by decide +kernel) rfl, gIx 84 (by decide +kernel) rfl, gIx 1776 (by decide +kernel) rfl⟩
theorem mw_X9_join : Cond.instanceMethod yX9_join ∈ gWS ∧ Cond.selects RX9 yX9_join yX9_join ∈ gWS ∧ Cond.initialized RX9 ∈ gWS ∧ Cond.code yX9_join cX9_join 7 (some .int) ∈ gWS := ⟨gIx 1448 (by decide +kernel) rfl, gIx 1449 (by decide +kernel) rfl, gIx 84 (by decide +kernel) rfl, gIx 1450 (by decide +kernel) rfl⟩
theorem mw_X9_judge : Cond.instanceMethod yX9_judge ∈ gWS ∧ Cond.selects RX9 yX9_judge yX9_judge ∈ gWS ∧ Cond.initialized RX9 ∈ gWS ∧ Cond.code yX9_judge cX9_judge 9 (some .int) ∈ gWS := ⟨gIx 1580 (by decide +kernel) rfl, gIx 1581 (by decide +kernel) rfl, gIx 84 (by decide +kernel) rfl, gIx 1582 (by decide +kernel) rfl⟩
theorem mw_X9_lead : Cond.instanceMethod yX9_lead ∈ gWS ∧ Cond.selects RX9 yX9_lead yX9_lead ∈ gWS ∧ Cond.initialized RX9 ∈ gWS ∧ Cond.code yX9_lead cX9_lead 6 (some .int) ∈ gWS := ⟨gIx 1463 (by decide +kernel) rfl, gIx 1464 (by decide +kernel) rfl, gIx 84 (by decide +kernel) rfl, gIx 1465 (by decide +kernel) rfl⟩
theorem mw_X9_maySee : Cond.instanceMethod yX9_maySee ∈ gWS ∧ Cond.selects RX9 yX9_maySee yX9_maySee ∈ gWS ∧ Cond.initialized RX9 ∈ gWS ∧ Cond.code yX9_maySee cX9_maySee 6 (some .boolean) ∈ gWS := ⟨gIx 1717 (by decide +kernel) rfl, gIx 1718 (by decide +kernel) rfl, gIx 84 (by decide +kernel) rfl, gIx 1719 (by decide +kernel) rfl⟩
theorem mw_X9_member : Cond.instanceMethod yX9_member ∈ gWS ∧ Cond.selects RX9 yX9_member yX9_member ∈ gWS ∧ Cond.initialized RX9 ∈ gWS ∧ Cond.code yX9_member cX9_member 6 (some .int) ∈ gWS := ⟨gIx 1725 (by decide +kernel) rfl, gIx 1726 (by decide +kernel) rfl, gIx 84 (by decide +kernel) rfl, gIx 1727 (by decide +kernel) rfl⟩
theorem mw_X9_motion : Cond.instanceMethod yX9_motion ∈ gWS ∧ Cond.selects RX9 yX9_motion yX9_motion ∈ gWS ∧ Cond.initialized RX9 ∈ gWS ∧ Cond.code yX9_motion cX9_motion 3 (some .int) ∈ gWS := ⟨gIx 1552 (by decide +kernel) rfl, gIx 1553 (by decide +kernel) rfl, gIx 84 (by decide +kernel) rfl, gIx 1554 (by decide +kernel) rfl⟩
theorem mw_X9_object : Cond.instanceMethod yX9_object ∈ gWS ∧ Cond.selects RX9 yX9_object yX9_object ∈ gWS ∧ Cond.initialized RX9 ∈ gWS ∧ Cond.code yX9_object cX9_object 4 none ∈ gWS := ⟨gIx 1701 (by decide +kernel) rfl, gIx 1702 (by decide +kernel) rfl, gIx 84 (by decide +kernel) rfl, gIx 1703 (by decide +kernel) rfl⟩
theorem mw_X9_open : Cond.instanceMethod yX9_open ∈ gWS ∧ Cond.selects RX9 yX9_open yX9_open ∈ gWS ∧ Cond.initialized RX9 ∈ gWS ∧ Cond.code yX9_open cX9_open 2 (some .int) ∈ gWS := ⟨gIx 1440 (by decide +kernel) rfl, gIx 1441 (by decide +kernel) rfl, gIx 84 (by decide +kernel) rfl, gIx 1442 (by decide +kernel) rfl⟩
theorem mw_X9_pass : Cond.instanceMethod yX9_pass ∈ gWS ∧ Cond.selects RX9 yX9_pass yX9_pass ∈ gWS ∧ Cond.initialized RX9 ∈ gWS ∧ Cond.code yX9_pass cX9_pass 2 (some .int) ∈ gWS := ⟨gIx 1417 (by decide +kernel) rfl, gIx 1418 (by decide +kernel) rfl, gIx 84 (by decide +kernel) rfl, gIx 1419 (by decide +kernel) rfl⟩
theorem mw_X9_pay : Cond.instanceMethod yX9_pay ∈ gWS ∧ Cond.selects RX9 yX9_pay yX9_pay ∈ gWS ∧ Cond.initialized RX9 ∈ gWS ∧ Cond.code yX9_pay cX9_pay 5 (some .int) ∈ gWS := ⟨gIx 1616 (by decide +kernel) rfl, gIx 1617 (by decide +kernel) rfl, gIx 84 (by decide +kernel) rfl, gIx 1618 (by decide +kernel) rfl⟩
theorem mw_X9_respond : Cond.instanceMethod yX9_respond ∈ gWS ∧ Cond.selects RX9 yX9_respond yX9_respond ∈ gWS ∧ Cond.initialized RX9 ∈ gWS ∧ Cond.code yX9_respond cX9_respond 4 (some .int) ∈ gWS := ⟨gIx 1556 (by decide +kernel) rfl, gIx 1557 (by decide +kernel) rfl, gIx 84 (by decide +kernel) rfl, gIx 1558 (by decide +kernel) rfl⟩
theorem mw_X9_ruling : Cond.instanceMethod yX9_ruling ∈ gWS ∧ Cond.selects RX9 yX9_ruling yX9_ruling ∈ gWS ∧ Cond.initialized RX9 ∈ gWS ∧ Cond.code yX9_ruling cX9_ruling 8 (some .int) ∈ gWS := ⟨gIx 1576 (by decide +kernel) rfl, gIx 1577 (by decide +kernel) rfl, gIx 84 (by decide +kernel) rfl, gIx 1578 (by decide +kernel) rfl⟩
theorem mw_X9_seal : Cond.instanceMethod yX9_seal ∈ gWS ∧ Cond.selects RX9 yX9_seal yX9_seal ∈ gWS ∧ Cond.initialized RX9 ∈ gWS ∧ Cond.code yX9_seal cX9_seal 5 (some .boolean) ∈ gWS := ⟨gIx 1713 (by decide +kernel) rfl, gIx 1714 (by decide +kernel) rfl, gIx 84 (by decide +kernel) rfl, gIx 1715 (by decide +kernel) rfl⟩
theorem mw_X9_seat : Cond.instanceMethod yX9_seat ∈ gWS ∧ Cond.selects RX9 yX9_seat yX9_seat ∈ gWS ∧ Cond.initialized RX9 ∈ gWS ∧ Cond.code yX9_seat cX9_seat 4 (some .int) ∈ gWS := ⟨gIx 1685 (by decide +kernel) rfl, gIx 1686 (by decide +kernel) rfl, gIx 84 (by decide +kernel) rfl, gIx 1687 (by decide +kernel) rfl⟩
theorem mw_X9_serve : Cond.instanceMethod yX9_serve ∈ gWS ∧ Cond.selects RX9 yX9_serve yX9_serve ∈ gWS ∧ Cond.initialized RX9 ∈ gWS ∧ Cond.code yX9_serve cX9_serve 5 (some .int) ∈ gWS := ⟨gIx 1484 (by decide +kernel) rfl, gIx 1485 (by decide +kernel) rfl, gIx 84 (by decide +kernel) rfl, gIx 1486 (by decide +kernel) rfl⟩
theorem mw_X9_setRule : Cond.instanceMethod yX9_setRule ∈ gWS ∧ Cond.selects RX9 yX9_setRule yX9_setRule ∈ gWS ∧ Cond.initialized RX9 ∈ gWS ∧ Cond.code yX9_setRule cX9_setRule 5 (some .int) ∈ gWS := ⟨gIx 1436 (by decide +kernel) rfl, gIx 1437 (by decide +kernel) rfl, gIx 84 (by decide +kernel) rfl, gIx 1438 (by decide +kernel) rfl⟩
theorem mw_X9_settle : Cond.instanceMethod yX9_settle ∈ gWS ∧ Cond.selects RX9 yX9_settle yX9_settle ∈ gWS ∧ Cond.initialized RX9 ∈ gWS ∧ Cond.code yX9_settle cX9_settle 5 (some .int) ∈ gWS := ⟨gIx 1612 (by decide +kernel) rfl, gIx 1613 (by decide +kernel) rfl, gIx 84 (by decide +kernel) rfl, gIx 1614 (by decide +kernel) rfl⟩
theorem mw_X9_sever : Cond.instanceMethod yX9_sever ∈ gWS ∧ Cond.selects RX9 yX9_sever yX9_sever ∈ gWS ∧ Cond.initialized RX9 ∈ gWS ∧ Cond.code yX9_sever cX9_sever 7 (some .int) ∈ gWS := ⟨gIx 1476 (by decide +kernel) rfl, gIx 1477 (by decide +kernel) rfl, gIx 84 (by decide +kernel) rfl, gIx 1478 (by decide +kernel) rfl⟩
theorem mw_X9_share : Cond.instanceMethod yX9_share ∈ gWS ∧ Cond.selects RX9 yX9_share yX9_share ∈ gWS ∧ Cond.initialized RX9 ∈ gWS ∧ Cond.code yX9_share cX9_share 4 (some .int) ∈ gWS := ⟨gIx 1733 (by decide +kernel) rfl, gIx 1734 (by decide +kernel) rfl, gIx 84 (by decide +kernel) rfl, gIx 1735 (by decide +kernel) rfl⟩
theorem mw_X9_stateByDocket : Cond.instanceMethod yX9_stateByDocket ∈ gWS ∧ Cond.selects RX9 yX9_stateByDocket yX9_stateByDocket ∈ gWS ∧ Cond.initialized RX9 ∈ gWS ∧ Cond.code yX9_stateByDocket cX9_stateByDocket 2 (some .int) ∈ gWS := ⟨gIx 1757 (by decide +kernel) rfl, gIx 1758 (by decide +kernel) rfl, gIx 84 (by decide +kernel) rfl, gIx 1759 (by decide +kernel) rfl⟩
theorem mw_X9_stay : Cond.instanceMethod yX9_stay ∈ gWS ∧ Cond.selects RX9 yX9_stay yX9_stay ∈ gWS ∧ Cond.initialized RX9 ∈ gWS ∧ Cond.code yX9_stay cX9_stay 5 (some .int) ∈ gWS := ⟨gIx 1625 (by decide +kernel) rfl, gIx 1626 (by decide +kernel) rfl, gIx 84 (by decide +kernel) rfl, gIx 1627 (by decide +kernel) rfl⟩
theorem mw_X9_strike : Cond.instanceMethod yX9_strike ∈ gWS ∧ Cond.selects RX9 yX9_strike yX9_strike ∈ gWS ∧ Cond.initialized RX9 ∈ gWS ∧ Cond.code yX9_strike cX9_strike 7 (some .int) ∈ gWS := ⟨gIx 1673 (by decide +kernel) rfl, gIx 1674 (by decide +kernel) rfl, gIx 84 (by decide +kernel) rfl, gIx 1675 (by decide +kernel) rfl⟩
theorem mw_X9_sustain : Cond.instanceMethod yX9_sustain ∈ gWS ∧ Cond.selects RX9 yX9_sustain yX9_sustain ∈ gWS ∧ Cond.initialized RX9 ∈ gWS ∧ Cond.code yX9_sustain cX9_sustain 5 none ∈ gWS := ⟨gIx 1705 (by decide +kernel) rfl, gIx 1706 (by decide +kernel) rfl, gIx 84 (by decide +kernel) rfl, gIx 1707 (by decide +kernel) rfl⟩
theorem mw_X9_thrown : Cond.instanceMethod yX9_thrown ∈ gWS ∧ Cond.selects RX9 yX9_thrown yX9_thrown ∈ gWS ∧ Cond.initialized RX9 ∈ gWS ∧ Cond.code yX9_thrown cX9_thrown 1 (some .int) ∈ gWS := ⟨gIx 1413 (by decide +kernel) rfl, gIx 1414 (by decide +kernel) rfl, gIx 84 (by decide +kernel) rfl, gIx 1415 (by decide +kernel) rfl⟩
theorem mw_X9_today : Cond.instanceMethod yX9_today ∈ gWS ∧ Cond.selects RX9 yX9_today yX9_today ∈ gWS ∧ Cond.initialized RX9 ∈ gWS ∧ Cond.code yX9_today cX9_today 1 (some .int) ∈ gWS := ⟨gIx 1737 (by decide +kernel) rfl, gIx 1738 (by decide +kernel) rfl, gIx 84 (by decide +kernel) rfl, gIx 1739 (by decide +kernel) rfl⟩
theorem mw_X9_vacate : Cond.instanceMethod yX9_vacate ∈ gWS ∧ Cond.selects RX9 yX9_vacate yX9_vacate ∈ gWS ∧ Cond.initialized RX9 ∈ gWS ∧ Cond.code yX9_vacate cX9_vacate 6 (some .int) ∈ gWS := ⟨gIx 1584 (by decide +kernel) rfl, gIx 1585 (by decide +kernel) rfl, gIx 84 (by decide +kernel) rfl, gIx 1586 (by decide +kernel) rfl⟩
