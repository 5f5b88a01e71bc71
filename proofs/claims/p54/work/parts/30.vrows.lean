/-- a long result: 0 stuck, 1 returned; the number; the memory behind it -/
abbrev gQ : Type := Nat × Int64 × gM
def qStuck : gQ := (0, 0, fun _ _ => 0)
def qRet (v : Int64) (M : gM) : gQ := (1, v, M)
def qb (r : gQ) (K : Int64 → gM → gR) : gR := if r.1 = 1 then K r.2.1 r.2.2 else rStuck
theorem qb_ret (v : Int64) (M : gM) (K : Int64 → gM → gR) : qb (qRet v M) K = K v M := rfl
theorem qb_ne {r : gQ} {K : Int64 → gM → gR} (h : (qb r K).1 ≠ 0) : r.1 ≠ 0 := fun e => h (by simp [qb, e, rStuck])
/-- a call that throws nothing, or stuck -/
def rbN (r : gR) (K : Int32 → gM → gR) : gR := if r.1 = 1 then K r.2.1 r.2.2 else rStuck
theorem rbN_ret (v : Int32) (M : gM) (K : Int32 → gM → gR) : rbN (rRet v M) K = K v M := rfl
theorem rbN_1 {r : gR} {K : Int32 → gM → gR} (h : (rbN r K).1 ≠ 0) : r.1 = 1 := by
  by_cases c : r.1 = 1
  · exact c
  · exact absurd (by unfold rbN; rw [if_neg c]; rfl) h
theorem rbN_ne {r : gR} {K : Int32 → gM → gR} (h : (rbN r K).1 ≠ 0) : r.1 ≠ 0 := by
  rw [rbN_1 h]
  decide
theorem rbN_thr {r : gR} {K : Int32 → gM → gR} (h : (rbN r K).1 ≠ 0) (ex : Nat) (M1 : gM) : r ≠ rThr ex M1 := by
  intro q
  have h1 := rbN_1 h
  rw [q] at h1
  have h2 : ex + 2 = 1 := h1
  omega
def bW (x : Int64) (f : Int64 → gR) : gR := f x
def gNzL (y : Int64) (F : gR) : gR := if y = 0 then rStuck else F
def gOne (v : Int32) (F : gR) : gR := if v = 1 then F else rStuck
/-- what a class's call comes to where its throws are caught -/
def rq (r : gR) (K : Int32 → gM → gQ) (X : Nat → gM → gQ) : gQ := if r.1 = 0 then qStuck else if r.1 = 1 then K r.2.1 r.2.2 else X (r.1 - 2) r.2.2
theorem rq_ret (v : Int32) (M : gM) (K : Int32 → gM → gQ) (X : Nat → gM → gQ) : rq (rRet v M) K X = K v M := rfl
theorem rq_thr (k : Nat) (M : gM) (K : Int32 → gM → gQ) (X : Nat → gM → gQ) : rq (rThr k M) K X = X k M := by
  have h : ¬ (k + 2 = 1) := by omega
  simp [rq, rThr]
theorem rq_ne {r : gR} {K : Int32 → gM → gQ} {X : Nat → gM → gQ} (h : (rq r K X).1 ≠ 0) : r.1 ≠ 0 := fun e => h (by simp [rq, e, qStuck])
/-- the heap's cells of E, the ghosts of r -/
def gh (E : gM) (r : gR) : gM := fun a => if gOk a then E a else r.2.2 a
theorem gRow_gok : gIds.all (fun k => (gT.getD k (9, 0, 0, 0)).1 != 5 || decide (gOk (gT.getD k (9, 0, 0, 0)).2.2.1)) = true := by decide +kernel
theorem gFv_congr {Z : gZ} {M M1 : gM} {k : Nat} (h : M1 k = M k) : ∀ (l : List Nat) (f : Nat), gFv Z M1 k f l = gFv Z M k f l
  | [], _ => rfl
  | c :: r, f => by
    unfold gFv
    rw [h, gFv_congr h r (f + 1)]
theorem gE_congr {Z : gZ} {M M1 : gM} (h : ∀ a, gOk a → M1 a = M a) {k : Nat} (hk : gOk k) : gE Z M1 k = gE Z M k := by
  unfold gE
  split
  · rw [gFv_congr (h k hk)]
  · rw [h k hk]
  · rw [h k hk]
  · rfl
  · rw [h k hk]
  · rename_i w g i e
    have hg := List.all_eq_true.mp gRow_gok k (gOk_in hk)
    rw [e] at hg
    have hg2 : gOk g := of_decide_eq_true (by simpa using hg)
    rw [h g hg2]
  · rfl
theorem gL_congr {Z : gZ} {M M1 : gM} (h : ∀ a, gOk a → M1 a = M a) : gL Z M1 = gL Z M := by
  unfold gL
  refine List.map_congr_left (fun k hk => ?_)
  have hk2 : gOk k := by
    obtain ⟨i, hi, e⟩ := List.mem_iff_getElem.mp hk
    have h3 := (gIds_ok i (show i < 101 from hi)).1
    have e2 : gIds.getD i 0 = k := by
      rw [List.getD_eq_getElem?_getD, List.getElem?_eq_getElem hi, e]
      rfl
    rw [e2] at h3
    exact h3
  rw [gE_congr h hk2]
theorem gL_gh {Z : gZ} (E : gM) (r : gR) : gL Z (gh E r) = gL Z E := gL_congr (fun a ha => if_pos ha)
/-- the three exceptions are no kin of one another -/
def gNc (U : State) : Prop := ∀ i j : Nat, i < 3 → j < 3 → i ≠ j → va_Nc (gEx i) (gEx j) U
theorem gNc_moved {u U : State} (h : u.vm.Alike U.vm) (hn : gNc u) : gNc U := fun i j hi hj hij => va_Nc.moved h (hn i j hi hj hij)
def gWdL (Z : gZ) (M : gM) (t : State) : Prop := gWd Z M t ∧ gNc t
/-- a wrapper of the law's: it throws nothing, answers a long -/
def gMetW (l : Launch) (y : MethodName) (cc : ByteArray) (maxL : Nat) (hh : List (Nat × Nat × Nat × Nat)) (rm : Room) (mc : Nat) (Z : gZ) (M : gM) (As : List Value) (F : gQ) : Prop :=
  F.1 ≠ 0 → vx_Met l y (.codeWith y cc maxL (some .long) hh :: gWS) rm (va_Pc As (gWdL Z M)) (va_Ql (fun (r : Int64) (M1 : gM) => F = qRet r M1) (gB Z) (zA Z)) (fun _ _ _ => False) mc (6 * mc) (zA Z)
/-- a truth-valued method of the law's -/
def gMetB (l : Launch) (y : MethodName) (cc : ByteArray) (maxL : Nat) (rm : Room) (mc : Nat) (Z : gZ) (M : gM) (As : List Value) (F : gR) : Prop :=
  F.1 ≠ 0 → vx_Met l y (.code y cc maxL (some .boolean) :: gWS) rm (va_Pc As (gWdL Z M)) (gQc 1 Z F) (gXc Z F) mc (6 * mc) (zA Z)
def gD (p : Program) (s : State) (m : MethodId) (args : Array Value) (c : Code) (cc : ByteArray) (nL : Nat) (own : String) (Z : gZ) : Prop :=
  p.tables.exec = Jvm.exec ∧ c.code = cc ∧ c.maxLocals = nL ∧ s.vm.findClass own = some m.cls ∧ (∀ w ∈ gWS, w.before args s = true) ∧ va_K (zD Z) vwCl (gTys Z) s ∧ gG Z s
def gV (p : Program) (l : Launch) (e : Env) (R : Room) (s : State) (m : MethodId) (args : Array Value) (below : List Frame) (meth : Method) (c : Code) (nL : Nat) (Z : gZ) (Q : State → Prop) (k : Nat) (M : gM) (pc : Nat) (lv : List (Nat × Value)) (st : List Value) : Prop :=
  ∀ (H : Heap) (locs : List Loc) (ls : Array Slot), va_P (zD Z) vwCl (gL Z M) H → va_D (zA Z) (gL Z M) → va_S (zA Z) s.heap H locs → lv_has ls nL lv → W p l e R s m args below meth c H locs k (6 * k) Q (F0 m pc ls st)
section GV
variable {p : Program} {l : Launch} {e : Env} {R : Room} {s : State} {m : MethodId} {args : Array Value} {below : List Frame} {meth : Method} {c : Code} {nL : Nat} {Z : gZ} {Q : State → Prop} {k : Nat} {M : gM} {pc : Nat} {lv : List (Nat × Value)} {st : List Value} {cc : ByteArray} {own : String}

theorem v_lconst (hC : gD p s m args c cc nL own Z) {n : Fin 2} {v : Int64} (d : decode cc pc = .ok (.lconst n, 1)) (hv : Int64.ofNat (n : Nat) = v) (kk : gV p l e R s m args below meth c nL Z Q k M (pc + 1) lv (.long v :: st)) : gV p l e R s m args below meth c nL Z Q k M pc lv st := fun H locs ls hP hD hS hl0 => lv_lconst hC.1 hC.2.1 d hv (kk H locs ls hP hD hS hl0)
theorem v_ldc2 (hC : gD p s m args c cc nL own Z) {n : Nat} {v : Int64} (hc : Cond.constantLong own n v ∈ gWS) (d : decode cc pc = .ok (.ldc2_w n, 3)) (kk : gV p l e R s m args below meth c nL Z Q k M (pc + 3) lv (.long v :: st)) : gV p l e R s m args below meth c nL Z Q k M pc lv st := fun H locs ls hP hD hS hl0 => lv_ldc2 hC.1 hC.2.1 hC.2.2.2.1 (hC.2.2.2.2.1 _ hc) d (kk H locs ls hP hD hS hl0)
theorem v_iload_n (hC : gD p s m args c cc nL own Z) {i : Fin 4} {i1 : Nat} (j : Nat) {x : Int32} (d : decode cc pc = .ok (.iload_n i, 1)) (hi : (i : Nat) = i1) (hl : lv[j]? = some (i1, .int x)) (kk : gV p l e R s m args below meth c nL Z Q k M (pc + 1) lv (.int x :: st)) : gV p l e R s m args below meth c nL Z Q k M pc lv st := fun H locs ls hP hD hS hl0 => lv_iload_n hC.1 hC.2.1 d hi (lv_at hl0 j hl) (kk H locs ls hP hD hS hl0)
theorem v_iload (hC : gD p s m args c cc nL own Z) {i : Nat} (j : Nat) {x : Int32} (d : decode cc pc = .ok (.iload i, 2)) (hl : lv[j]? = some (i, .int x)) (kk : gV p l e R s m args below meth c nL Z Q k M (pc + 2) lv (.int x :: st)) : gV p l e R s m args below meth c nL Z Q k M pc lv st := fun H locs ls hP hD hS hl0 => lv_iload hC.1 hC.2.1 d (lv_at hl0 j hl) (kk H locs ls hP hD hS hl0)
theorem v_aload_n (hC : gD p s m args c cc nL own Z) {i : Fin 4} {i1 : Nat} (j : Nat) {x : Nat} (d : decode cc pc = .ok (.aload_n i, 1)) (hi : (i : Nat) = i1) (hl : lv[j]? = some (i1, .ref x)) (kk : gV p l e R s m args below meth c nL Z Q k M (pc + 1) lv (.ref x :: st)) : gV p l e R s m args below meth c nL Z Q k M pc lv st := fun H locs ls hP hD hS hl0 => lv_aload_n hC.1 hC.2.1 d hi (lv_at hl0 j hl) (kk H locs ls hP hD hS hl0)
theorem v_aload (hC : gD p s m args c cc nL own Z) {i : Nat} (j : Nat) {x : Nat} (d : decode cc pc = .ok (.aload i, 2)) (hl : lv[j]? = some (i, .ref x)) (kk : gV p l e R s m args below meth c nL Z Q k M (pc + 2) lv (.ref x :: st)) : gV p l e R s m args below meth c nL Z Q k M pc lv st := fun H locs ls hP hD hS hl0 => lv_aload hC.1 hC.2.1 d (lv_at hl0 j hl) (kk H locs ls hP hD hS hl0)
theorem v_astore (hC : gD p s m args c cc nL own Z) {i1 : Nat} {x : Nat} {lv1 : List (Nat × Value)} (d : decode cc pc = .ok (.astore i1, 2)) (hn : i1 < nL) (hl : (i1, Value.ref x) :: lv.filter (fun q => !(q.1 == i1) && !(q.1 + 1 == i1 && q.2.category == 2)) = lv1) (kk : gV p l e R s m args below meth c nL Z Q k M (pc + 2) lv1 st) : gV p l e R s m args below meth c nL Z Q k M pc lv (.ref x :: st) := fun H locs ls hP hD hS hl0 => lv_astore hC.1 hC.2.1 d hl0 hn hl (fun ls1 hl1 => kk H locs ls1 hP hD hS hl1)
theorem v_astore_n (hC : gD p s m args c cc nL own Z) {i : Fin 4} {i1 : Nat} {x : Nat} {lv1 : List (Nat × Value)} (d : decode cc pc = .ok (.astore_n i, 1)) (hi : (i : Nat) = i1) (hn : i1 < nL) (hl : (i1, Value.ref x) :: lv.filter (fun q => !(q.1 == i1) && !(q.1 + 1 == i1 && q.2.category == 2)) = lv1) (kk : gV p l e R s m args below meth c nL Z Q k M (pc + 1) lv1 st) : gV p l e R s m args below meth c nL Z Q k M pc lv (.ref x :: st) := fun H locs ls hP hD hS hl0 => lv_astore_n hC.1 hC.2.1 d hi hl0 hn hl (fun ls1 hl1 => kk H locs ls1 hP hD hS hl1)
theorem v_i2l (hC : gD p s m args c cc nL own Z) {x : Int32} (d : decode cc pc = .ok (.i2l, 1)) (kk : gV p l e R s m args below meth c nL Z Q k M (pc + 1) lv (.long x.toInt64 :: st)) : gV p l e R s m args below meth c nL Z Q k M pc lv (.int x :: st) := fun H locs ls hP hD hS hl0 => lv_i2l hC.1 hC.2.1 d rfl (kk H locs ls hP hD hS hl0)
theorem v_goto (hC : gD p s m args c cc nL own Z) {off : Int} {tgt : Nat} (d : decode cc pc = .ok (.goto off, 3)) (ht : (pc : Int) + off = (tgt : Int)) (kk : gV p l e R s m args below meth c nL Z Q k M tgt lv st) : gV p l e R s m args below meth c nL Z Q k M pc lv st := fun H locs ls hP hD hS hl0 => lv_goto hC.1 hC.2.1 d ht (kk H locs ls hP hD hS hl0)
theorem v_if_eq (hC : gD p s m args c cc nL own Z) {x : Int32} {off : Int} {tgt : Nat} (d : decode cc pc = .ok (.ifCond .eq off, 3)) (ht : (pc : Int) + off = (tgt : Int)) (ka : x = 0 → gV p l e R s m args below meth c nL Z Q k M tgt lv st) (kb : ¬ x = 0 → gV p l e R s m args below meth c nL Z Q k M (pc + 3) lv st) : gV p l e R s m args below meth c nL Z Q k M pc lv (.int x :: st) := fun H locs ls hP hD hS hl0 => lv_if_eq hC.1 hC.2.1 d ht (fun h => ka h H locs ls hP hD hS hl0) (fun h => kb h H locs ls hP hD hS hl0)
set_option maxHeartbeats 1000000 in
theorem v_callHi (hC : gD p s m args c cc nL own Z) {C : String} {idx maxL n mcY : Nat} {y : MethodName} {bytes : ByteArray} {rt : Option FieldType} {rm : Room} {st1 : List Value} {r : gR} (As : List Value) (tq ci : Nat) {T : u_T} {N1 : Nat} {fs : List Value} (hq : gOk tq) (hfs : gE Z M tq = .inr (ci, fs)) (hc : vwCl[ci]? = some (C, T, N1)) (hM : gMet l y bytes maxL rt rm 1 mcY Z M (.ref (zad Z tq) :: As) r) (hne : r.1 ≠ 0) (h1 : Cond.methodLink own idx y ∈ gWS) (h2 : Cond.instanceMethod y ∈ gWS) (h3 : Cond.selects C y y ∈ gWS) (h4 : Cond.initialized C ∈ gWS) (h5 : Cond.code y bytes maxL rt ∈ gWS) (hd : y.cls = C ∧ y.cls ≠ "java/lang/invoke/MethodHandle" ∧ y.cls ≠ "java/lang/invoke/VarHandle" ∧ (parseMethodDescriptor y.desc).map (fun d => d.parameters.length) = some n) (hrc : rm.cells = mcY) (hrs : rm.slots = 6 * mcY) (hR : rm.frames + 1 ≤ R.frames ∧ 8 + (maxL + 11) + rm.locals ≤ R.locals) (hn : As.length = n) (hst : st1 = As.reverse ++ .ref (zad Z tq) :: st) (hcat : (st.map fun v => v.category).sum ≤ 8) (hf1 : k + mcY ≤ R.cells) (hf2 : 6 * (k + mcY) ≤ R.slots) (d : decode cc pc = .ok (.invokevirtual idx, 3)) (kx : ∀ (ex : Nat) (M1 : gM), r = rThr ex M1 → ∃ (pre : List ExceptionTableEntry) (x : ExceptionTableEntry) (suf : List ExceptionTableEntry) (nm : String), c.exceptionTable.toList = pre ++ x :: suf ∧ (∀ z ∈ pre, covers z pc = false ∨ (z.catchType ≠ 0 ∧ ∃ nm1 : String, Cond.classLink own z.catchType nm1 ∈ gWS ∧ va_Nc (gEx ex) nm1 s)) ∧ covers x pc = true ∧ x.catchType ≠ 0 ∧ Cond.classLink own x.catchType nm ∈ gWS ∧ Cond.castable (gEx ex) nm ∈ gNg ∧ ∀ q9 : Nat, gV p l e R s m args below meth c nL Z Q (k + mcY) M1 x.handlerPc lv [.ref q9]) (kk : ∀ (v : Int32) (M1 : gM), r = rRet v M1 → gV p l e R s m args below meth c nL Z Q (k + mcY) M1 (pc + 3) lv (.int v :: st)) : gV p l e R s m args below meth c nL Z Q k M pc lv st1 := by
  intro H locs ls hP hD hS hl0
  refine vx_calli (A0 := zA Z) (A1 := zA Z) (AX := zA Z) (vx_runV (As := As) (rest := st) ⟨hC.1, hC.2.1, hC.2.2.1, hC.2.2.2.1, hC.2.2.2.2.1⟩ (hM hne) (cwV n hC.2.2.2.2.1 (gGoodV h1 h2 h3 h4 h5) rfl hrc hrs hd hR) ⟨gBlind, va_recv hC.2.2.2.2.2.1 hP hc ((gL_at hq).trans (by rw [hfs])), fun U hU hW => ⟨rfl, ⟨by rw [hU]; exact hP, va_K.moved hW.alike hC.2.2.2.2.2.1, hD⟩, gG_move hC.2.2.2.2.2.2 hS hU hW⟩⟩ rfl hn hl0.1 hst (lv_room hcat) d ⟨hf1, by omega⟩) hS (fun q _ h => h) (fun q h => h) (fun q _ h => h) (fun E ce q9 u t H1 locs1 ht hv hp hB hz hk1 hS1 hce hcv hcl => ?_) (fun v M1 t H1 locs1 ht hv hp hB hz hk1 hS1 => ?_)
  · rw [← Nat.mul_add]
    obtain ⟨pre, x, suf, nm, x1, x2, x3, x4, x5, x6, x7⟩ := kx u.1 u.2 hp
    obtain ⟨hE, hP1, hK1, hD1⟩ := hB
    rw [ht] at hP1
    subst hE
    refine vx_catch hC.2.2.2.1 pre x suf x1 (fun z hz => ?_) x3 x4 (hC.2.2.2.2.1 _ x5) (va_Nw.use (gNg_tab _ x6) (hC.2.2.2.2.2.2.2.2.2.2.1 _ x6)) hce hcv hcl (x7 q9 H1 locs1 ls hP1 hD1 hS1 hl0)
    rcases x2 z hz with h | ⟨h1, nm1, h2, h3⟩
    · exact Or.inl h
    · exact Or.inr ⟨h1, nm1, hC.2.2.2.2.1 _ h2, h3⟩
  · obtain ⟨hP1, hK1, hD1⟩ := hB
    rw [ht] at hP1
    rw [← Nat.mul_add]
    exact kk v M1 hp H1 locs1 ls hP1 hD1 hS1 hl0
set_option maxHeartbeats 1000000 in
theorem v_callHv (hC : gD p s m args c cc nL own Z) {C : String} {idx maxL n mcY : Nat} {y : MethodName} {bytes : ByteArray} {rt : Option FieldType} {rm : Room} {st1 : List Value} {r : gR} (As : List Value) (tq ci : Nat) {T : u_T} {N1 : Nat} {fs : List Value} (hq : gOk tq) (hfs : gE Z M tq = .inr (ci, fs)) (hc : vwCl[ci]? = some (C, T, N1)) (hM : gMet l y bytes maxL rt rm 0 mcY Z M (.ref (zad Z tq) :: As) r) (hne : r.1 ≠ 0) (h1 : Cond.methodLink own idx y ∈ gWS) (h2 : Cond.instanceMethod y ∈ gWS) (h3 : Cond.selects C y y ∈ gWS) (h4 : Cond.initialized C ∈ gWS) (h5 : Cond.code y bytes maxL rt ∈ gWS) (hd : y.cls = C ∧ y.cls ≠ "java/lang/invoke/MethodHandle" ∧ y.cls ≠ "java/lang/invoke/VarHandle" ∧ (parseMethodDescriptor y.desc).map (fun d => d.parameters.length) = some n) (hrc : rm.cells = mcY) (hrs : rm.slots = 6 * mcY) (hR : rm.frames + 1 ≤ R.frames ∧ 8 + (maxL + 11) + rm.locals ≤ R.locals) (hn : As.length = n) (hst : st1 = As.reverse ++ .ref (zad Z tq) :: st) (hcat : (st.map fun v => v.category).sum ≤ 8) (hf1 : k + mcY ≤ R.cells) (hf2 : 6 * (k + mcY) ≤ R.slots) (d : decode cc pc = .ok (.invokevirtual idx, 3)) (kx : ∀ (ex : Nat) (M1 : gM), r = rThr ex M1 → ∃ (pre : List ExceptionTableEntry) (x : ExceptionTableEntry) (suf : List ExceptionTableEntry) (nm : String), c.exceptionTable.toList = pre ++ x :: suf ∧ (∀ z ∈ pre, covers z pc = false ∨ (z.catchType ≠ 0 ∧ ∃ nm1 : String, Cond.classLink own z.catchType nm1 ∈ gWS ∧ va_Nc (gEx ex) nm1 s)) ∧ covers x pc = true ∧ x.catchType ≠ 0 ∧ Cond.classLink own x.catchType nm ∈ gWS ∧ Cond.castable (gEx ex) nm ∈ gNg ∧ ∀ q9 : Nat, gV p l e R s m args below meth c nL Z Q (k + mcY) M1 x.handlerPc lv [.ref q9]) (kk : ∀ (M1 : gM), r = rRet 0 M1 → gV p l e R s m args below meth c nL Z Q (k + mcY) M1 (pc + 3) lv st) : gV p l e R s m args below meth c nL Z Q k M pc lv st1 := by
  intro H locs ls hP hD hS hl0
  refine vx_callv (A0 := zA Z) (A1 := zA Z) (AX := zA Z) (vx_runV (As := As) (rest := st) ⟨hC.1, hC.2.1, hC.2.2.1, hC.2.2.2.1, hC.2.2.2.2.1⟩ (hM hne) (cwV n hC.2.2.2.2.1 (gGoodV h1 h2 h3 h4 h5) rfl hrc hrs hd hR) ⟨gBlind, va_recv hC.2.2.2.2.2.1 hP hc ((gL_at hq).trans (by rw [hfs])), fun U hU hW => ⟨rfl, ⟨by rw [hU]; exact hP, va_K.moved hW.alike hC.2.2.2.2.2.1, hD⟩, gG_move hC.2.2.2.2.2.2 hS hU hW⟩⟩ rfl hn hl0.1 hst (lv_room hcat) d ⟨hf1, by omega⟩) hS (fun q _ h => h) (fun q h => h) (fun q _ h => h) (fun E ce q9 u t H1 locs1 ht hv hp hB hz hk1 hS1 hce hcv hcl => ?_) (fun M1 t H1 locs1 ht hv hp hB hz hk1 hS1 => ?_)
  · rw [← Nat.mul_add]
    obtain ⟨pre, x, suf, nm, x1, x2, x3, x4, x5, x6, x7⟩ := kx u.1 u.2 hp
    obtain ⟨hE, hP1, hK1, hD1⟩ := hB
    rw [ht] at hP1
    subst hE
    refine vx_catch hC.2.2.2.1 pre x suf x1 (fun z hz => ?_) x3 x4 (hC.2.2.2.2.1 _ x5) (va_Nw.use (gNg_tab _ x6) (hC.2.2.2.2.2.2.2.2.2.2.1 _ x6)) hce hcv hcl (x7 q9 H1 locs1 ls hP1 hD1 hS1 hl0)
    rcases x2 z hz with h | ⟨h1, nm1, h2, h3⟩
    · exact Or.inl h
    · exact Or.inr ⟨h1, nm1, hC.2.2.2.2.1 _ h2, h3⟩
  · obtain ⟨hP1, hK1, hD1⟩ := hB
    rw [ht] at hP1
    rw [← Nat.mul_add]
    exact kk M1 hp H1 locs1 ls hP1 hD1 hS1 hl0
theorem v_lret (hC : gD p s m args c cc nL own Z) {mc : Nat} {v : Int64} {M2 : gM} (hg : gL Z M2 = gL Z M) (hlocks : meth.locks = false) (hr : meth.sig.returnType = some .long) (hk : k ≤ mc) (d : decode cc pc = .ok (.lreturn, 1)) : gV p l e R s m args below meth c nL Z (vx_MQ below (va_Ql (fun (r : Int64) (M1 : gM) => qRet v M2 = qRet r M1) (gB Z) (zA Z)) (fun _ _ _ => False) args s mc (6 * mc) (zA Z)) k M pc lv [.long v] := by
  intro H locs ls hP hD hS hl0
  refine W.widen hk (Nat.mul_le_mul_left 6 hk) (vx_ret (W.lret hC.1 hC.2.1 hr (fun t ht hW => ?_) hS.2.2 d))
  refine ⟨⟨v, M2, rfl, rfl, ⟨?_, va_K.moved hW.alike hC.2.2.2.2.2.1, ?_⟩⟩, hS.F ht⟩
  · rw [ht, hg]; exact hP
  · rw [hg]; exact hD
theorem v_lv0 {lv1 : List (Nat × Value)} (h : lv = lv1) (kk : gV p l e R s m args below meth c nL Z Q k M pc lv1 st) : gV p l e R s m args below meth c nL Z Q k M pc lv st := h ▸ kk
theorem gBlindL {As : List Value} : FrameBlind (va_Pc As (gWdL Z M)) := fun a U g mk ⟨h1, ⟨⟨hP, hK, hD⟩, hg⟩, hn⟩ => ⟨h1, ⟨⟨hP, va_K.moved (u := U) (U := U.calling g mk a) (Vm.Alike.refl U.vm) hK, hD⟩, gG_call hg⟩, gNc_moved (u := U) (U := U.calling g mk a) (Vm.Alike.refl U.vm) hn⟩
theorem gGoodW {own : String} {idx maxL : Nat} {y : MethodName} {bytes : ByteArray} {hh : List (Nat × Nat × Nat × Nat)} (h1 : Cond.methodLink own idx y ∈ gWS) (h2 : Cond.static y ∈ gWS) (h4 : Cond.initialized y.cls ∈ gWS) (h5 : Cond.codeWith y bytes maxL (some .long) hh ∈ gWS) : GoodIn gWS (va_wsS own idx y (.codeWith y bytes maxL (some .long) hh :: gWS)) := by
  intro w hw
  simp only [va_wsS, List.cons_append, List.nil_append, List.mem_cons] at hw
  rcases hw with h | h | h | h | h
  · rw [h]; exact gGood h1
  · rw [h]; exact gGood h2
  · rw [h]; exact gGood h4
  · rw [h]; exact gGood h5
  · exact gGood h
end GV
/-- into a wrapper -/
theorem v_enter {l : Launch} {y : MethodName} {cc : ByteArray} {maxL : Nat} {hh : List (Nat × Nat × Nat × Nat)} {rm : Room} {mc : Nat} {Z : gZ} {M : gM} {As : List Value} {F : gQ} (hy : plainName y.cls = true) (hA : (lg_sl As).length ≤ maxL)
    (body : F.1 ≠ 0 → ∀ (p : Program) (e : Env) (s : State) (m : MethodId) (args : Array Value) (below : List Frame) (meth : Method) (c : Code), gD p s m args c cc maxL y.cls Z → gNc s → meth.locks = false → meth.sig.returnType = some .long → c.exceptionTable.toList = tableOf hh → gV p l e rm s m args below meth c maxL Z (vx_MQ below (va_Ql (fun (r : Int64) (M1 : gM) => F = qRet r M1) (gB Z) (zA Z)) (fun _ _ _ => False) args s mc (6 * mc) (zA Z)) 0 M 0 (lv_args 0 As) []) : gMetW l y cc maxL hh rm mc Z M As F := by
  intro hF
  refine vx_ofWH hy rfl ?_
  intro p e s m args below meth c s₁ B hml hPc
  obtain ⟨rfl, ⟨⟨hP, hK, hD⟩, hg⟩, hn⟩ := hPc
  have hts := atoms_spec (ws := .codeWith y cc maxL (some .long) hh :: gWS) B.pre
  have hl := lv_entry As (n := maxL) hA
  rw [lg_entry_eq]
  exact body hF p e s m _ below meth c ⟨B.exec, B.bytes, hml, findClass_of_methodNamed B.named, fun w hw => hts w (List.mem_cons_of_mem _ hw), hK, hg⟩ hn B.notSynchronized B.returns (vx_table (x := y) B (hts _ List.mem_cons_self)) s.heap [] _ hP hD va_S.rf hl
