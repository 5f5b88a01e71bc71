/-- while the world is being made: the cells are those of ws -/
def gU (p : Program) (l : Launch) (e : Env) (R : Room) (s : State) (m : MethodId) (args : Array Value) (below : List Frame) (meth : Method) (c : Code) (nL : Nat) (Z : gZ) (Q : State → Prop) (k n : Nat) (ws : va_W) (pc : Nat) (lv : List (Nat × Value)) (st : List Value) : Prop :=
  ∀ (H : Heap) (locs : List Loc) (ls : Array Slot), va_P (zD Z) vwCl ws H → va_D (zA Z) ws → va_S (zA Z) s.heap H locs → lv_has ls nL lv → W p l e R s m args below meth c H locs k n Q (F0 m pc ls st)
/-- words that only constructors need -/
def gNest : List Cond := [.methodLinkNest RX8 18 yX1_init RX8, .methodLinkNest RX8 25 yX2_init RX8, .methodLinkNest RX8 32 yX3_init RX8, .methodLinkNest RX8 39 yX5_init RX8, .methodLinkNest RX8 46 yX6_init RX8, .methodLinkNest RX8 53 yX4_init RX8, .methodLinkNest RX8 60 yX7_init RX8, .fieldLinkNest RX0 18 RX8 "FIRST_RULE_DAYS" "[I" RX8, .castable "[I" "java/lang/Cloneable"]
def frd (j : Nat) : Int32 := [21, 14, 30, 14, 5].getD j 0
def gFrd (Z : gZ) (U : State) (H : Heap) : Prop := ∃ (t : Nat) (cell : Cell), va_Z RX8 "FIRST_RULE_DAYS" "[I" (.ref t) (zA Z) U H ∧ H[t]? = some cell ∧ ¬ zA Z t ∧ cell.slots = (arrV 0 5 (fun j => .int (frd j))).slots ∧ cell.vm ≠ .unknown ∧ (∀ k, cell.vm ≠ .statics k) ∧ U.vm.findClass "[I" = some cell.cls
theorem gFrd_move {Z : gZ} {s U : State} {H : Heap} {locs : List Loc} (h : gFrd Z s s.heap) (hS : va_S (zA Z) s.heap H locs) (hv : s.vm.Alike U.vm) : gFrd Z U H := by
  obtain ⟨t, cell, h1, h2, h3, h4, h5, h6, h7⟩ := h
  exact ⟨t, cell, (h1.moved hv).kept hS.2.1, by rw [hS.2.1 t (Array.getElem?_eq_some_iff.mp h2).1 h3]; exact h2, h3, h4, h5, h6, by rw [hv.findClass]; exact h7⟩
def gH (Z : gZ) (U : State) : Prop := (Cond.arrayOver (.array .int)).before #[] U = true ∧ (∀ w ∈ gNest, va_Nw w U) ∧ gFrd Z U U.heap
theorem gH_ov {Z : gZ} {U : State} {args : Array Value} (h : gH Z U) : (Cond.arrayOver (.array .int)).before args U = true := h.1
theorem gH_warm {Z : gZ} {s U : State} {H : Heap} {locs : List Loc} (hW : s.WarmedH U.vm) (h : gH Z s) (hS : va_S (zA Z) s.heap H locs) (hU : U.heap = H) : gH Z U := by
  refine ⟨?_, fun w hw => ?_, by subst hU; exact gFrd_move h.2.2 hS hW.alike⟩
  · have h1 := h.1
    rw [← Cond.arrayOver_setVmC hW.alike] at h1
    exact h1
  · have h1 := h.2.1 w hw
    simp only [gNest, List.mem_cons, List.not_mem_nil, or_false] at hw
    rcases hw with e | e | e | e | e | e | e | e | e <;> (subst e; first | exact va_Nw.warmM hW h1 | exact va_Nw.warmF hW h1 | exact va_Nw.warmC hW h1)
def gWu (Z : gZ) (ws : va_W) (t : State) : Prop := va_P (zD Z) vwCl ws t.heap ∧ va_K (zD Z) vwCl (gTys Z) t ∧ va_D (zA Z) ws
/-- a constructor: from any cells ws, its own object at the place p, to those of out -/
def gMetU (l : Launch) (y : MethodName) (cc : ByteArray) (maxL : Nat) (rm : Room) (mc ms : Nat) (Z : gZ) (ws : va_W) (h0 : Nat) (out : (Nat → Nat → Nat) → va_W) : Prop :=
  Met l y (.code y cc maxL none :: gWS) rm (va_Pc [.ref h0] (fun U => gWu Z ws U ∧ gG Z U ∧ gH Z U)) (va_Qv (fun _ : Nat → Nat → Nat => True) (fun a t => gWu Z (out a) t) (zA Z)) mc ms (zA Z)
theorem u_at {ws tail : va_W} {p : Nat} {x : Nat × va_E} (hp : p < ws.length) : (ws.set p x ++ tail)[p]? = some x := by
  rw [List.getElem?_append_left (by simp; exact hp), List.getElem?_set_self hp]
theorem u_set {ws tail : va_W} {p : Nat} {x y : Nat × va_E} (hp : p < ws.length) : (ws.set p x ++ tail).set p y = ws.set p y ++ tail := by
  rw [List.set_append_left _ _ (by simp; exact hp), List.set_set]
theorem u_self {ws : va_W} {p : Nat} {x : Nat × va_E} (h : ws[p]? = some x) : ws.set p x ++ [] = ws := by
  rw [List.append_nil]
  apply List.ext_getElem?
  intro k
  by_cases hk : k = p
  · subst hk
    rw [List.getElem?_set_self (List.getElem?_eq_some_iff.mp h).1, h]
  · rw [List.getElem?_set_ne (Ne.symm hk)]
theorem u_tail {ws tail : va_W} {p j : Nat} {x : Nat × va_E} : (ws.set p x ++ tail)[ws.length + j]? = tail[j]? := by
  rw [List.getElem?_append_right (by simp), List.length_set, Nat.add_sub_cancel_left]
theorem u_tset {ws tail : va_W} {p j : Nat} {x y : Nat × va_E} : (ws.set p x ++ tail).set (ws.length + j) y = ws.set p x ++ tail.set j y := by
  rw [List.set_append_right _ _ (by simp), List.length_set, Nat.add_sub_cancel_left]
section GU
variable {p : Program} {l : Launch} {e : Env} {R : Room} {s : State} {m : MethodId} {args : Array Value} {below : List Frame} {meth : Method} {c : Code} {nL : Nat} {Z : gZ} {Q : State → Prop} {k n : Nat} {ws : va_W} {pc : Nat} {lv : List (Nat × Value)} {st : List Value} {cc : ByteArray} {own : String}

theorem u_lv0 {lv1 : List (Nat × Value)} (h : lv = lv1) (kk : gU p l e R s m args below meth c nL Z Q k n ws pc lv1 st) : gU p l e R s m args below meth c nL Z Q k n ws pc lv st := h ▸ kk
theorem u_wsE {ws1 : va_W} (h : ws = ws1) (kk : gU p l e R s m args below meth c nL Z Q k n ws1 pc lv st) : gU p l e R s m args below meth c nL Z Q k n ws pc lv st := h ▸ kk
theorem u_sub {lv1 : List (Nat × Value)} (ks : List Nat) (h : lv_pick lv ks = lv1) (kk : gU p l e R s m args below meth c nL Z Q k n ws pc lv1 st) : gU p l e R s m args below meth c nL Z Q k n ws pc lv st := fun H locs ls hP hD hS hl0 => kk H locs ls hP hD hS (lv_sub hl0 ks h)
theorem u_widen {k1 n1 : Nat} (h : k ≤ k1) (h2 : n ≤ n1) (kk : gU p l e R s m args below meth c nL Z Q k1 n1 ws pc lv st) : gU p l e R s m args below meth c nL Z Q k n ws pc lv st := fun H locs ls hP hD hS hl0 => W.widen h h2 (kk H locs ls hP hD hS hl0)
theorem u_iconst (hC : gD p s m args c cc nL own Z) {n0 : Int} {v : Int32} (d : decode cc pc = .ok (.iconst n0, 1)) (hv : Int32.ofInt n0 = v) (kk : gU p l e R s m args below meth c nL Z Q k n ws (pc + 1) lv (.int v :: st)) : gU p l e R s m args below meth c nL Z Q k n ws pc lv st := fun H locs ls hP hD hS hl0 => lv_iconst hC.1 hC.2.1 d hv (kk H locs ls hP hD hS hl0)
theorem u_bipush (hC : gD p s m args c cc nL own Z) {n0 : Int} {v : Int32} (d : decode cc pc = .ok (.bipush n0, 2)) (hv : (Int8.ofInt n0).toInt32 = v) (kk : gU p l e R s m args below meth c nL Z Q k n ws (pc + 2) lv (.int v :: st)) : gU p l e R s m args below meth c nL Z Q k n ws pc lv st := fun H locs ls hP hD hS hl0 => lv_bipush hC.1 hC.2.1 d hv (kk H locs ls hP hD hS hl0)
theorem u_sipush (hC : gD p s m args c cc nL own Z) {n0 : Int} {v : Int32} (d : decode cc pc = .ok (.sipush n0, 3)) (hv : (Int16.ofInt n0).toInt32 = v) (kk : gU p l e R s m args below meth c nL Z Q k n ws (pc + 3) lv (.int v :: st)) : gU p l e R s m args below meth c nL Z Q k n ws pc lv st := fun H locs ls hP hD hS hl0 => lv_sipush hC.1 hC.2.1 d hv (kk H locs ls hP hD hS hl0)
theorem u_ldc (hC : gD p s m args c cc nL own Z) {n0 : Nat} {v : Int32} (hc : Cond.constant own n0 v ∈ gWS) (d : decode cc pc = .ok (.ldc n0, 2)) (kk : gU p l e R s m args below meth c nL Z Q k n ws (pc + 2) lv (.int v :: st)) : gU p l e R s m args below meth c nL Z Q k n ws pc lv st := fun H locs ls hP hD hS hl0 => lv_ldc hC.1 hC.2.1 hC.2.2.2.1 (hC.2.2.2.2.1 _ hc) d (kk H locs ls hP hD hS hl0)
theorem u_iload_n (hC : gD p s m args c cc nL own Z) {i : Fin 4} {i1 : Nat} (j : Nat) {x : Int32} (d : decode cc pc = .ok (.iload_n i, 1)) (hi : (i : Nat) = i1) (hl : lv[j]? = some (i1, .int x)) (kk : gU p l e R s m args below meth c nL Z Q k n ws (pc + 1) lv (.int x :: st)) : gU p l e R s m args below meth c nL Z Q k n ws pc lv st := fun H locs ls hP hD hS hl0 => lv_iload_n hC.1 hC.2.1 d hi (lv_at hl0 j hl) (kk H locs ls hP hD hS hl0)
theorem u_aload_n (hC : gD p s m args c cc nL own Z) {i : Fin 4} {i1 : Nat} (j : Nat) {x : Nat} (d : decode cc pc = .ok (.aload_n i, 1)) (hi : (i : Nat) = i1) (hl : lv[j]? = some (i1, .ref x)) (kk : gU p l e R s m args below meth c nL Z Q k n ws (pc + 1) lv (.ref x :: st)) : gU p l e R s m args below meth c nL Z Q k n ws pc lv st := fun H locs ls hP hD hS hl0 => lv_aload_n hC.1 hC.2.1 d hi (lv_at hl0 j hl) (kk H locs ls hP hD hS hl0)
theorem u_istore_n (hC : gD p s m args c cc nL own Z) {i : Fin 4} {i1 : Nat} {x : Int32} {lv1 : List (Nat × Value)} (d : decode cc pc = .ok (.istore_n i, 1)) (hi : (i : Nat) = i1) (hn : i1 < nL) (hl : (i1, Value.int x) :: lv.filter (fun q => !(q.1 == i1) && !(q.1 + 1 == i1 && q.2.category == 2)) = lv1) (kk : gU p l e R s m args below meth c nL Z Q k n ws (pc + 1) lv1 st) : gU p l e R s m args below meth c nL Z Q k n ws pc lv (.int x :: st) := fun H locs ls hP hD hS hl0 => lv_istore_n hC.1 hC.2.1 d hi hl0 hn hl (fun ls1 hl1 => kk H locs ls1 hP hD hS hl1)
theorem u_istore (hC : gD p s m args c cc nL own Z) {i1 : Nat} {x : Int32} {lv1 : List (Nat × Value)} (d : decode cc pc = .ok (.istore i1, 2)) (hn : i1 < nL) (hl : (i1, Value.int x) :: lv.filter (fun q => !(q.1 == i1) && !(q.1 + 1 == i1 && q.2.category == 2)) = lv1) (kk : gU p l e R s m args below meth c nL Z Q k n ws (pc + 2) lv1 st) : gU p l e R s m args below meth c nL Z Q k n ws pc lv (.int x :: st) := fun H locs ls hP hD hS hl0 => lv_istore hC.1 hC.2.1 d hl0 hn hl (fun ls1 hl1 => kk H locs ls1 hP hD hS hl1)
theorem u_astore_n (hC : gD p s m args c cc nL own Z) {i : Fin 4} {i1 : Nat} {x : Nat} {lv1 : List (Nat × Value)} (d : decode cc pc = .ok (.astore_n i, 1)) (hi : (i : Nat) = i1) (hn : i1 < nL) (hl : (i1, Value.ref x) :: lv.filter (fun q => !(q.1 == i1) && !(q.1 + 1 == i1 && q.2.category == 2)) = lv1) (kk : gU p l e R s m args below meth c nL Z Q k n ws (pc + 1) lv1 st) : gU p l e R s m args below meth c nL Z Q k n ws pc lv (.ref x :: st) := fun H locs ls hP hD hS hl0 => lv_astore_n hC.1 hC.2.1 d hi hl0 hn hl (fun ls1 hl1 => kk H locs ls1 hP hD hS hl1)
theorem u_iinc (hC : gD p s m args c cc nL own Z) {i1 : Nat} (j : Nat) {n0 : Int} {x v : Int32} {lv1 : List (Nat × Value)} (d : decode cc pc = .ok (.iinc i1 n0, 3)) (hk : lv[j]? = some (i1, .int x)) (hv : x + Int32.ofInt n0 = v) (hn : i1 < nL) (hl : (i1, Value.int v) :: lv.filter (fun q => !(q.1 == i1) && !(q.1 + 1 == i1 && q.2.category == 2)) = lv1) (kk : gU p l e R s m args below meth c nL Z Q k n ws (pc + 3) lv1 st) : gU p l e R s m args below meth c nL Z Q k n ws pc lv st := fun H locs ls hP hD hS hl0 => lv_iinc hC.1 hC.2.1 d hl0 hk hv hn hl (fun ls1 hl1 => kk H locs ls1 hP hD hS hl1)
theorem u_dup (hC : gD p s m args c cc nL own Z) {a : Value} (d : decode cc pc = .ok (.dup, 1)) (ha : a.category = 1) (kk : gU p l e R s m args below meth c nL Z Q k n ws (pc + 1) lv (a :: a :: st)) : gU p l e R s m args below meth c nL Z Q k n ws pc lv (a :: st) := fun H locs ls hP hD hS hl0 => lv_dup hC.1 hC.2.1 d ha (kk H locs ls hP hD hS hl0)
theorem u_goto (hC : gD p s m args c cc nL own Z) {off : Int} {tgt : Nat} (d : decode cc pc = .ok (.goto off, 3)) (ht : (pc : Int) + off = (tgt : Int)) (kk : gU p l e R s m args below meth c nL Z Q k n ws tgt lv st) : gU p l e R s m args below meth c nL Z Q k n ws pc lv st := fun H locs ls hP hD hS hl0 => lv_goto hC.1 hC.2.1 d ht (kk H locs ls hP hD hS hl0)
theorem u_icmp_ge (hC : gD p s m args c cc nL own Z) {x y : Int32} {off : Int} {tgt : Nat} (d : decode cc pc = .ok (.if_icmp .ge off, 3)) (ht : (pc : Int) + off = (tgt : Int)) (ka : y ≤ x → gU p l e R s m args below meth c nL Z Q k n ws tgt lv st) (kb : ¬ y ≤ x → gU p l e R s m args below meth c nL Z Q k n ws (pc + 3) lv st) : gU p l e R s m args below meth c nL Z Q k n ws pc lv (.int y :: .int x :: st) := fun H locs ls hP hD hS hl0 => lv_icmp_ge hC.1 hC.2.1 d ht (fun h => ka h H locs ls hP hD hS hl0) (fun h => kb h H locs ls hP hD hS hl0)
theorem u_icmp_gt (hC : gD p s m args c cc nL own Z) {x y : Int32} {off : Int} {tgt : Nat} (d : decode cc pc = .ok (.if_icmp .gt off, 3)) (ht : (pc : Int) + off = (tgt : Int)) (ka : y < x → gU p l e R s m args below meth c nL Z Q k n ws tgt lv st) (kb : ¬ y < x → gU p l e R s m args below meth c nL Z Q k n ws (pc + 3) lv st) : gU p l e R s m args below meth c nL Z Q k n ws pc lv (.int y :: .int x :: st) := fun H locs ls hP hD hS hl0 => lv_icmp_gt hC.1 hC.2.1 d ht (fun h => ka h H locs ls hP hD hS hl0) (fun h => kb h H locs ls hP hD hS hl0)
theorem u_if_eq (hC : gD p s m args c cc nL own Z) {x : Int32} {off : Int} {tgt : Nat} (d : decode cc pc = .ok (.ifCond .eq off, 3)) (ht : (pc : Int) + off = (tgt : Int)) (ka : x = 0 → gU p l e R s m args below meth c nL Z Q k n ws tgt lv st) (kb : ¬ x = 0 → gU p l e R s m args below meth c nL Z Q k n ws (pc + 3) lv st) : gU p l e R s m args below meth c nL Z Q k n ws pc lv (.int x :: st) := fun H locs ls hP hD hS hl0 => lv_if_eq hC.1 hC.2.1 d ht (fun h => ka h H locs ls hP hD hS hl0) (fun h => kb h H locs ls hP hD hS hl0)
theorem u_objInit (hC : gD p s m args c cc nL own Z) {idx : Nat} {a : Nat} (h1 : Cond.methodLink own idx Lib.objectInit ∈ gWS) (h2 : Cond.instanceMethod Lib.objectInit ∈ gWS) (h3 : Cond.code Lib.objectInit ⟨#[0xb1]⟩ 1 none ∈ gWS) (hf : 1 ≤ R.frames) (hlo : 20 ≤ R.locals) (hcat : (st.map fun v => v.category).sum ≤ 8) (d : decode cc pc = .ok (.invokespecial idx, 3)) (kk : gU p l e R s m args below meth c nL Z Q k n ws (pc + 3) lv st) : gU p l e R s m args below meth c nL Z Q k n ws pc lv (.ref a :: st) := fun H locs ls hP hD hS hl0 => W.objInit hC.1 hC.2.1 hC.2.2.2.1 (hC.2.2.2.2.1 _ h1) (hC.2.2.2.2.1 _ h2) (hC.2.2.2.2.1 _ h3) rfl (hl0.1.trans hC.2.2.1.symm) rfl d hf (by show 2 * 0 + _ + 12 ≤ _; omega) (kk H locs ls hP hD hS hl0)
theorem u_newI (hC : gD p s m args c cc nL own Z) {x : Int32} {N : Nat} (hw : Cond.arrayClass .int ∈ gWS) (hx : ¬ x < 0) (hN : x.toNatClampNeg = N) (hby : N * componentBytes .int ≤ 536870912) (hc : k + 1 ≤ R.cells) (hs : n + N ≤ R.slots) (d : decode cc pc = .ok (.newarray .int, 2)) (kk : ∀ q : Nat, gU p l e R s m args below meth c nL Z Q (k + 1) (n + N) (ws ++ [(q, .inl (Z.2.2.1.1, N, .inl (fun _ => 0)))]) (pc + 2) lv (.ref q :: st)) : gU p l e R s m args below meth c nL Z Q k n ws pc lv (.int x :: st) := by
  intro H locs ls hP hD hS hl0
  refine va_newa (atype := .int) (a0 := (N, .inl (fun _ => 0))) hC.1 hC.2.1 (hC.2.2.2.2.1 _ hw) rfl hC.2.2.2.2.2.1 hP hD hS (fun q h => Nat.le_trans hC.2.2.2.2.2.2.1 h) (fun _ => rfl) hx hN hby hc hs d (fun q cA H1 hK1 hP1 hD1 hS1 => ?_)
  have e1 : s.vm.findClass ("[" ++ (FieldType.int).toString) = some cA := (hK1.2 3 _ rfl).2
  have e2 : s.vm.findClass ("[" ++ (FieldType.int).toString) = some Z.2.2.1.1 := (hC.2.2.2.2.2.1.2 0 _ rfl).2
  have e3 : cA = Z.2.2.1.1 := Option.some.inj (e1.symm.trans e2)
  subst e3
  exact kk q H1 locs ls hP1 hD1 hS1 hl0
theorem u_newZ (hC : gD p s m args c cc nL own Z) {x : Int32} {N : Nat} (hw : Cond.arrayClass .boolean ∈ gWS) (hx : ¬ x < 0) (hN : x.toNatClampNeg = N) (hby : N * componentBytes .boolean ≤ 536870912) (hc : k + 1 ≤ R.cells) (hs : n + N ≤ R.slots) (d : decode cc pc = .ok (.newarray .boolean, 2)) (kk : ∀ q : Nat, gU p l e R s m args below meth c nL Z Q (k + 1) (n + N) (ws ++ [(q, .inl (Z.2.2.1.2.1, N, .inl (fun _ => 0)))]) (pc + 2) lv (.ref q :: st)) : gU p l e R s m args below meth c nL Z Q k n ws pc lv (.int x :: st) := by
  intro H locs ls hP hD hS hl0
  refine va_newa (atype := .boolean) (a0 := (N, .inl (fun _ => 0))) hC.1 hC.2.1 (hC.2.2.2.2.1 _ hw) rfl hC.2.2.2.2.2.1 hP hD hS (fun q h => Nat.le_trans hC.2.2.2.2.2.2.1 h) (fun _ => rfl) hx hN hby hc hs d (fun q cA H1 hK1 hP1 hD1 hS1 => ?_)
  have e1 : s.vm.findClass ("[" ++ (FieldType.boolean).toString) = some cA := (hK1.2 3 _ rfl).2
  have e2 : s.vm.findClass ("[" ++ (FieldType.boolean).toString) = some Z.2.2.1.2.1 := (hC.2.2.2.2.2.1.2 1 _ rfl).2
  have e3 : cA = Z.2.2.1.2.1 := Option.some.inj (e1.symm.trans e2)
  subst e3
  exact kk q H1 locs ls hP1 hD1 hS1 hl0
theorem u_mna (hC : gD p s m args c cc nL own Z) {idx : Nat} {x y : Int32} {N K : Nat} (hlk : Cond.classLink own idx ("[" ++ (FieldType.array .int).toString) ∈ gWS) (hH : gH Z s) (hw : Cond.arrayClass .int ∈ gWS) (hx : ¬ x < 0) (hy : ¬ y < 0) (hN : x.toNatClampNeg = N) (hM : y.toNatClampNeg = K) (hb1 : N * 4 ≤ 536870912) (hb2 : K * componentBytes .int ≤ 536870912) (hb3 : K ≤ 536870912) (hc : k + (1 + N) ≤ R.cells) (hs : n + (N + N * K) ≤ R.slots) (d : decode cc pc = .ok (.multianewarray idx 2, 4))
    (kk : ∀ (q : Nat) (r : Nat → Nat), gU p l e R s m args below meth c nL Z Q (k + 1 + N) (n + N + N * K) (ws ++ (q, .inl (Z.2.2.1.2.2.1, N, .inr (.inr (.inr (.inr (fun i => if i < N then some (r i) else none)))))) :: (List.range N).map (fun i => (r i, .inl (Z.2.2.1.1, K, .inl (fun _ => 0))))) (pc + 4) lv (.ref q :: st)) : gU p l e R s m args below meth c nL Z Q k n ws pc lv (.int y :: .int x :: st) := by
  intro H locs ls hP hD hS hl0
  have e2 : s.vm.findClass (FieldType.array .int).toString = some Z.2.2.1.1 := (hC.2.2.2.2.2.1.2 0 _ rfl).2
  refine va_mna (X := ws) (L := []) (f := fun _ => .inl (0, 0, .inl (fun _ => 0))) (cy := Z.2.2.1.1) (z := (K, .inl (fun _ => 0))) hC.1 hC.2.1 hC.2.2.2.1 (hC.2.2.2.2.1 _ hlk) (gH_ov hH) (hC.2.2.2.2.1 _ hw) e2 hC.2.2.2.2.2.1 (by rw [show va_pl [] (fun _ => (.inl (0, 0, .inl (fun _ => 0)) : va_E)) = [] from rfl, List.append_nil]; exact hP) (by rw [show va_pl [] (fun _ => (.inl (0, 0, .inl (fun _ => 0)) : va_E)) = [] from rfl, List.append_nil]; exact hD) hS (fun q h => Nat.le_trans hC.2.2.2.2.2.2.1 h) hx hy hN hM hb1 hb2 hb3 rfl rfl hc hs (fun x => by show ({ cls := x, slots := Array.replicate K (.int 0), vm := .none } : Cell) = _; rw [arrV_new]; rfl) d (fun q r cA H1 hr1 hr2 hK1 hP1 hD1 hS1 => ?_)
  have f1 : s.vm.findClass ("[" ++ (FieldType.array .int).toString) = some cA := (hK1.2 3 _ rfl).2
  have f2 : s.vm.findClass ("[" ++ (FieldType.array .int).toString) = some Z.2.2.1.2.2.1 := (hC.2.2.2.2.2.1.2 2 _ rfl).2
  have f3 : cA = Z.2.2.1.2.2.1 := Option.some.inj (f1.symm.trans f2)
  subst f3
  have hl9 : va_pl ([] ++ (List.range N).map r) (vr_up (fun _ => (.inl (0, 0, .inl (fun _ => 0)) : va_E)) ((List.range N).map r) (.inl (Z.2.2.1.1, K, .inl (fun _ => 0)))) = (List.range N).map (fun i => (r i, (.inl (Z.2.2.1.1, K, .inl (fun _ => 0)) : va_E))) := by
    unfold va_pl
    rw [List.nil_append, List.map_map]
    apply List.map_congr_left
    intro i hi
    show (r i, vr_up _ _ _ (r i)) = _
    rw [vr_up_in (List.mem_map.mpr ⟨i, hi, rfl⟩)]
  rw [hl9, List.append_assoc] at hP1 hD1
  exact kk q r H1 locs ls hP1 hD1 hS1 hl0
theorem u_new (hC : gD p s m args c cc nL own Z) (ci : Nat) {idx N : Nat} {C : String} {T : u_T} {fs : List Value} (ty : Nat → FieldType) (hc : vwCl[ci]? = some (C, T, N)) (hin : ∀ w ∈ u_ws C T N, w ∈ gWS) (hty : ∀ k, k < N → parseFieldDescriptor (T k).2.2.1 = some (ty k)) (h1 : Cond.classLink own idx C ∈ gWS) (h2 : Cond.instantiable C N ∈ gWS) (h3 : Cond.initialized C ∈ gWS) (hfs : ∀ j, j < N → defaultValue (ty j) = vp_V fs j) (hk : k + 1 ≤ R.cells) (hs : n + N ≤ R.slots) (d : decode cc pc = .ok (.new idx, 3)) (kk : ∀ q : Nat, gU p l e R s m args below meth c nL Z Q (k + 1) (n + N) (ws ++ [(q, .inr (ci, fs))]) (pc + 3) lv (.ref q :: st)) : gU p l e R s m args below meth c nL Z Q k n ws pc lv st := by
  intro H locs ls hP hD hS hl0
  exact va_new hC.1 hC.2.1 hC.2.2.2.2.1 hin ty hty hC.2.2.2.1 (hC.2.2.2.2.1 _ h1) (hC.2.2.2.2.1 _ h2) (hC.2.2.2.2.1 _ h3) hC.2.2.2.2.2.1 hP hD hS (fun q h => Nat.le_trans hC.2.2.2.2.2.2.1 h) hc hfs hk hs d (fun q H1 hP1 hD1 hS1 => kk q H1 locs ls hP1 hD1 hS1 hl0)
theorem u_putF (hC : gD p s m args c cc nL own Z) (pl ci f : Nat) {N idx h0 q : Nat} {rf C : String} {T : u_T} {fs : List Value} {ws1 : va_W} {ty : FieldType} (ty0 : Nat → FieldType) (hat : ws[pl]? = some (h0, .inr (ci, fs))) (hws : ws.set pl (h0, .inr (ci, fs.set f (.ref q))) = ws1) (hc : vwCl[ci]? = some (C, T, N)) (hf : f < N) (hin : ∀ w ∈ u_ws C T N, w ∈ gWS) (hlk : Cond.fieldLink own idx rf (T f).2.1 (T f).2.2.1 ∈ gWS) (hr : (T f).1 = rf) (hty : ∀ k, k < N → parseFieldDescriptor (T k).2.2.1 = some (ty0 k)) (hnm : ∀ a, a < N → ∀ b, b < N → a ≠ b → (T a).2.1 ≠ (T b).2.1) (hfin : (T f).2.2.2 = true) (hin2 : meth.name = "<init>") (hdecl : (T f).1 = own) (hd : parseFieldDescriptor (T f).2.2.1 = some ty) (hn : narrow ty (.ref q) = .ref q) (hfit : fits ty (.ref q) = true) (hlen : f < fs.length) (d : decode cc pc = .ok (.putfield idx, 3)) (kk : gU p l e R s m args below meth c nL Z Q k n ws1 (pc + 3) lv st) : gU p l e R s m args below meth c nL Z Q k n ws pc lv (.ref q :: .ref h0 :: st) := by
  intro H locs ls hP hD hS hl0
  refine va_putF hC.1 hC.2.1 hC.2.2.2.2.1 hin ty0 hty hnm hC.2.2.2.1 hC.2.2.2.2.2.1 hP hD hS pl hat hc f hf (hC.2.2.2.2.1 _ hlk) (fun x hx => hr ▸ hx) hfin hin2 hdecl hd hn hfit hlen d (fun H1 locs1 hP1 hD1 hS1 => ?_)
  rw [hws] at hP1 hD1
  exact kk H1 locs1 ls hP1 hD1 hS1 hl0
theorem u_get (hC : gD p s m args c cc nL own Z) (pl ci f : Nat) {N idx h0 : Nat} {rf C : String} {T : u_T} {fs : List Value} {v : Value} (hat : ws[pl]? = some (h0, .inr (ci, fs))) (hv : fs[f]? = some v) (hc : vwCl[ci]? = some (C, T, N)) (hf : f < N) (hin : ∀ w ∈ u_ws C T N, w ∈ gWS) (hlk : Cond.fieldLink own idx rf (T f).2.1 (T f).2.2.1 ∈ gWS) (hr : (T f).1 = rf) (d : decode cc pc = .ok (.getfield idx, 3)) (kk : gU p l e R s m args below meth c nL Z Q k n ws (pc + 3) lv (v :: st)) : gU p l e R s m args below meth c nL Z Q k n ws pc lv (.ref h0 :: st) :=
  fun H locs ls hP hD hS hl0 => va_get hC.1 hC.2.1 hC.2.2.2.2.1 hin hC.2.2.2.1 hC.2.2.2.2.2.1 hP pl hat hc f hf (hC.2.2.2.2.1 _ hlk) (fun x hx => hr ▸ hx) hv d (kk H locs ls hP hD hS hl0)
theorem u_iast (hC : gD p s m args c cc nL own Z) (pl : Nat) {q N : Nat} {f : Nat → Int32} {i x : Int32} {ws1 : va_W} (hat : ws[pl]? = some (q, .inl (Z.2.2.1.1, N, .inl f))) (hin : vp_in i N) (hws : ws.set pl (q, .inl (Z.2.2.1.1, N, .inl (upd f i.toNatClampNeg x))) = ws1) (d : decode cc pc = .ok (.iastore, 1)) (kk : gU p l e R s m args below meth c nL Z Q k n ws1 (pc + 1) lv st) : gU p l e R s m args below meth c nL Z Q k n ws pc lv (.int x :: .int i :: .ref q :: st) := by
  intro H locs ls hP hD hS hl0
  refine va_iast hC.1 hC.2.1 hC.2.2.2.2.2.1 hP hD hS pl 0 hat rfl hin d (fun H1 locs1 hP1 hD1 hS1 => ?_)
  rw [hws] at hP1 hD1
  exact kk H1 locs1 ls hP1 hD1 hS1 hl0
theorem u_zast (hC : gD p s m args c cc nL own Z) (pl : Nat) {q N : Nat} {f : Nat → Int32} {i x : Int32} {ws1 : va_W} (hat : ws[pl]? = some (q, .inl (Z.2.2.1.2.1, N, .inl f))) (hin : vp_in i N) (hx : vp_nar .boolean x = x) (hws : ws.set pl (q, .inl (Z.2.2.1.2.1, N, .inl (upd f i.toNatClampNeg x))) = ws1) (d : decode cc pc = .ok (.bastore, 1)) (kk : gU p l e R s m args below meth c nL Z Q k n ws1 (pc + 1) lv st) : gU p l e R s m args below meth c nL Z Q k n ws pc lv (.int x :: .int i :: .ref q :: st) := by
  intro H locs ls hP hD hS hl0
  refine va_zast hC.1 hC.2.1 hC.2.2.2.2.2.1 hP hD hS pl 1 hat rfl hin d (fun H1 locs1 hP1 hD1 hS1 => ?_)
  rw [hx, hws] at hP1 hD1
  exact kk H1 locs1 ls hP1 hD1 hS1 hl0
theorem u_vret (hC : gD p s m args c cc nL own Z) {mc ms : Nat} {outw : (Nat → Nat → Nat) → va_W} (a : Nat → Nat → Nat) (hlocks : meth.locks = false) (hr : meth.sig.returnType = none) (hk : k ≤ mc) (hn : n ≤ ms) (hws : ws = outw a) (d : decode cc pc = .ok (.return_, 1)) : gU p l e R s m args below meth c nL Z (MQ below (va_Qv (fun _ : Nat → Nat → Nat => True) (fun a t => gWu Z (outw a) t) (zA Z)) args s mc ms (zA Z)) k n ws pc lv [] := by
  intro H locs ls hP hD hS hl0
  refine W.widen hk hn (W.vret hC.1 hC.2.1 hr (fun t ht hW => ?_) hS.2.2 d)
  rw [hws] at hP hD
  exact ⟨⟨a, rfl, trivial, ⟨by rw [ht]; exact hP, va_K.moved hW.alike hC.2.2.2.2.2.1, hD⟩⟩, hS.F ht⟩
theorem gBlindU {As : List Value} : FrameBlind (va_Pc As (fun U => gWu Z ws U ∧ gG Z U ∧ gH Z U)) := fun a U g mk ⟨h1, ⟨hP, hK, hD⟩, hg, hh⟩ => ⟨h1, ⟨hP, va_K.moved (u := U) (U := U.calling g mk a) (Vm.Alike.refl U.vm) hK, hD⟩, gG_call hg, gH_warm (U := U.calling g mk a) (State.WarmedH.refl U) hh va_S.rf rfl⟩
theorem u_callI (hC : gD p s m args c cc nL own Z) {idx maxL mcY msY h0 : Nat} {y : MethodName} {bytes : ByteArray} {rm : Room} {outw : (Nat → Nat → Nat) → va_W} (hH : gH Z s) (hM : gMetU l y bytes maxL rm mcY msY Z ws h0 outw) (h1 : Cond.methodLink own idx y ∈ gWS) (h2 : Cond.instanceMethod y ∈ gWS) (h4 : Cond.initialized y.cls ∈ gWS) (h5 : Cond.code y bytes maxL none ∈ gWS) (hy : y.name = "<init>") (hd : y.cls ≠ "java/lang/invoke/MethodHandle" ∧ y.cls ≠ "java/lang/invoke/VarHandle" ∧ (parseMethodDescriptor y.desc).map (fun d => d.parameters.length) = some 0) (hrc : rm.cells = mcY) (hrs : rm.slots = msY) (hR : rm.frames + 1 ≤ R.frames ∧ 8 + (maxL + 11) + rm.locals ≤ R.locals) (hcat : (st.map fun v => v.category).sum ≤ 8) (hf1 : k + mcY ≤ R.cells) (hf2 : n + msY ≤ R.slots) (d : decode cc pc = .ok (.invokespecial idx, 3)) (kk : ∀ a : Nat → Nat → Nat, gU p l e R s m args below meth c nL Z Q (k + mcY) (n + msY) (outw a) (pc + 3) lv st) : gU p l e R s m args below meth c nL Z Q k n ws pc lv (.ref h0 :: st) := by
  intro H locs ls hP hD hS hl0
  refine va_callv (A0 := zA Z) (A1 := zA Z) (va_runI (As := []) (rest := st) ⟨hC.1, hC.2.1, hC.2.2.1, hC.2.2.2.1, hC.2.2.2.2.1⟩ hM (cwI 0 hC.2.2.2.2.1 (fun w hw => ?_) rfl hrc hrs (hC.2.2.2.2.1 _ h4) (hC.2.2.2.2.1 _ h1) (hC.2.2.2.2.1 _ h2) hy hd hR) ⟨gBlindU, fun U hU hW => ⟨rfl, ⟨by rw [hU]; exact hP, va_K.moved hW.alike hC.2.2.2.2.2.1, hD⟩, gG_move hC.2.2.2.2.2.2 hS hU hW, gH_warm hW hH hS hU⟩⟩ rfl rfl hl0.1 rfl (lv_room hcat) d ⟨hf1, hf2⟩) hS (fun q _ h => h) (fun q h => h) (fun a t H1 locs1 ht hv hp hB hz hk1 hS1 => ?_)
  · rcases List.mem_cons.mp hw with h | h
    · rw [h]; exact gGood h5
    · exact gGood h
  · obtain ⟨hP1, hK1, hD1⟩ := hB
    rw [ht] at hP1
    exact kk a H1 locs1 ls hP1 hD1 hS1 hl0
theorem u_callIN (hC : gD p s m args c cc nL own Z) {idx maxL mcY msY h0 : Nat} {y : MethodName} {host : String} {bytes : ByteArray} {rm : Room} {outw : (Nat → Nat → Nat) → va_W} (hH : gH Z s) (hM : gMetU l y bytes maxL rm mcY msY Z ws h0 outw) (h1 : va_Nw (.methodLinkNest own idx y host) s) (h2 : Cond.instanceMethod y ∈ gWS) (h4 : Cond.initialized y.cls ∈ gWS) (h5 : Cond.code y bytes maxL none ∈ gWS) (hy : y.name = "<init>") (hd : y.cls ≠ "java/lang/invoke/MethodHandle" ∧ y.cls ≠ "java/lang/invoke/VarHandle" ∧ (parseMethodDescriptor y.desc).map (fun d => d.parameters.length) = some 0) (hrc : rm.cells = mcY) (hrs : rm.slots = msY) (hR : rm.frames + 1 ≤ R.frames ∧ 8 + (maxL + 11) + rm.locals ≤ R.locals) (hcat : (st.map fun v => v.category).sum ≤ 8) (hf1 : k + mcY ≤ R.cells) (hf2 : n + msY ≤ R.slots) (d : decode cc pc = .ok (.invokespecial idx, 3)) (kk : ∀ a : Nat → Nat → Nat, gU p l e R s m args below meth c nL Z Q (k + mcY) (n + msY) (outw a) (pc + 3) lv st) : gU p l e R s m args below meth c nL Z Q k n ws pc lv (.ref h0 :: st) := by
  intro H locs ls hP hD hS hl0
  refine va_callv (A0 := zA Z) (A1 := zA Z) (va_runIN (As := []) (rest := st) ⟨hC.1, hC.2.1, hC.2.2.1, hC.2.2.2.1, hC.2.2.2.2.1⟩ hM ⟨va_cnB (ws' := gWS) 0 hC.2.2.2.2.1 (fun w hw => ?_) rfl hrc hrs h1 (hC.2.2.2.2.1 _ h4) hd hR, hy, hC.2.2.2.2.1 _ h2⟩ ⟨gBlindU, fun U hU hW => ⟨rfl, ⟨by rw [hU]; exact hP, va_K.moved hW.alike hC.2.2.2.2.2.1, hD⟩, gG_move hC.2.2.2.2.2.2 hS hU hW, gH_warm hW hH hS hU⟩⟩ rfl rfl hl0.1 rfl (lv_room hcat) d ⟨hf1, hf2⟩) hS (fun q _ h => h) (fun q h => h) (fun a t H1 locs1 ht hv hp hB hz hk1 hS1 => ?_)
  · rcases List.mem_cons.mp hw with h | h
    · rw [h]; exact gGood h5
    · exact gGood h
  · obtain ⟨hP1, hK1, hD1⟩ := hB
    rw [ht] at hP1
    exact kk a H1 locs1 ls hP1 hD1 hS1 hl0
theorem u_frd (hC : gD p s m args c cc nL own Z) {i1 i2 i3 : Nat} (hH : gH Z s) (hml : c.maxLocals = nL) (ho : own = RX0) (e1 : i1 = 18) (h2 : Cond.methodLink own i2 ⟨"[I", "clone", "()Ljava/lang/Object;"⟩ ∈ gWS) (h3 : Cond.sameMethod "[I" "java/lang/Object" "clone" "()Ljava/lang/Object;" ∈ gWS) (h4 : Cond.native ⟨"java/lang/Object", "clone", "()Ljava/lang/Object;"⟩ ∈ gWS) (h5 : Cond.instanceMethod ⟨"java/lang/Object", "clone", "()Ljava/lang/Object;"⟩ ∈ gWS) (h6 : Cond.selects "[I" ⟨"[I", "clone", "()Ljava/lang/Object;"⟩ ⟨"java/lang/Object", "clone", "()Ljava/lang/Object;"⟩ ∈ gWS) (h7 : Cond.classLink own i3 "[I" ∈ gWS) (hf : 1 ≤ R.frames) (hlo : 22 ≤ R.locals) (hcat : (st.map fun v => v.category).sum ≤ 8) (hk : k + 1 ≤ R.cells) (hs : n + 5 ≤ R.slots) (d1 : decode cc pc = .ok (.getstatic i1, 3)) (d2 : decode cc (pc + 3) = .ok (.invokevirtual i2, 3)) (d3 : decode cc (pc + 6) = .ok (.checkcast i3, 3)) (kk : ∀ q : Nat, gU p l e R s m args below meth c nL Z Q (k + 1) (n + 5) (ws ++ [(q, .inl (Z.2.2.1.1, 5, .inl frd))]) (pc + 9) lv (.ref q :: st)) : gU p l e R s m args below meth c nL Z Q k n ws pc lv st := by
  intro H locs ls hP hD hS hl0
  subst ho
  subst e1
  obtain ⟨t, cell, z1, z2, z3, z4, z5, z6, z7⟩ := hH.2.2
  refine va_getsN hC.1 hC.2.1 z1 hS hC.2.2.2.1 (va_Nw.use rfl (hH.2.1 (.fieldLinkNest RX0 18 RX8 "FIRST_RULE_DAYS" "[I" RX8) (by decide +kernel))) (fun x hx => hx) d1 ?_
  obtain ⟨c0, t0, f1, f2, f3⟩ := Cond.castable_spec (va_Nw.use (A := args) rfl (hH.2.1 (.castable "[I" "java/lang/Cloneable") (by decide +kernel)))
  have hcH : H[t]? = some cell := (hS.2.1 t (Array.getElem?_eq_some_iff.mp z2).1 z3).trans z2
  have e2 : s.vm.findClass "[I" = some Z.2.2.1.1 := (hC.2.2.2.2.2.1.2 0 _ rfl).2
  have e3 : cell.cls = Z.2.2.1.1 := Option.some.inj (z7.symm.trans e2)
  have e4 : c0 = Z.2.2.1.1 := Option.some.inj (f1.symm.trans e2)
  subst e4
  intro T hT X
  have hcellT : T.heap[t]? = some cell := by rw [hT]; exact hcH
  obtain ⟨-, kA, hkA, comp, hkind⟩ := State.isArrayOf_alike X.warmed.alike ((hC.2.2.2.2.2.1.2 0 _ rfl).1 0 (fun _ => .int 0))
  obtain ⟨-, kS, hkS, compS, hkindS⟩ := (hC.2.2.2.2.2.1.2 0 _ rfl).1 0 (fun _ => .int 0)
  have hsz : cell.slots.size = 5 := by rw [z4]; exact arrV_size _ _ _
  have hcellE : ({ cls := cell.cls, slots := cell.slots } : Cell) = vp_cell Z.2.2.1.1 (5, .inl frd) := by rw [e3, z4]; rfl
  obtain ⟨vm', X', st9⟩ := X.cloneArray hC.1 hC.2.2.2.1 (hC.2.2.2.2.1 _ h2) (hC.2.2.2.2.1 _ h3) (hC.2.2.2.2.1 _ h4) (hC.2.2.2.2.1 _ h5) (hC.2.2.2.2.1 _ h6) (a := t) (cell := cell) hcellT (fun k h => z6 k h) z5 z7 f2 (by rw [e3]; exact f3)
    (fun i v hv => by
      rw [e3]
      have hk' : T.vm.classes[Z.2.2.1.1]? = some kA := hkA
      have hv2 : fits .int v = true := by
        rw [z4] at hv
        by_cases hi : i < 5
        · rw [arrV_read _ _ hi] at hv
          cases hv
          rfl
        · have : (arrV 0 5 (fun j => .int (frd j))).slots[i]? = none := Array.getElem?_eq_none (by rw [arrV_size]; omega)
          rw [this] at hv
          cases hv
      simpa [State.fitsSlot, State.slotType?, hk', hkind] using hv2)
    (g := F0 m (pc + 3) ls (.ref t :: st)) rfl (by rw [hml]; exact hl0.1) rfl (by rw [hC.2.1]; exact d2) hf (by show 2 * 0 + _ + 14 ≤ _; omega) hk (by rw [hsz]; exact hs) (hloader := by rw [e3]; exact Vm.clonesLoader_of_array hkS hkindS)
  rw [hcellE, hsz] at X'
  generalize hH1 : H.push (vp_cell Z.2.2.1.1 (5, .inl frd)) = H1
  have y1 : H1.size = H.size + 1 := by rw [← hH1, Array.size_push]
  have y2 : H1[H.size]? = some (vp_cell Z.2.2.1.1 (5, .inl frd)) := by rw [← hH1, Array.getElem?_push_size]
  have y3 : ∀ q : Nat, q < H.size → H1[q]? = H[q]? := fun q hq => by rw [← hH1, Array.getElem?_push, if_neg (Nat.ne_of_lt hq)]
  have hkp : ∀ (k : Nat) (y : Nat × va_E), ws[k]? = some y → H1[y.1]? = H[y.1]? := fun k y hy => y3 y.1 ((hP k y hy).lt)
  have hP1 : va_P (zD Z) vwCl (ws ++ [(H.size, .inl (Z.2.2.1.1, 5, .inl frd))]) H1 := (hP.kept hkp).app (fun k y hy => by
      have hz : k < 1 := (List.getElem?_eq_some_iff.mp hy).1
      rw [show k = 0 by omega] at hy
      cases hy
      exact y2)
  have hD1 : va_D (zA Z) (ws ++ [(H.size, .inl (Z.2.2.1.1, 5, .inl frd))]) := hD.push hP rfl (Nat.le_trans hC.2.2.2.2.2.2.1 hS.1)
  have hS1 : va_S (zA Z) s.heap H1 locs := ⟨Nat.le_trans hS.1 (by omega), fun y h1 h2 => (y3 y (Nat.lt_of_lt_of_le h1 hS.1)).trans (hS.2.1 y h1 h2), hS.2.2⟩
  obtain ⟨t9, b1, b2⟩ := va_castA (q0 := ws.length) (Q := Q) hC.1 hC.2.1 hC.2.2.2.1 (hC.2.2.2.2.1 _ h7) hP1 (x := (5, .inl frd)) (by rw [List.getElem?_append_right (Nat.le_refl _), Nat.sub_self]; rfl) e2 d3 (kk H.size H1 locs ls hP1 hD1 hS1 hl0)
    ((T.setVm vm').pushCell (vp_cell Z.2.2.1.1 (5, .inl frd))) (by rw [← hH1, ← hT]; rfl) X'
  refine ⟨t9, st9 t9 ?_, b2⟩
  rw [hcellE, hT]
  exact b1
end GU
theorem u_enter {l : Launch} {y : MethodName} {cc : ByteArray} {maxL : Nat} {rm : Room} {mc ms : Nat} {Z : gZ} {ws : va_W} {h0 : Nat} {outw : (Nat → Nat → Nat) → va_W} (hy : plainName y.cls = true) (hA : 1 ≤ maxL)
    (body : ∀ (p : Program) (e : Env) (s : State) (m : MethodId) (args : Array Value) (below : List Frame) (meth : Method) (c : Code), gD p s m args c cc maxL y.cls Z → meth.locks = false → meth.sig.returnType = none → meth.name = y.name → gH Z s → gU p l e rm s m args below meth c maxL Z (MQ below (va_Qv (fun _ : Nat → Nat → Nat => True) (fun a t => gWu Z (outw a) t) (zA Z)) args s mc ms (zA Z)) 0 0 ws 0 [(0, .ref h0)] []) : gMetU l y cc maxL rm mc ms Z ws h0 outw := by
  refine Met.ofW (cc := cc) (maxL := maxL) (ret := none) hy rfl ?_
  intro p e s m args below meth c s₁ B hml hPc
  obtain ⟨rfl, ⟨hP, hK, hD⟩, hg, hh⟩ := hPc
  have hts := atoms_spec (ws := .code y cc maxL none :: gWS) B.pre
  have hl := lv_entry [.ref h0] (n := maxL) hA
  rw [lg_entry_eq]
  exact body p e s m _ below meth c ⟨B.exec, B.bytes, hml, findClass_of_methodNamed B.named, fun w hw => hts w (List.mem_cons_of_mem _ hw), hK, hg⟩ B.notSynchronized B.returns (name_of_methodNamed B.named B.method).1 hh s.heap [] _ hP hD va_S.rf hl
