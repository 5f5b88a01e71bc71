/-! THE CLAIM OUT OF ONE WALK OF THE LAW'S BODY (the skeleton's). -/
def R_law : String := "CourtdocketLaw"
def lw_P (b : Addr) (xs : List Int32) (args : Array Value) (s : State) : Prop := args = #[.ref b] ∧ s.IntsAt b xs ∧ xs.length ≤ 260 ∧ (Jvm.Cond.and given_1 narrow_1).before args s = true
def lw_Q (_ : Array Value) (s : State) (o : Outcome) (t : State) : Prop := o = .returned (some (.int 1)) ∧ Framed s o t [] 600104 7301313
def lw_Z (below : List Frame) (a : Array Value) (s : State) : State → Prop := fun t => ∃ o, t.status = .running ∧ Ended t below o ∧ lw_Q a s o t
/-- the law's own end, with 1 on the stack, nothing written that was there before, its room as the claim has it -/
theorem lw_ret {p : Program} {l : Launch} {e : Env} {s : State} {m : MethodId} {below : List Frame} {meth : Method} {c : Code} {b : Nat} (hx : p.tables.exec = Jvm.exec) (hb : c.code = code) (hr : meth.sig.returnType = ret) (hlocks : meth.locks = false) {pc : Nat} {H : Heap} {ls : Array Slot} (hdg : decode code pc = .ok (.ireturn, 1)) : W p l e room_1 s m #[Value.ref b] below meth c H [] 600104 7301313 (lw_Z below #[Value.ref b] s) (F0 m pc ls [.int 1]) := by
  intro T hT X
  obtain ⟨fs, hret, hrun, hended, hW, hframe⟩ := X.leave (v := some (.int 1)) (hlocks := hlocks) (fun h => by rw [hr] at h; cases h)
  have hmeth' : T.vm.method? m = some meth := X.method'
  refine ⟨T.setFrames fs, ?_, .returned (some (.int 1)), hrun, hended, rfl, ⟨_, rfl⟩, hW, hframe⟩
  jvm_step X.here [X.here.top, hx, hb, hdg, hmeth', hr, ret, narrow_b1]
  (try refine ⟨rfl, ?_⟩); (try refine ⟨rfl, ?_⟩)
  first | (intro acts; rw [hret _ acts rfl rfl rfl]) | rw [hret _ _ rfl rfl rfl]
  exact Steps.refl _
/-- what holds at the law's entry: the machine, the code, the tables' words (any of lw_tbl by 'hts w (by decide +kernel)'), the script of L ints xs at the cell b, what the Statement gives of the start (any of its parts by flat_of_before) -/
def lw_At (p : Program) (s : State) (m : MethodId) (meth : Method) (c : Code) (b L : Nat) (xs : Nat → Int32) : Prop :=
  p.tables.exec = Jvm.exec ∧ c.code = code ∧ meth.sig.returnType = ret ∧ c.maxLocals = 14 ∧ s.vm.findClass R_law = some m.cls ∧ (∀ w ∈ lw_tbl, w.before #[Value.ref b] s = true) ∧ va_X b L xs s s.heap ∧ b < s.heap.size ∧ meth.locks = false ∧ (Jvm.Cond.and given_1 narrow_1).before #[Value.ref b] s = true
theorem fl_no {l : Launch} (h : l.flags = flags0) : l.stackTraces = false := by
  unfold Launch.stackTraces
  rw [h]
  decide +kernel
theorem dv_X8 : ∀ j, j < 8 → defaultValue (tyX8 j) = vp_V [.null, .null, .null, .null, .null, .null, .null, .null] j
  | 0, _ => rfl
  | 1, _ => rfl
  | 2, _ => rfl
  | 3, _ => rfl
  | 4, _ => rfl
  | 5, _ => rfl
  | 6, _ => rfl
  | 7, _ => rfl
  | n + 8, h => absurd h (by omega)
set_option maxRecDepth 20000 in
set_option maxHeartbeats 8000000 in
theorem whole_main {p : Program} {e : Env} {s : State} {m : MethodId} {below : List Frame} {meth : Method} {c : Code} (l : Launch) (hflags : l.flags = flags0) {b L : Nat} {xs : Nat → Int32} (hL : L ≤ 260) (hgood : (f_L_law (drw L xs) M0 0).1 ≠ 0) (C0 : lw_At p s m meth c b L xs) : W p l e room_1 s m #[Value.ref b] below meth c s.heap [] 0 0 (lw_Z below #[Value.ref b] s) (entryFrame m ([Value.ref b] : List Value).toArray 14) := by
  obtain ⟨hx, hb, hr, hml, hown, hts, hX, hbl, hlocks, hgv⟩ := C0
  have hfl := fl_no hflags
  obtain ⟨Z, hZ1, hK, hG, hH, hNc⟩ := st_world hts hgv
  have hC : gD p s m #[Value.ref b] c cL_law 14 RL Z := ⟨hx, hb, hml, hown, fun w hw => hts w (List.mem_filter.mp hw).1, hK, hG⟩
  have hbA : ¬ zA Z b := by
    show ¬ (Z.1 ≤ b)
    omega
  have hl := lv_entry [.ref b] (n := 14) (Nat.le_of_ble_eq_true rfl)
  rw [lg_entry_eq]
  have K : gU p l e room_1 s m #[Value.ref b] below meth c 14 Z (lw_Z below #[Value.ref b] s) 0 0 [] 0 [(0, .ref b)] [] := by
    refine u_new hC 8 tyX8 rfl inX8 tyX8_ok (gIx 53 (by decide +kernel) rfl) (gIx 54 (by decide +kernel) rfl) (gIx 36 (by decide +kernel) rfl) dv_X8 (Nat.le_of_ble_eq_true rfl) (Nat.le_of_ble_eq_true rfl) dL_law_0 (fun h0 => ?_)
    refine u_dup hC dL_law_3 rfl ?_
    refine u_callI hC hH (k_X8 l Z h0) (gIx 55 (by decide +kernel) rfl) (gIx 56 (by decide +kernel) rfl) (gIx 36 (by decide +kernel) rfl) (gIx 57 (by decide +kernel) rfl) rfl ⟨by decide, by decide, by decide +kernel⟩ rfl rfl ⟨by decide, by decide⟩ (Nat.le_of_ble_eq_true rfl) (Nat.le_of_ble_eq_true rfl) (Nat.le_of_ble_eq_true rfl) dL_law_4 (fun a => ?_)
    refine u_astore_n hC (lv1 := [(1, .ref h0), (0, .ref b)]) dL_law_7 rfl (by decide) rfl ?_
    refine u_bipush hC (v := 24) dL_law_8 (by decide) ?_
    refine u_newI hC (N := 24) aw_I (by decide) rfl (Nat.le_of_ble_eq_true rfl) (Nat.le_of_ble_eq_true rfl) (Nat.le_of_ble_eq_true rfl) dL_law_10 (fun q9 => ?_)
    refine u_astore_n hC (lv1 := [(2, .ref q9), (1, .ref h0), (0, .ref b)]) dL_law_12 rfl (by decide) rfl ?_
    refine u_iconst hC (v := 0) dL_law_13 (by decide) ?_
    refine u_istore_n hC (lv1 := [(3, .int 0), (2, .ref q9), (1, .ref h0), (0, .ref b)]) dL_law_14 rfl (by decide) rfl ?_
    refine u_wsE (ws1 := wsF Z h0 a q9) rfl ?_
    generalize hZZ : stZ Z (ad0 h0 a q9) = Z1
    have hC1 : gD p s m #[Value.ref b] c cL_law 14 RL Z1 := by
      subst hZZ
      exact ⟨hx, hb, hml, hown, fun w hw => hts w (List.mem_filter.mp hw).1, hK, hG⟩
    have hbA1 : ¬ zA Z1 b := by
      subst hZZ
      exact hbA
    have hend : ∀ (k : Nat) (M : gM) (lv : List (Nat × Value)), k ≤ 33146 → gV p l e room_1 s m #[Value.ref b] below meth c 14 Z1 (lw_Z below #[Value.ref b] s) k M 930 lv [.int 1] := by
      intro k M lv hk
      intro H locs ls hP hD hS hl0
      refine va_forget (fun q hq => ?_) (W.widen (by omega) (by omega) (lw_ret hx hb hr hlocks dL_law_930))
      have h5 : zA Z1 q.base := hS.2.2 q hq
      have h6 : Z.1 ≤ q.base := by
        subst hZZ
        exact h5
      omega
    have g := c_L_law hfl hC1 hNc hL hX hbl hbA1 (fun _ => rfl) hend M0 0 hgood
    intro H locs ls hP hD hS hl0
    subst hZZ
    exact W.widen (Nat.le_of_ble_eq_true rfl) (Nat.le_of_ble_eq_true rfl) (g H locs ls (conv_P hP) (conv_D hD) hS hl0)
  have nP : va_P (zD Z) vwCl [] s.heap := fun k q h => by cases h
  have nD : va_D (zA Z) [] := ⟨fun i j p q h => (by cases h), fun k q h => (by cases h)⟩
  exact K s.heap [] _ nP nD va_S.rf hl
