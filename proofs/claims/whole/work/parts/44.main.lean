/-! THE CLAIM OUT OF ONE WALK OF THE LAW'S BODY (the skeleton's). -/
def R_law : String := "CourtdocketLaw"
def lw_P (b : Addr) (xs : List Int32) (args : Array Value) (s : State) : Prop := args = #[.ref b] ∧ s.IntsAt b xs ∧ xs.length ≤ 2560 ∧ (Jvm.Cond.and given_1 narrow_1).before args s = true
def lw_Q (_ : Array Value) (s : State) (o : Outcome) (t : State) : Prop := o = .returned (some (.int 1)) ∧ Framed s o t [] 601024 7293034
def lw_Z (below : List Frame) (a : Array Value) (s : State) : State → Prop := fun t => ∃ o, t.status = .running ∧ Ended t below o ∧ lw_Q a s o t
/-- the law's own end, with 1 on the stack, nothing written that was there before, its room as the claim has it -/
theorem lw_ret {p : Program} {l : Launch} {e : Env} {s : State} {m : MethodId} {below : List Frame} {meth : Method} {c : Code} {b : Nat} (hx : p.tables.exec = Jvm.exec) (hb : c.code = code) (hr : meth.sig.returnType = ret) (hlocks : meth.locks = false) {pc : Nat} {H : Heap} {ls : Array Slot} (hdg : decode code pc = .ok (.ireturn, 1)) : W p l e room_1 s m #[Value.ref b] below meth c H [] 601024 7293034 (lw_Z below #[Value.ref b] s) (F0 m pc ls [.int 1]) := by
  intro T hT X
  obtain ⟨fs, hret, hrun, hended, hW, hframe⟩ := X.leave (v := some (.int 1)) (hlocks := hlocks) (fun h => by rw [hr] at h; cases h)
  have hmeth' : T.vm.method? m = some meth := X.method'
  refine ⟨T.setFrames fs, ?_, .returned (some (.int 1)), hrun, hended, rfl, ⟨_, rfl⟩, hW, hframe⟩
  jvm_step X.here [X.here.top, hx, hb, hdg, hmeth', hr, ret, narrow_b1]
  (try refine ⟨rfl, ?_⟩); (try refine ⟨rfl, ?_⟩)
  first | (intro acts; rw [hret _ acts rfl rfl rfl]) | rw [hret _ _ rfl rfl rfl]
  exact Steps.refl _
/-- what holds at the law's entry: the machine, the code, the tables' words (any of lw_tbl by 'hts w (by decide +kernel)'), the script of L ints xs at the cell b, what the Statement gives of the start (any of its parts by flat_of_before) -/
def lw_At (p : Program) (s : State) (m : MethodId) (meth : Method) (c : Code) (b L : Nat) (xs : Nat → Int32) : Prop :=
  p.tables.exec = Jvm.exec ∧ c.code = code ∧ meth.sig.returnType = ret ∧ c.maxLocals = 7 ∧ s.vm.findClass R_law = some m.cls ∧ (∀ w ∈ lw_tbl, w.before #[Value.ref b] s = true) ∧ va_X b L xs s s.heap ∧ b < s.heap.size ∧ meth.locks = false ∧ (Jvm.Cond.and given_1 narrow_1).before #[Value.ref b] s = true
theorem fl_no {l : Launch} (h : l.flags = flags0) : l.stackTraces = false := by
  unfold Launch.stackTraces
  rw [h]
  decide +kernel
theorem dv_X8 : ∀ j, j < 8 → defaultValue (tyX8 j) = vp_V [.null, .null, .null, .null, .null, .null, .null, .null] j
  | 0, _ => rfl
  | 1, _ => rfl
  | 2, _ => rfl
  | 3, _ => rfl
  | 4, _ => rfl
  | 5, _ => rfl
  | 6, _ => rfl
  | 7, _ => rfl
  | n + 8, h => absurd h (by omega)
set_option maxRecDepth 20000 in
set_option maxHeartbeats 8000000 in
theorem whole_main {Inv : Nat → gM → Prop} (hinv0 : Inv 0 M0) (hmono : ∀ n M, n < 512 → Inv n M → Inv (n + 1) M) (st_pass : St_pass Inv) (st_holiday : St_holiday Inv) (st_setRule : St_setRule Inv) (st_open : St_open Inv) (st_join : St_join Inv) (st_lead : St_lead Inv) (st_claim : St_claim Inv) (st_sever : St_sever Inv) (st_serve : St_serve Inv) (st_answer : St_answer Inv) (st_motion : St_motion Inv) (st_respond : St_respond Inv) (st_ruling : St_ruling Inv) (st_judge : St_judge Inv) (st_vacate : St_vacate Inv) (st_appeal : St_appeal Inv) (st_decide : St_decide Inv) (st_settle : St_settle Inv) (st_pay : St_pay Inv) (st_stay : St_stay Inv) (st_defect : St_defect Inv) (st_cure : St_cure Inv) (st_extend : St_extend Inv) (st_hearing : St_hearing Inv) (st_continueHearing : St_continueHearing Inv) (st_strike : St_strike Inv) (st_dismiss : St_dismiss Inv) (st_seat : St_seat Inv) (st_exhibit : St_exhibit Inv) (st_hand : St_hand Inv) (st_object : St_object Inv) (st_sustain : St_sustain Inv) (st_isAdmitted : St_isAdmitted Inv) (st_seal : St_seal Inv) (st_maySee : St_maySee Inv) (st_certify : St_certify Inv) (st_member : St_member Inv) (st_share : St_share Inv) (st_today : St_today Inv) (st_entries : St_entries Inv) (st_entryAt : St_entryAt Inv) (st_counts : St_counts Inv) (st_stateOf : St_stateOf Inv) (st_stateByDocket : St_stateByDocket Inv) (st_amountOf : St_amountOf Inv) (st_balance : St_balance Inv) (st_caseOf : St_caseOf Inv) (st_isAnswered : St_isAnswered Inv) (st_due : St_due Inv) (st_dueByDays : St_dueByDays Inv) (st_hearingAt : St_hearingAt Inv) {p : Program} {e : Env} {s : State} {m : MethodId} {below : List Frame} {meth : Method} {c : Code} (l : Launch) (hflags : l.flags = flags0) {b L : Nat} {xs : Nat → Int32} (hL : L ≤ 2560) (C0 : lw_At p s m meth c b L xs) : W p l e room_1 s m #[Value.ref b] below meth c s.heap [] 0 0 (lw_Z below #[Value.ref b] s) (entryFrame m ([Value.ref b] : List Value).toArray 7) := by
  obtain ⟨hx, hb, hr, hml, hown, hts, hX, hbl, hlocks, hgv⟩ := C0
  have hfl := fl_no hflags
  obtain ⟨Z, hZ1, hK, hG, hH, hNc⟩ := st_world hts hgv
  have hC : gD p s m #[Value.ref b] c cL_law 7 RL Z := ⟨hx, hb, hml, hown, fun w hw => hts w (List.mem_filter.mp hw).1, hK, hG⟩
  have hbA : ¬ zA Z b := by
    show ¬ (Z.1 ≤ b)
    omega
  have hl := lv_entry [.ref b] (n := 7) (Nat.le_of_ble_eq_true rfl)
  rw [lg_entry_eq]
  have K : gU p l e room_1 s m #[Value.ref b] below meth c 7 Z (lw_Z below #[Value.ref b] s) 0 0 [] 0 [(0, .ref b)] [] := by
    refine u_new hC 8 tyX8 rfl inX8 tyX8_ok (gIx 93 (by decide +kernel) rfl) (gIx 94 (by decide +kernel) rfl) (gIx 75 (by decide +kernel) rfl) dv_X8 (Nat.le_of_ble_eq_true rfl) (Nat.le_of_ble_eq_true rfl) dL_law_0 (fun h0 => ?_)
    refine u_dup hC dL_law_3 rfl ?_
    refine u_callI hC hH (k_X8 l Z h0) (gIx 95 (by decide +kernel) rfl) (gIx 96 (by decide +kernel) rfl) (gIx 75 (by decide +kernel) rfl) (gIx 97 (by decide +kernel) rfl) rfl ⟨by decide, by decide, by decide +kernel⟩ rfl rfl ⟨by decide, by decide⟩ (Nat.le_of_ble_eq_true rfl) (Nat.le_of_ble_eq_true rfl) (Nat.le_of_ble_eq_true rfl) dL_law_4 (fun a => ?_)
    refine u_astore_n hC (lv1 := [(1, .ref h0), (0, .ref b)]) dL_law_7 rfl (by decide) rfl ?_
    refine u_new hC 9 tyX9 rfl inX9 tyX9_ok (gIx 1248 (by decide +kernel) rfl) (gIx 1249 (by decide +kernel) rfl) (gIx 84 (by decide +kernel) rfl) dv_X9 (Nat.le_of_ble_eq_true rfl) (Nat.le_of_ble_eq_true rfl) dL_law_8 (fun h9 => ?_)
    refine u_dup hC dL_law_11 rfl ?_
    refine u_callI hC hH (k_X9 l Z (((h0, .inr (8, [.ref (a 0 0), .ref (a 0 1), .ref (a 0 2), .ref (a 0 3), .ref (a 0 4), .ref (a 0 5), .ref (a 0 6), .ref (a 0 7)])) :: ((((((((([] : va_W) ++ blk_X0 Z (a 0 0) (fun g => a (10 * 1 + g))) ++ blk_X1 Z (a 0 1) (fun g => a (10 * 2 + g))) ++ blk_X2 Z (a 0 2) (fun g => a (10 * 3 + g))) ++ blk_X3 Z (a 0 3) (fun g => a (10 * 4 + g))) ++ blk_X5 Z (a 0 4) (fun g => a (10 * 5 + g))) ++ blk_X6 Z (a 0 5) (fun g => a (10 * 6 + g))) ++ blk_X4 Z (a 0 6) (fun g => a (10 * 7 + g))) ++ blk_X7 Z (a 0 7) (fun g => a (10 * 8 + g)))) ++ [(h9, .inr (9, [.int 0, .int 0, .int 0, .null, .null, .null, .int 0, .null, .null, .null, .null, .int 0, .null, .null, .null, .null, .null, .null, .null, .null, .null, .null, .null, .int 0, .null, .null, .null, .null, .null, .null, .null, .null, .null, .null, .null, .null, .null, .null, .null, .null, .null, .int 0, .null, .null, .null, .null, .null, .null, .int 0, .null, .null, .null]))]) ((((((((((([] : va_W) ++ blk_X0 Z (a 0 0) (fun g => a (10 * 1 + g))) ++ blk_X1 Z (a 0 1) (fun g => a (10 * 2 + g))) ++ blk_X2 Z (a 0 2) (fun g => a (10 * 3 + g))) ++ blk_X3 Z (a 0 3) (fun g => a (10 * 4 + g))) ++ blk_X5 Z (a 0 4) (fun g => a (10 * 5 + g))) ++ blk_X6 Z (a 0 5) (fun g => a (10 * 6 + g))) ++ blk_X4 Z (a 0 6) (fun g => a (10 * 7 + g))) ++ blk_X7 Z (a 0 7) (fun g => a (10 * 8 + g)))).length + 1) h9 u_last) (gIx 1250 (by decide +kernel) rfl) (gIx 1251 (by decide +kernel) rfl) (gIx 84 (by decide +kernel) rfl) (gIx 1252 (by decide +kernel) rfl) rfl ⟨by decide, by decide, by decide +kernel⟩ rfl rfl ⟨by decide, by decide⟩ (Nat.le_of_ble_eq_true rfl) (Nat.le_of_ble_eq_true rfl) (Nat.le_of_ble_eq_true rfl) dL_law_12 (fun b9 => ?_)
    refine u_wsE outb_X9 ?_
    refine u_astore_n hC (lv1 := [(2, .ref h9), (1, .ref h0), (0, .ref b)]) dL_law_15 rfl (by decide) rfl ?_
    refine u_iconst hC (v := 1) dL_law_16 (by decide) ?_
    refine u_newJ hC (N := 1) aw_J (by decide) rfl (Nat.le_of_ble_eq_true rfl) (Nat.le_of_ble_eq_true rfl) (Nat.le_of_ble_eq_true rfl) dL_law_17 (fun q10 => ?_)
    refine u_astore_n hC (lv1 := [(3, .ref q10), (2, .ref h9), (1, .ref h0), (0, .ref b)]) dL_law_19 rfl (by decide) rfl ?_
    refine u_iconst hC (v := 0) dL_law_20 (by decide) ?_
    refine u_istore hC (lv1 := [(4, .int 0), (3, .ref q10), (2, .ref h9), (1, .ref h0), (0, .ref b)]) dL_law_21 (by decide) rfl ?_
    refine u_wsE (ws1 := wsF Z h0 a h9 b9 q10) rfl ?_
    generalize hZZ : stZ Z (ad0 h0 a h9 b9 q10) = Z1
    have hC1 : gD p s m #[Value.ref b] c cL_law 7 RL Z1 := by
      subst hZZ
      exact ⟨hx, hb, hml, hown, fun w hw => hts w (List.mem_filter.mp hw).1, hK, hG⟩
    have hbA1 : ¬ zA Z1 b := by
      subst hZZ
      exact hbA
    have hend : ∀ (k : Nat) (M : gM) (i : Int32), k ≤ 40000 → gV p l e room_1 s m #[Value.ref b] below meth c 7 Z1 (lw_Z below #[Value.ref b] s) k M 3564 [(0, .ref b), (1, .ref (zad Z1 0)), (2, .ref (zad Z1 9)), (3, .ref (zad Z1 10)), (4, .int i)] [] := by
      intro k M i hk
      refine v_iconst hC1 (v := 1) dL_law_3564 (by decide) ?_
      intro H locs ls hP hD hS hl0
      refine va_forget (fun q hq => ?_) (W.widen (by omega) (by omega) (lw_ret hx hb hr hlocks dL_law_3565))
      have h5 : zA Z1 q.base := hS.2.2 q hq
      have h6 : Z.1 ≤ q.base := by
        subst hZZ
        exact h5
      omega
    have g := law_loop hfl hC1 hNc hX hbl hbA1 hL hmono st_pass st_holiday st_setRule st_open st_join st_lead st_claim st_sever st_serve st_answer st_motion st_respond st_ruling st_judge st_vacate st_appeal st_decide st_settle st_pay st_stay st_defect st_cure st_extend st_hearing st_continueHearing st_strike st_dismiss st_seat st_exhibit st_hand st_object st_sustain st_isAdmitted st_seal st_maySee st_certify st_member st_share st_today st_entries st_entryAt st_counts st_stateOf st_stateByDocket st_amountOf st_balance st_caseOf st_isAnswered st_due st_dueByDays st_hearingAt hend 512 0 rfl 30000 M0 (by omega) hinv0
    intro H locs ls hP hD hS hl0
    subst hZZ
    exact W.widen (Nat.le_of_ble_eq_true rfl) (Nat.le_of_ble_eq_true rfl) (g H locs ls (conv_P hP) (conv_D hD) hS (lv_sub hl0 [4, 3, 2, 1, 0] rfl))
  have nP : va_P (zD Z) vwCl [] s.heap := fun k q h => by cases h
  have nD : va_D (zA Z) [] := ⟨fun i j p q h => (by cases h), fun k q h => (by cases h)⟩
  exact K s.heap [] _ nP nD va_S.rf hl
