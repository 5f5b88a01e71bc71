def St_pass (Inv : Nat → gM → Prop) : Prop := ∀ (n : Nat) (M : gM) (a1 : Int32), n < 512 → Inv n M → AgI (f_L_pass M a1) (fun M1 => f_X9_pass M1 a1) (Inv (n + 1))
def St_holiday (Inv : Nat → gM → Prop) : Prop := ∀ (n : Nat) (M : gM) (a1 : Int32), n < 512 → Inv n M → AgB (f_L_holiday M a1) (fun M1 => f_X9_holiday M1 a1) (Inv (n + 1))
def St_setRule (Inv : Nat → gM → Prop) : Prop := ∀ (n : Nat) (M : gM) (a1 : Int32) (a2 : Int32) (a3 : Int32), n < 512 → Inv n M → AgI (f_L_setRule M a1 a2 (gb a3)) (fun M1 => f_X9_setRule M1 a1 a2 (gb a3)) (Inv (n + 1))
def St_open (Inv : Nat → gM → Prop) : Prop := ∀ (n : Nat) (M : gM) (a1 : Int32), n < 512 → Inv n M → AgI (f_L_open M a1) (fun M1 => f_X9_open M1 a1) (Inv (n + 1))
def St_join (Inv : Nat → gM → Prop) : Prop := ∀ (n : Nat) (M : gM) (a1 : Int32) (a2 : Int32) (a3 : Int32), n < 512 → Inv n M → AgI (f_L_join M a1 a2 a3) (fun M1 => f_X9_join M1 a1 a2 a3) (Inv (n + 1))
def St_lead (Inv : Nat → gM → Prop) : Prop := ∀ (n : Nat) (M : gM) (a1 : Int32) (a2 : Int32), n < 512 → Inv n M → AgI (f_L_lead M a1 a2) (fun M1 => f_X9_lead M1 a1 a2) (Inv (n + 1))
def St_claim (Inv : Nat → gM → Prop) : Prop := ∀ (n : Nat) (M : gM) (a1 : Int32) (a2 : Int32) (a3 : Int32) (a4 : Int32), n < 512 → Inv n M → AgI (f_L_claim M a1 a2 a3 a4) (fun M1 => f_X9_claim M1 a1 a2 a3 a4) (Inv (n + 1))
def St_sever (Inv : Nat → gM → Prop) : Prop := ∀ (n : Nat) (M : gM) (a1 : Int32), n < 512 → Inv n M → AgI (f_L_sever M a1) (fun M1 => f_X9_sever M1 a1) (Inv (n + 1))
def St_serve (Inv : Nat → gM → Prop) : Prop := ∀ (n : Nat) (M : gM) (a1 : Int32) (a2 : Int32), n < 512 → Inv n M → AgI (f_L_serve M a1 a2) (fun M1 => f_X9_serve M1 a1 a2) (Inv (n + 1))
def St_answer (Inv : Nat → gM → Prop) : Prop := ∀ (n : Nat) (M : gM) (a1 : Int32), n < 512 → Inv n M → AgI (f_L_answer M a1) (fun M1 => f_X9_answer M1 a1) (Inv (n + 1))
def St_motion (Inv : Nat → gM → Prop) : Prop := ∀ (n : Nat) (M : gM) (a1 : Int32), n < 512 → Inv n M → AgI (f_L_motion M a1) (fun M1 => f_X9_motion M1 a1) (Inv (n + 1))
def St_respond (Inv : Nat → gM → Prop) : Prop := ∀ (n : Nat) (M : gM) (a1 : Int32), n < 512 → Inv n M → AgI (f_L_respond M a1) (fun M1 => f_X9_respond M1 a1) (Inv (n + 1))
def St_ruling (Inv : Nat → gM → Prop) : Prop := ∀ (n : Nat) (M : gM) (a1 : Int32) (a2 : Int32), n < 512 → Inv n M → AgI (f_L_ruling M a1 a2) (fun M1 => f_X9_ruling M1 a1 a2) (Inv (n + 1))
def St_judge (Inv : Nat → gM → Prop) : Prop := ∀ (n : Nat) (M : gM) (a1 : Int32) (a2 : Int32), n < 512 → Inv n M → AgI (f_L_judge M a1 a2) (fun M1 => f_X9_judge M1 a1 a2) (Inv (n + 1))
def St_vacate (Inv : Nat → gM → Prop) : Prop := ∀ (n : Nat) (M : gM) (a1 : Int32), n < 512 → Inv n M → AgI (f_L_vacate M a1) (fun M1 => f_X9_vacate M1 a1) (Inv (n + 1))
def St_appeal (Inv : Nat → gM → Prop) : Prop := ∀ (n : Nat) (M : gM) (a1 : Int32), n < 512 → Inv n M → AgI (f_L_appeal M a1) (fun M1 => f_X9_appeal M1 a1) (Inv (n + 1))
def St_decide (Inv : Nat → gM → Prop) : Prop := ∀ (n : Nat) (M : gM) (a1 : Int32) (a2 : Int32) (a3 : Int32), n < 512 → Inv n M → AgI (f_L_decide M a1 a2 a3) (fun M1 => f_X9_decide M1 a1 a2 a3) (Inv (n + 1))
def St_settle (Inv : Nat → gM → Prop) : Prop := ∀ (n : Nat) (M : gM) (a1 : Int32), n < 512 → Inv n M → AgI (f_L_settle M a1) (fun M1 => f_X9_settle M1 a1) (Inv (n + 1))
def St_pay (Inv : Nat → gM → Prop) : Prop := ∀ (n : Nat) (M : gM) (a1 : Int32) (a2 : Int32), n < 512 → Inv n M → AgI (f_L_pay M a1 a2) (fun M1 => f_X9_pay M1 a1 a2) (Inv (n + 1))
def St_stay (Inv : Nat → gM → Prop) : Prop := ∀ (n : Nat) (M : gM) (a1 : Int32) (a2 : Int32), n < 512 → Inv n M → AgI (f_L_stay M a1 (gb a2)) (fun M1 => f_X9_stay M1 a1 (gb a2)) (Inv (n + 1))
def St_defect (Inv : Nat → gM → Prop) : Prop := ∀ (n : Nat) (M : gM) (a1 : Int32), n < 512 → Inv n M → AgI (f_L_defect M a1) (fun M1 => f_X9_defect M1 a1) (Inv (n + 1))
def St_cure (Inv : Nat → gM → Prop) : Prop := ∀ (n : Nat) (M : gM) (a1 : Int32), n < 512 → Inv n M → AgB (f_L_cure M a1) (fun M1 => f_X9_cure M1 a1) (Inv (n + 1))
def St_extend (Inv : Nat → gM → Prop) : Prop := ∀ (n : Nat) (M : gM) (a1 : Int32) (a2 : Int32) (a3 : Int32), n < 512 → Inv n M → AgI (f_L_extend M a1 a2 a3) (fun M1 => f_X9_extend M1 a1 a2 a3) (Inv (n + 1))
def St_hearing (Inv : Nat → gM → Prop) : Prop := ∀ (n : Nat) (M : gM) (a1 : Int32) (a2 : Int32) (a3 : Int32), n < 512 → Inv n M → AgI (f_L_hearing M a1 a2 a3) (fun M1 => f_X9_hearing M1 a1 a2 a3) (Inv (n + 1))
def St_continueHearing (Inv : Nat → gM → Prop) : Prop := ∀ (n : Nat) (M : gM) (a1 : Int32), n < 512 → Inv n M → AgI (f_L_continueHearing M a1) (fun M1 => f_X9_continueHearing M1 a1) (Inv (n + 1))
def St_strike (Inv : Nat → gM → Prop) : Prop := ∀ (n : Nat) (M : gM) (a1 : Int32) (a2 : Int32) (a3 : Int32), n < 512 → Inv n M → AgI (f_L_strike M a1 a2 a3) (fun M1 => f_X9_strike M1 a1 a2 a3) (Inv (n + 1))
def St_dismiss (Inv : Nat → gM → Prop) : Prop := ∀ (n : Nat) (M : gM) (a1 : Int32) (a2 : Int32), n < 512 → Inv n M → AgI (f_L_dismiss M a1 a2) (fun M1 => f_X9_dismiss M1 a1 a2) (Inv (n + 1))
def St_seat (Inv : Nat → gM → Prop) : Prop := ∀ (n : Nat) (M : gM) (a1 : Int32) (a2 : Int32), n < 512 → Inv n M → AgI (f_L_seat M a1 a2) (fun M1 => f_X9_seat M1 a1 a2) (Inv (n + 1))
def St_exhibit (Inv : Nat → gM → Prop) : Prop := ∀ (n : Nat) (M : gM) (a1 : Int32) (a2 : Int32), n < 512 → Inv n M → AgI (f_L_exhibit M a1 a2) (fun M1 => f_X9_exhibit M1 a1 a2) (Inv (n + 1))
def St_hand (Inv : Nat → gM → Prop) : Prop := ∀ (n : Nat) (M : gM) (a1 : Int32) (a2 : Int32) (a3 : Int32), n < 512 → Inv n M → AgB (f_L_hand M a1 a2 a3) (fun M1 => f_X9_hand M1 a1 a2 a3) (Inv (n + 1))
def St_object (Inv : Nat → gM → Prop) : Prop := ∀ (n : Nat) (M : gM) (a1 : Int32) (a2 : Int32), n < 512 → Inv n M → AgV (f_L_object M a1 a2) (fun M1 => f_X9_object M1 a1 a2) (Inv (n + 1))
def St_sustain (Inv : Nat → gM → Prop) : Prop := ∀ (n : Nat) (M : gM) (a1 : Int32) (a2 : Int32) (a3 : Int32), n < 512 → Inv n M → AgV (f_L_sustain M a1 a2 (gb a3)) (fun M1 => f_X9_sustain M1 a1 a2 (gb a3)) (Inv (n + 1))
def St_isAdmitted (Inv : Nat → gM → Prop) : Prop := ∀ (n : Nat) (M : gM) (a1 : Int32), n < 512 → Inv n M → AgB (f_L_isAdmitted M a1) (fun M1 => f_X9_isAdmitted M1 a1) (Inv (n + 1))
def St_seal (Inv : Nat → gM → Prop) : Prop := ∀ (n : Nat) (M : gM) (a1 : Int32) (a2 : Int32), n < 512 → Inv n M → AgB (f_L_seal M a1 (gb a2)) (fun M1 => f_X9_seal M1 a1 (gb a2)) (Inv (n + 1))
def St_maySee (Inv : Nat → gM → Prop) : Prop := ∀ (n : Nat) (M : gM) (a1 : Int32) (a2 : Int32) (a3 : Int32), n < 512 → Inv n M → AgB (f_L_maySee M a1 a2 a3) (fun M1 => f_X9_maySee M1 a1 a2 a3) (Inv (n + 1))
def St_certify (Inv : Nat → gM → Prop) : Prop := ∀ (n : Nat) (M : gM) (a1 : Int32), n < 512 → Inv n M → AgV (f_L_certify M a1) (fun M1 => f_X9_certify M1 a1) (Inv (n + 1))
def St_member (Inv : Nat → gM → Prop) : Prop := ∀ (n : Nat) (M : gM) (a1 : Int32) (a2 : Int32) (a3 : Int32), n < 512 → Inv n M → AgI (f_L_member M a1 a2 (gb a3)) (fun M1 => f_X9_member M1 a1 a2 (gb a3)) (Inv (n + 1))
def St_share (Inv : Nat → gM → Prop) : Prop := ∀ (n : Nat) (M : gM) (a1 : Int32) (a2 : Int32), n < 512 → Inv n M → AgI (f_L_share M a1 a2) (fun M1 => f_X9_share M1 a1 a2) (Inv (n + 1))
def St_today (Inv : Nat → gM → Prop) : Prop := ∀ (n : Nat) (M : gM), n < 512 → Inv n M → AgT (f_X8_today M) (fun M1 => f_X9_today M1) (Inv (n + 1))
def St_entries (Inv : Nat → gM → Prop) : Prop := ∀ (n : Nat) (M : gM), n < 512 → Inv n M → AgT (f_X8_entries M) (fun M1 => f_X9_entries M1) (Inv (n + 1))
def St_entryAt (Inv : Nat → gM → Prop) : Prop := ∀ (n : Nat) (M : gM) (a1 : Int32) (a2 : Int32), n < 512 → Inv n M → AgI (f_L_entryAt M a1 a2) (fun M1 => f_X9_entryAt M1 a1 a2) (Inv (n + 1))
def St_counts (Inv : Nat → gM → Prop) : Prop := ∀ (n : Nat) (M : gM) (a1 : Int32), n < 512 → Inv n M → AgB (f_L_counts M a1) (fun M1 => f_X9_counts M1 a1) (Inv (n + 1))
def St_stateOf (Inv : Nat → gM → Prop) : Prop := ∀ (n : Nat) (M : gM) (a1 : Int32), n < 512 → Inv n M → AgI (f_L_stateOf M a1) (fun M1 => f_X9_stateOf M1 a1) (Inv (n + 1))
def St_stateByDocket (Inv : Nat → gM → Prop) : Prop := ∀ (n : Nat) (M : gM) (a1 : Int32), n < 512 → Inv n M → AgI (f_L_stateByDocket M a1) (fun M1 => f_X9_stateByDocket M1 a1) (Inv (n + 1))
def St_amountOf (Inv : Nat → gM → Prop) : Prop := ∀ (n : Nat) (M : gM) (a1 : Int32), n < 512 → Inv n M → AgI (f_L_amountOf M a1) (fun M1 => f_X9_amountOf M1 a1) (Inv (n + 1))
def St_balance (Inv : Nat → gM → Prop) : Prop := ∀ (n : Nat) (M : gM) (a1 : Int32), n < 512 → Inv n M → AgI (f_L_balance M a1) (fun M1 => f_X9_balance M1 a1) (Inv (n + 1))
def St_caseOf (Inv : Nat → gM → Prop) : Prop := ∀ (n : Nat) (M : gM) (a1 : Int32), n < 512 → Inv n M → AgI (f_L_caseOf M a1) (fun M1 => f_X9_caseOf M1 a1) (Inv (n + 1))
def St_isAnswered (Inv : Nat → gM → Prop) : Prop := ∀ (n : Nat) (M : gM) (a1 : Int32), n < 512 → Inv n M → AgB (f_L_isAnswered M a1) (fun M1 => f_X9_isAnswered M1 a1) (Inv (n + 1))
def St_due (Inv : Nat → gM → Prop) : Prop := ∀ (n : Nat) (M : gM) (a1 : Int32) (a2 : Int32), n < 512 → Inv n M → AgI (f_L_due M a1 a2) (fun M1 => f_X9_due M1 a1 a2) (Inv (n + 1))
def St_dueByDays (Inv : Nat → gM → Prop) : Prop := ∀ (n : Nat) (M : gM) (a1 : Int32) (a2 : Int32), n < 512 → Inv n M → AgI (f_L_dueByDays M a1 a2) (fun M1 => f_X9_dueByDays M1 a1 a2) (Inv (n + 1))
def St_hearingAt (Inv : Nat → gM → Prop) : Prop := ∀ (n : Nat) (M : gM) (a1 : Int32), n < 512 → Inv n M → AgI (f_L_hearingAt M a1) (fun M1 => f_X9_hearingAt M1 a1) (Inv (n + 1))
theorem len5 {L n : Nat} (hL : L ≤ 2560) (hn : n ≤ 512) (h : ¬ (Int32.ofNat L - 5 : Int32) < nI (5 * n)) : 5 * n + 5 ≤ L := by
  have h1 : (Int32.ofNat L - 5 : Int32).toInt = (L : Int) - 5 := by
    rw [Int32.toInt_sub, show (Int32.ofNat L).toInt = (L : Int) from nI_toInt (n := L) (by omega), show (5 : Int32).toInt = 5 from by decide]
    exact Int.bmod_eq_of_le (by omega) (by omega)
  rw [Int32.lt_iff_toInt_lt, h1, nI_toInt (by omega)] at h
  omega
set_option maxHeartbeats 8000000 in
/-- one call: from the loop's head to its foot -/
theorem law_step {p : Program} {l : Launch} {e : Env} {s : State} {m : MethodId} {args : Array Value} {below : List Frame} {meth : Method} {c : Code} {Z : gZ} {Q : State → Prop} (hfl : l.stackTraces = false) (hC : gD p s m args c cL_law 7 RL Z) (hNc : gNc s) {b L : Nat} {xs : Nat → Int32} (hX : va_X b L xs s s.heap) (hbl : b < s.heap.size) (hbA : ¬ zA Z b) (hL : L ≤ 2560) {Inv : Nat → gM → Prop} (hmono : ∀ n M, n < 512 → Inv n M → Inv (n + 1) M) (st_pass : St_pass Inv) (st_holiday : St_holiday Inv) (st_setRule : St_setRule Inv) (st_open : St_open Inv) (st_join : St_join Inv) (st_lead : St_lead Inv) (st_claim : St_claim Inv) (st_sever : St_sever Inv) (st_serve : St_serve Inv) (st_answer : St_answer Inv) (st_motion : St_motion Inv) (st_respond : St_respond Inv) (st_ruling : St_ruling Inv) (st_judge : St_judge Inv) (st_vacate : St_vacate Inv) (st_appeal : St_appeal Inv) (st_decide : St_decide Inv) (st_settle : St_settle Inv) (st_pay : St_pay Inv) (st_stay : St_stay Inv) (st_defect : St_defect Inv) (st_cure : St_cure Inv) (st_extend : St_extend Inv) (st_hearing : St_hearing Inv) (st_continueHearing : St_continueHearing Inv) (st_strike : St_strike Inv) (st_dismiss : St_dismiss Inv) (st_seat : St_seat Inv) (st_exhibit : St_exhibit Inv) (st_hand : St_hand Inv) (st_object : St_object Inv) (st_sustain : St_sustain Inv) (st_isAdmitted : St_isAdmitted Inv) (st_seal : St_seal Inv) (st_maySee : St_maySee Inv) (st_certify : St_certify Inv) (st_member : St_member Inv) (st_share : St_share Inv) (st_today : St_today Inv) (st_entries : St_entries Inv) (st_entryAt : St_entryAt Inv) (st_counts : St_counts Inv) (st_stateOf : St_stateOf Inv) (st_stateByDocket : St_stateByDocket Inv) (st_amountOf : St_amountOf Inv) (st_balance : St_balance Inv) (st_caseOf : St_caseOf Inv) (st_isAnswered : St_isAnswered Inv) (st_due : St_due Inv) (st_dueByDays : St_dueByDays Inv) (st_hearingAt : St_hearingAt Inv) {n k : Nat} {M : gM} (hn : n < 512) (hk : k ≤ 30000 + 6 * n) (hin : 5 * n + 5 ≤ L) (hI : Inv n M) (kk : ∀ (k2 : Nat) (M2 : gM), k2 ≤ 30000 + 6 * (n + 1) → Inv (n + 1) M2 → gV p l e room_1 s m args below meth c 7 Z Q k2 M2 3558 [(0, .ref b), (1, .ref (zad Z 0)), (2, .ref (zad Z 9)), (3, .ref (zad Z 10)), (4, .int (nI (5 * n)))] []) : gV p l e room_1 s m args below meth c 7 Z Q k M 32 [(0, .ref b), (1, .ref (zad Z 0)), (2, .ref (zad Z 9)), (3, .ref (zad Z 10)), (4, .int (nI (5 * n)))] [] := by
  have hj : ∀ j : Nat, j < 5 → vp_in (nI (5 * n) + nI j) L := fun j hj => by
    rw [nI_add]
    exact vp_in_nI (by omega) (by omega)
  have hk1 : k + 6 ≤ 601024 := by omega
  have hk2 : 6 * (k + 6) ≤ 7293034 := by omega
  have kk6 : ∀ M2, Inv (n + 1) M2 → gV p l e room_1 s m args below meth c 7 Z Q (k + 6) M2 3558 [(0, .ref b), (1, .ref (zad Z 0)), (2, .ref (zad Z 9)), (3, .ref (zad Z 10)), (4, .int (nI (5 * n)))] [] := fun M2 h => kk (k + 6) M2 (by omega) h
  refine v_aload_n hC 0 dL_law_32 rfl rfl ?_
  refine v_iload hC 4 dL_law_33 rfl ?_
  refine v_sld hC hX hbl hbA (vp_in_nI (by omega) (by omega)) dL_law_35 ?_
  refine v_bipush hC (v := 63) dL_law_36 (by decide) ?_
  refine v_iand hC dL_law_38 ?_
  generalize (xs (nI (5 * n)).toNatClampNeg &&& 63 : Int32) = x
  by_cases e0 : x = 0
  · refine v_swIn hC 0 e0 dL_law_39 (by decide) (by decide) (off := 217) (tgt := 256) (by decide) (by decide) ?_
    exact lawc_0 hfl hC hNc hX hbl hbA (hj 1 (by decide)) hk1 hk2 (st_pass n M (xs (nI (5 * n) + 1).toNatClampNeg) hn hI) kk6
  by_cases e1 : x = 1
  · refine v_swIn hC 1 e1 dL_law_39 (by decide) (by decide) (off := 273) (tgt := 312) (by decide) (by decide) ?_
    exact lawc_1 hfl hC hNc hX hbl hbA (hj 1 (by decide)) hk1 hk2 (st_holiday n M (xs (nI (5 * n) + 1).toNatClampNeg) hn hI) kk6
  by_cases e2 : x = 2
  · refine v_swIn hC 2 e2 dL_law_39 (by decide) (by decide) (off := 336) (tgt := 375) (by decide) (by decide) ?_
    exact lawc_2 hfl hC hNc hX hbl hbA (hj 1 (by decide)) (hj 2 (by decide)) (hj 3 (by decide)) hk1 hk2 (st_setRule n M (xs (nI (5 * n) + 1).toNatClampNeg) (xs (nI (5 * n) + 2).toNatClampNeg) (xs (nI (5 * n) + 3).toNatClampNeg) hn hI) kk6
  by_cases e3 : x = 3
  · refine v_swIn hC 3 e3 dL_law_39 (by decide) (by decide) (off := 432) (tgt := 471) (by decide) (by decide) ?_
    exact lawc_3 hfl hC hNc hX hbl hbA (hj 1 (by decide)) hk1 hk2 (st_open n M (xs (nI (5 * n) + 1).toNatClampNeg) hn hI) kk6
  by_cases e4 : x = 4
  · refine v_swIn hC 4 e4 dL_law_39 (by decide) (by decide) (off := 488) (tgt := 527) (by decide) (by decide) ?_
    exact lawc_4 hfl hC hNc hX hbl hbA (hj 1 (by decide)) (hj 2 (by decide)) (hj 3 (by decide)) hk1 hk2 (st_join n M (xs (nI (5 * n) + 1).toNatClampNeg) (xs (nI (5 * n) + 2).toNatClampNeg) (xs (nI (5 * n) + 3).toNatClampNeg) hn hI) kk6
  by_cases e5 : x = 5
  · refine v_swIn hC 5 e5 dL_law_39 (by decide) (by decide) (off := 568) (tgt := 607) (by decide) (by decide) ?_
    exact lawc_5 hfl hC hNc hX hbl hbA (hj 1 (by decide)) (hj 2 (by decide)) hk1 hk2 (st_lead n M (xs (nI (5 * n) + 1).toNatClampNeg) (xs (nI (5 * n) + 2).toNatClampNeg) hn hI) kk6
  by_cases e6 : x = 6
  · refine v_swIn hC 6 e6 dL_law_39 (by decide) (by decide) (off := 636) (tgt := 675) (by decide) (by decide) ?_
    exact lawc_6 hfl hC hNc hX hbl hbA (hj 1 (by decide)) (hj 2 (by decide)) (hj 3 (by decide)) (hj 4 (by decide)) hk1 hk2 (st_claim n M (xs (nI (5 * n) + 1).toNatClampNeg) (xs (nI (5 * n) + 2).toNatClampNeg) (xs (nI (5 * n) + 3).toNatClampNeg) (xs (nI (5 * n) + 4).toNatClampNeg) hn hI) kk6
  by_cases e7 : x = 7
  · refine v_swIn hC 7 e7 dL_law_39 (by decide) (by decide) (off := 728) (tgt := 767) (by decide) (by decide) ?_
    exact lawc_7 hfl hC hNc hX hbl hbA (hj 1 (by decide)) hk1 hk2 (st_sever n M (xs (nI (5 * n) + 1).toNatClampNeg) hn hI) kk6
  by_cases e8 : x = 8
  · refine v_swIn hC 8 e8 dL_law_39 (by decide) (by decide) (off := 784) (tgt := 823) (by decide) (by decide) ?_
    exact lawc_8 hfl hC hNc hX hbl hbA (hj 1 (by decide)) (hj 2 (by decide)) hk1 hk2 (st_serve n M (xs (nI (5 * n) + 1).toNatClampNeg) (xs (nI (5 * n) + 2).toNatClampNeg) hn hI) kk6
  by_cases e9 : x = 9
  · refine v_swIn hC 9 e9 dL_law_39 (by decide) (by decide) (off := 852) (tgt := 891) (by decide) (by decide) ?_
    exact lawc_9 hfl hC hNc hX hbl hbA (hj 1 (by decide)) hk1 hk2 (st_answer n M (xs (nI (5 * n) + 1).toNatClampNeg) hn hI) kk6
  by_cases e10 : x = 10
  · refine v_swIn hC 10 e10 dL_law_39 (by decide) (by decide) (off := 908) (tgt := 947) (by decide) (by decide) ?_
    exact lawc_10 hfl hC hNc hX hbl hbA (hj 1 (by decide)) hk1 hk2 (st_motion n M (xs (nI (5 * n) + 1).toNatClampNeg) hn hI) kk6
  by_cases e11 : x = 11
  · refine v_swIn hC 11 e11 dL_law_39 (by decide) (by decide) (off := 964) (tgt := 1003) (by decide) (by decide) ?_
    exact lawc_11 hfl hC hNc hX hbl hbA (hj 1 (by decide)) hk1 hk2 (st_respond n M (xs (nI (5 * n) + 1).toNatClampNeg) hn hI) kk6
  by_cases e12 : x = 12
  · refine v_swIn hC 12 e12 dL_law_39 (by decide) (by decide) (off := 1020) (tgt := 1059) (by decide) (by decide) ?_
    exact lawc_12 hfl hC hNc hX hbl hbA (hj 1 (by decide)) (hj 2 (by decide)) hk1 hk2 (st_ruling n M (xs (nI (5 * n) + 1).toNatClampNeg) (xs (nI (5 * n) + 2).toNatClampNeg) hn hI) kk6
  by_cases e13 : x = 13
  · refine v_swIn hC 13 e13 dL_law_39 (by decide) (by decide) (off := 1088) (tgt := 1127) (by decide) (by decide) ?_
    exact lawc_13 hfl hC hNc hX hbl hbA (hj 1 (by decide)) (hj 2 (by decide)) hk1 hk2 (st_judge n M (xs (nI (5 * n) + 1).toNatClampNeg) (xs (nI (5 * n) + 2).toNatClampNeg) hn hI) kk6
  by_cases e14 : x = 14
  · refine v_swIn hC 14 e14 dL_law_39 (by decide) (by decide) (off := 1156) (tgt := 1195) (by decide) (by decide) ?_
    exact lawc_14 hfl hC hNc hX hbl hbA (hj 1 (by decide)) hk1 hk2 (st_vacate n M (xs (nI (5 * n) + 1).toNatClampNeg) hn hI) kk6
  by_cases e15 : x = 15
  · refine v_swIn hC 15 e15 dL_law_39 (by decide) (by decide) (off := 1212) (tgt := 1251) (by decide) (by decide) ?_
    exact lawc_15 hfl hC hNc hX hbl hbA (hj 1 (by decide)) hk1 hk2 (st_appeal n M (xs (nI (5 * n) + 1).toNatClampNeg) hn hI) kk6
  by_cases e16 : x = 16
  · refine v_swIn hC 16 e16 dL_law_39 (by decide) (by decide) (off := 1268) (tgt := 1307) (by decide) (by decide) ?_
    exact lawc_16 hfl hC hNc hX hbl hbA (hj 1 (by decide)) (hj 2 (by decide)) (hj 3 (by decide)) hk1 hk2 (st_decide n M (xs (nI (5 * n) + 1).toNatClampNeg) (xs (nI (5 * n) + 2).toNatClampNeg) (xs (nI (5 * n) + 3).toNatClampNeg) hn hI) kk6
  by_cases e17 : x = 17
  · refine v_swIn hC 17 e17 dL_law_39 (by decide) (by decide) (off := 1348) (tgt := 1387) (by decide) (by decide) ?_
    exact lawc_17 hfl hC hNc hX hbl hbA (hj 1 (by decide)) hk1 hk2 (st_settle n M (xs (nI (5 * n) + 1).toNatClampNeg) hn hI) kk6
  by_cases e18 : x = 18
  · refine v_swIn hC 18 e18 dL_law_39 (by decide) (by decide) (off := 1404) (tgt := 1443) (by decide) (by decide) ?_
    exact lawc_18 hfl hC hNc hX hbl hbA (hj 1 (by decide)) (hj 2 (by decide)) hk1 hk2 (st_pay n M (xs (nI (5 * n) + 1).toNatClampNeg) (xs (nI (5 * n) + 2).toNatClampNeg) hn hI) kk6
  by_cases e19 : x = 19
  · refine v_swIn hC 19 e19 dL_law_39 (by decide) (by decide) (off := 1472) (tgt := 1511) (by decide) (by decide) ?_
    exact lawc_19 hfl hC hNc hX hbl hbA (hj 1 (by decide)) (hj 2 (by decide)) hk1 hk2 (st_stay n M (xs (nI (5 * n) + 1).toNatClampNeg) (xs (nI (5 * n) + 2).toNatClampNeg) hn hI) kk6
  by_cases e20 : x = 20
  · refine v_swIn hC 20 e20 dL_law_39 (by decide) (by decide) (off := 1556) (tgt := 1595) (by decide) (by decide) ?_
    exact lawc_20 hfl hC hNc hX hbl hbA (hj 1 (by decide)) hk1 hk2 (st_defect n M (xs (nI (5 * n) + 1).toNatClampNeg) hn hI) kk6
  by_cases e21 : x = 21
  · refine v_swIn hC 21 e21 dL_law_39 (by decide) (by decide) (off := 1612) (tgt := 1651) (by decide) (by decide) ?_
    exact lawc_21 hfl hC hNc hX hbl hbA (hj 1 (by decide)) hk1 hk2 (st_cure n M (xs (nI (5 * n) + 1).toNatClampNeg) hn hI) kk6
  by_cases e22 : x = 22
  · refine v_swIn hC 22 e22 dL_law_39 (by decide) (by decide) (off := 1675) (tgt := 1714) (by decide) (by decide) ?_
    exact lawc_22 hfl hC hNc hX hbl hbA (hj 1 (by decide)) (hj 2 (by decide)) (hj 3 (by decide)) hk1 hk2 (st_extend n M (xs (nI (5 * n) + 1).toNatClampNeg) (xs (nI (5 * n) + 2).toNatClampNeg) (xs (nI (5 * n) + 3).toNatClampNeg) hn hI) kk6
  by_cases e23 : x = 23
  · refine v_swIn hC 23 e23 dL_law_39 (by decide) (by decide) (off := 1755) (tgt := 1794) (by decide) (by decide) ?_
    exact lawc_23 hfl hC hNc hX hbl hbA (hj 1 (by decide)) (hj 2 (by decide)) (hj 3 (by decide)) hk1 hk2 (st_hearing n M (xs (nI (5 * n) + 1).toNatClampNeg) (xs (nI (5 * n) + 2).toNatClampNeg) (xs (nI (5 * n) + 3).toNatClampNeg) hn hI) kk6
  by_cases e24 : x = 24
  · refine v_swIn hC 24 e24 dL_law_39 (by decide) (by decide) (off := 1835) (tgt := 1874) (by decide) (by decide) ?_
    exact lawc_24 hfl hC hNc hX hbl hbA (hj 1 (by decide)) hk1 hk2 (st_continueHearing n M (xs (nI (5 * n) + 1).toNatClampNeg) hn hI) kk6
  by_cases e25 : x = 25
  · refine v_swIn hC 25 e25 dL_law_39 (by decide) (by decide) (off := 1891) (tgt := 1930) (by decide) (by decide) ?_
    exact lawc_25 hfl hC hNc hX hbl hbA (hj 1 (by decide)) (hj 2 (by decide)) (hj 3 (by decide)) hk1 hk2 (st_strike n M (xs (nI (5 * n) + 1).toNatClampNeg) (xs (nI (5 * n) + 2).toNatClampNeg) (xs (nI (5 * n) + 3).toNatClampNeg) hn hI) kk6
  by_cases e26 : x = 26
  · refine v_swIn hC 26 e26 dL_law_39 (by decide) (by decide) (off := 1971) (tgt := 2010) (by decide) (by decide) ?_
    exact lawc_26 hfl hC hNc hX hbl hbA (hj 1 (by decide)) (hj 2 (by decide)) hk1 hk2 (st_dismiss n M (xs (nI (5 * n) + 1).toNatClampNeg) (xs (nI (5 * n) + 2).toNatClampNeg) hn hI) kk6
  by_cases e27 : x = 27
  · refine v_swIn hC 27 e27 dL_law_39 (by decide) (by decide) (off := 2039) (tgt := 2078) (by decide) (by decide) ?_
    exact lawc_27 hfl hC hNc hX hbl hbA (hj 1 (by decide)) (hj 2 (by decide)) hk1 hk2 (st_seat n M (xs (nI (5 * n) + 1).toNatClampNeg) (xs (nI (5 * n) + 2).toNatClampNeg) hn hI) kk6
  by_cases e28 : x = 28
  · refine v_swIn hC 28 e28 dL_law_39 (by decide) (by decide) (off := 2107) (tgt := 2146) (by decide) (by decide) ?_
    exact lawc_28 hfl hC hNc hX hbl hbA (hj 1 (by decide)) (hj 2 (by decide)) hk1 hk2 (st_exhibit n M (xs (nI (5 * n) + 1).toNatClampNeg) (xs (nI (5 * n) + 2).toNatClampNeg) hn hI) kk6
  by_cases e29 : x = 29
  · refine v_swIn hC 29 e29 dL_law_39 (by decide) (by decide) (off := 2175) (tgt := 2214) (by decide) (by decide) ?_
    exact lawc_29 hfl hC hNc hX hbl hbA (hj 1 (by decide)) (hj 2 (by decide)) (hj 3 (by decide)) hk1 hk2 (st_hand n M (xs (nI (5 * n) + 1).toNatClampNeg) (xs (nI (5 * n) + 2).toNatClampNeg) (xs (nI (5 * n) + 3).toNatClampNeg) hn hI) kk6
  by_cases e30 : x = 30
  · refine v_swIn hC 30 e30 dL_law_39 (by decide) (by decide) (off := 2262) (tgt := 2301) (by decide) (by decide) ?_
    exact lawc_30 hfl hC hNc hX hbl hbA (hj 1 (by decide)) (hj 2 (by decide)) hk1 hk2 (st_object n M (xs (nI (5 * n) + 1).toNatClampNeg) (xs (nI (5 * n) + 2).toNatClampNeg) hn hI) kk6
  by_cases e31 : x = 31
  · refine v_swIn hC 31 e31 dL_law_39 (by decide) (by decide) (off := 2310) (tgt := 2349) (by decide) (by decide) ?_
    exact lawc_31 hfl hC hNc hX hbl hbA (hj 1 (by decide)) (hj 2 (by decide)) (hj 3 (by decide)) hk1 hk2 (st_sustain n M (xs (nI (5 * n) + 1).toNatClampNeg) (xs (nI (5 * n) + 2).toNatClampNeg) (xs (nI (5 * n) + 3).toNatClampNeg) hn hI) kk6
  by_cases e32 : x = 32
  · refine v_swIn hC 32 e32 dL_law_39 (by decide) (by decide) (off := 2386) (tgt := 2425) (by decide) (by decide) ?_
    exact lawc_32 hfl hC hNc hX hbl hbA (hj 1 (by decide)) hk1 hk2 (st_isAdmitted n M (xs (nI (5 * n) + 1).toNatClampNeg) hn hI) kk6
  by_cases e33 : x = 33
  · refine v_swIn hC 33 e33 dL_law_39 (by decide) (by decide) (off := 2449) (tgt := 2488) (by decide) (by decide) ?_
    exact lawc_33 hfl hC hNc hX hbl hbA (hj 1 (by decide)) (hj 2 (by decide)) hk1 hk2 (st_seal n M (xs (nI (5 * n) + 1).toNatClampNeg) (xs (nI (5 * n) + 2).toNatClampNeg) hn hI) kk6
  by_cases e34 : x = 34
  · refine v_swIn hC 34 e34 dL_law_39 (by decide) (by decide) (off := 2540) (tgt := 2579) (by decide) (by decide) ?_
    exact lawc_34 hfl hC hNc hX hbl hbA (hj 1 (by decide)) (hj 2 (by decide)) (hj 3 (by decide)) hk1 hk2 (st_maySee n M (xs (nI (5 * n) + 1).toNatClampNeg) (xs (nI (5 * n) + 2).toNatClampNeg) (xs (nI (5 * n) + 3).toNatClampNeg) hn hI) kk6
  by_cases e35 : x = 35
  · refine v_swIn hC 35 e35 dL_law_39 (by decide) (by decide) (off := 2627) (tgt := 2666) (by decide) (by decide) ?_
    exact lawc_35 hfl hC hNc hX hbl hbA (hj 1 (by decide)) hk1 hk2 (st_certify n M (xs (nI (5 * n) + 1).toNatClampNeg) hn hI) kk6
  by_cases e36 : x = 36
  · refine v_swIn hC 36 e36 dL_law_39 (by decide) (by decide) (off := 2663) (tgt := 2702) (by decide) (by decide) ?_
    exact lawc_36 hfl hC hNc hX hbl hbA (hj 1 (by decide)) (hj 2 (by decide)) (hj 3 (by decide)) hk1 hk2 (st_member n M (xs (nI (5 * n) + 1).toNatClampNeg) (xs (nI (5 * n) + 2).toNatClampNeg) (xs (nI (5 * n) + 3).toNatClampNeg) hn hI) kk6
  by_cases e37 : x = 37
  · refine v_swIn hC 37 e37 dL_law_39 (by decide) (by decide) (off := 2759) (tgt := 2798) (by decide) (by decide) ?_
    exact lawc_37 hfl hC hNc hX hbl hbA (hj 1 (by decide)) (hj 2 (by decide)) hk1 hk2 (st_share n M (xs (nI (5 * n) + 1).toNatClampNeg) (xs (nI (5 * n) + 2).toNatClampNeg) hn hI) kk6
  by_cases e38 : x = 38
  · refine v_swIn hC 38 e38 dL_law_39 (by decide) (by decide) (off := 2827) (tgt := 2866) (by decide) (by decide) ?_
    exact lawc_38 hfl hC hNc hX hbl hbA  hk1 hk2 (st_today n M  hn hI) kk6
  by_cases e39 : x = 39
  · refine v_swIn hC 39 e39 dL_law_39 (by decide) (by decide) (off := 2840) (tgt := 2879) (by decide) (by decide) ?_
    exact lawc_39 hfl hC hNc hX hbl hbA  hk1 hk2 (st_entries n M  hn hI) kk6
  by_cases e40 : x = 40
  · refine v_swIn hC 40 e40 dL_law_39 (by decide) (by decide) (off := 2853) (tgt := 2892) (by decide) (by decide) ?_
    exact lawc_40 hfl hC hNc hX hbl hbA (hj 1 (by decide)) (hj 2 (by decide)) hk1 hk2 (st_entryAt n M (xs (nI (5 * n) + 1).toNatClampNeg) (xs (nI (5 * n) + 2).toNatClampNeg) hn hI) kk6
  by_cases e41 : x = 41
  · refine v_swIn hC 41 e41 dL_law_39 (by decide) (by decide) (off := 2921) (tgt := 2960) (by decide) (by decide) ?_
    exact lawc_41 hfl hC hNc hX hbl hbA (hj 1 (by decide)) hk1 hk2 (st_counts n M (xs (nI (5 * n) + 1).toNatClampNeg) hn hI) kk6
  by_cases e42 : x = 42
  · refine v_swIn hC 42 e42 dL_law_39 (by decide) (by decide) (off := 2984) (tgt := 3023) (by decide) (by decide) ?_
    exact lawc_42 hfl hC hNc hX hbl hbA (hj 1 (by decide)) hk1 hk2 (st_stateOf n M (xs (nI (5 * n) + 1).toNatClampNeg) hn hI) kk6
  by_cases e43 : x = 43
  · refine v_swIn hC 43 e43 dL_law_39 (by decide) (by decide) (off := 3040) (tgt := 3079) (by decide) (by decide) ?_
    exact lawc_43 hfl hC hNc hX hbl hbA (hj 1 (by decide)) hk1 hk2 (st_stateByDocket n M (xs (nI (5 * n) + 1).toNatClampNeg) hn hI) kk6
  by_cases e44 : x = 44
  · refine v_swIn hC 44 e44 dL_law_39 (by decide) (by decide) (off := 3096) (tgt := 3135) (by decide) (by decide) ?_
    exact lawc_44 hfl hC hNc hX hbl hbA (hj 1 (by decide)) hk1 hk2 (st_amountOf n M (xs (nI (5 * n) + 1).toNatClampNeg) hn hI) kk6
  by_cases e45 : x = 45
  · refine v_swIn hC 45 e45 dL_law_39 (by decide) (by decide) (off := 3152) (tgt := 3191) (by decide) (by decide) ?_
    exact lawc_45 hfl hC hNc hX hbl hbA (hj 1 (by decide)) hk1 hk2 (st_balance n M (xs (nI (5 * n) + 1).toNatClampNeg) hn hI) kk6
  by_cases e46 : x = 46
  · refine v_swIn hC 46 e46 dL_law_39 (by decide) (by decide) (off := 3208) (tgt := 3247) (by decide) (by decide) ?_
    exact lawc_46 hfl hC hNc hX hbl hbA (hj 1 (by decide)) hk1 hk2 (st_caseOf n M (xs (nI (5 * n) + 1).toNatClampNeg) hn hI) kk6
  by_cases e47 : x = 47
  · refine v_swIn hC 47 e47 dL_law_39 (by decide) (by decide) (off := 3264) (tgt := 3303) (by decide) (by decide) ?_
    exact lawc_47 hfl hC hNc hX hbl hbA (hj 1 (by decide)) hk1 hk2 (st_isAnswered n M (xs (nI (5 * n) + 1).toNatClampNeg) hn hI) kk6
  by_cases e48 : x = 48
  · refine v_swIn hC 48 e48 dL_law_39 (by decide) (by decide) (off := 3327) (tgt := 3366) (by decide) (by decide) ?_
    exact lawc_48 hfl hC hNc hX hbl hbA (hj 1 (by decide)) (hj 2 (by decide)) hk1 hk2 (st_due n M (xs (nI (5 * n) + 1).toNatClampNeg) (xs (nI (5 * n) + 2).toNatClampNeg) hn hI) kk6
  by_cases e49 : x = 49
  · refine v_swIn hC 49 e49 dL_law_39 (by decide) (by decide) (off := 3395) (tgt := 3434) (by decide) (by decide) ?_
    exact lawc_49 hfl hC hNc hX hbl hbA (hj 1 (by decide)) (hj 2 (by decide)) hk1 hk2 (st_dueByDays n M (xs (nI (5 * n) + 1).toNatClampNeg) (xs (nI (5 * n) + 2).toNatClampNeg) hn hI) kk6
  by_cases e50 : x = 50
  · refine v_swIn hC 50 e50 dL_law_39 (by decide) (by decide) (off := 3463) (tgt := 3502) (by decide) (by decide) ?_
    exact lawc_50 hfl hC hNc hX hbl hbA (hj 1 (by decide)) hk1 hk2 (st_hearingAt n M (xs (nI (5 * n) + 1).toNatClampNeg) hn hI) kk6
  refine v_swOut hC ?_ dL_law_39 (tgt := 3558) (by decide) (kk k M (by omega) (hmono n M hn hI))
  have f0 : x.toInt ≠ 0 := fun h => e0 (Int32.toInt_inj.mp (h.trans (by decide)))
  have f1 : x.toInt ≠ 1 := fun h => e1 (Int32.toInt_inj.mp (h.trans (by decide)))
  have f2 : x.toInt ≠ 2 := fun h => e2 (Int32.toInt_inj.mp (h.trans (by decide)))
  have f3 : x.toInt ≠ 3 := fun h => e3 (Int32.toInt_inj.mp (h.trans (by decide)))
  have f4 : x.toInt ≠ 4 := fun h => e4 (Int32.toInt_inj.mp (h.trans (by decide)))
  have f5 : x.toInt ≠ 5 := fun h => e5 (Int32.toInt_inj.mp (h.trans (by decide)))
  have f6 : x.toInt ≠ 6 := fun h => e6 (Int32.toInt_inj.mp (h.trans (by decide)))
  have f7 : x.toInt ≠ 7 := fun h => e7 (Int32.toInt_inj.mp (h.trans (by decide)))
  have f8 : x.toInt ≠ 8 := fun h => e8 (Int32.toInt_inj.mp (h.trans (by decide)))
  have f9 : x.toInt ≠ 9 := fun h => e9 (Int32.toInt_inj.mp (h.trans (by decide)))
  have f10 : x.toInt ≠ 10 := fun h => e10 (Int32.toInt_inj.mp (h.trans (by decide)))
  have f11 : x.toInt ≠ 11 := fun h => e11 (Int32.toInt_inj.mp (h.trans (by decide)))
  have f12 : x.toInt ≠ 12 := fun h => e12 (Int32.toInt_inj.mp (h.trans (by decide)))
  have f13 : x.toInt ≠ 13 := fun h => e13 (Int32.toInt_inj.mp (h.trans (by decide)))
  have f14 : x.toInt ≠ 14 := fun h => e14 (Int32.toInt_inj.mp (h.trans (by decide)))
  have f15 : x.toInt ≠ 15 := fun h => e15 (Int32.toInt_inj.mp (h.trans (by decide)))
  have f16 : x.toInt ≠ 16 := fun h => e16 (Int32.toInt_inj.mp (h.trans (by decide)))
  have f17 : x.toInt ≠ 17 := fun h => e17 (Int32.toInt_inj.mp (h.trans (by decide)))
  have f18 : x.toInt ≠ 18 := fun h => e18 (Int32.toInt_inj.mp (h.trans (by decide)))
  have f19 : x.toInt ≠ 19 := fun h => e19 (Int32.toInt_inj.mp (h.trans (by decide)))
  have f20 : x.toInt ≠ 20 := fun h => e20 (Int32.toInt_inj.mp (h.trans (by decide)))
  have f21 : x.toInt ≠ 21 := fun h => e21 (Int32.toInt_inj.mp (h.trans (by decide)))
  have f22 : x.toInt ≠ 22 := fun h => e22 (Int32.toInt_inj.mp (h.trans (by decide)))
  have f23 : x.toInt ≠ 23 := fun h => e23 (Int32.toInt_inj.mp (h.trans (by decide)))
  have f24 : x.toInt ≠ 24 := fun h => e24 (Int32.toInt_inj.mp (h.trans (by decide)))
  have f25 : x.toInt ≠ 25 := fun h => e25 (Int32.toInt_inj.mp (h.trans (by decide)))
  have f26 : x.toInt ≠ 26 := fun h => e26 (Int32.toInt_inj.mp (h.trans (by decide)))
  have f27 : x.toInt ≠ 27 := fun h => e27 (Int32.toInt_inj.mp (h.trans (by decide)))
  have f28 : x.toInt ≠ 28 := fun h => e28 (Int32.toInt_inj.mp (h.trans (by decide)))
  have f29 : x.toInt ≠ 29 := fun h => e29 (Int32.toInt_inj.mp (h.trans (by decide)))
  have f30 : x.toInt ≠ 30 := fun h => e30 (Int32.toInt_inj.mp (h.trans (by decide)))
  have f31 : x.toInt ≠ 31 := fun h => e31 (Int32.toInt_inj.mp (h.trans (by decide)))
  have f32 : x.toInt ≠ 32 := fun h => e32 (Int32.toInt_inj.mp (h.trans (by decide)))
  have f33 : x.toInt ≠ 33 := fun h => e33 (Int32.toInt_inj.mp (h.trans (by decide)))
  have f34 : x.toInt ≠ 34 := fun h => e34 (Int32.toInt_inj.mp (h.trans (by decide)))
  have f35 : x.toInt ≠ 35 := fun h => e35 (Int32.toInt_inj.mp (h.trans (by decide)))
  have f36 : x.toInt ≠ 36 := fun h => e36 (Int32.toInt_inj.mp (h.trans (by decide)))
  have f37 : x.toInt ≠ 37 := fun h => e37 (Int32.toInt_inj.mp (h.trans (by decide)))
  have f38 : x.toInt ≠ 38 := fun h => e38 (Int32.toInt_inj.mp (h.trans (by decide)))
  have f39 : x.toInt ≠ 39 := fun h => e39 (Int32.toInt_inj.mp (h.trans (by decide)))
  have f40 : x.toInt ≠ 40 := fun h => e40 (Int32.toInt_inj.mp (h.trans (by decide)))
  have f41 : x.toInt ≠ 41 := fun h => e41 (Int32.toInt_inj.mp (h.trans (by decide)))
  have f42 : x.toInt ≠ 42 := fun h => e42 (Int32.toInt_inj.mp (h.trans (by decide)))
  have f43 : x.toInt ≠ 43 := fun h => e43 (Int32.toInt_inj.mp (h.trans (by decide)))
  have f44 : x.toInt ≠ 44 := fun h => e44 (Int32.toInt_inj.mp (h.trans (by decide)))
  have f45 : x.toInt ≠ 45 := fun h => e45 (Int32.toInt_inj.mp (h.trans (by decide)))
  have f46 : x.toInt ≠ 46 := fun h => e46 (Int32.toInt_inj.mp (h.trans (by decide)))
  have f47 : x.toInt ≠ 47 := fun h => e47 (Int32.toInt_inj.mp (h.trans (by decide)))
  have f48 : x.toInt ≠ 48 := fun h => e48 (Int32.toInt_inj.mp (h.trans (by decide)))
  have f49 : x.toInt ≠ 49 := fun h => e49 (Int32.toInt_inj.mp (h.trans (by decide)))
  have f50 : x.toInt ≠ 50 := fun h => e50 (Int32.toInt_inj.mp (h.trans (by decide)))
  omega
set_option maxHeartbeats 4000000 in
theorem law_loop {p : Program} {l : Launch} {e : Env} {s : State} {m : MethodId} {args : Array Value} {below : List Frame} {meth : Method} {c : Code} {Z : gZ} {Q : State → Prop} (hfl : l.stackTraces = false) (hC : gD p s m args c cL_law 7 RL Z) (hNc : gNc s) {b L : Nat} {xs : Nat → Int32} (hX : va_X b L xs s s.heap) (hbl : b < s.heap.size) (hbA : ¬ zA Z b) (hL : L ≤ 2560) {Inv : Nat → gM → Prop} (hmono : ∀ n M, n < 512 → Inv n M → Inv (n + 1) M) (st_pass : St_pass Inv) (st_holiday : St_holiday Inv) (st_setRule : St_setRule Inv) (st_open : St_open Inv) (st_join : St_join Inv) (st_lead : St_lead Inv) (st_claim : St_claim Inv) (st_sever : St_sever Inv) (st_serve : St_serve Inv) (st_answer : St_answer Inv) (st_motion : St_motion Inv) (st_respond : St_respond Inv) (st_ruling : St_ruling Inv) (st_judge : St_judge Inv) (st_vacate : St_vacate Inv) (st_appeal : St_appeal Inv) (st_decide : St_decide Inv) (st_settle : St_settle Inv) (st_pay : St_pay Inv) (st_stay : St_stay Inv) (st_defect : St_defect Inv) (st_cure : St_cure Inv) (st_extend : St_extend Inv) (st_hearing : St_hearing Inv) (st_continueHearing : St_continueHearing Inv) (st_strike : St_strike Inv) (st_dismiss : St_dismiss Inv) (st_seat : St_seat Inv) (st_exhibit : St_exhibit Inv) (st_hand : St_hand Inv) (st_object : St_object Inv) (st_sustain : St_sustain Inv) (st_isAdmitted : St_isAdmitted Inv) (st_seal : St_seal Inv) (st_maySee : St_maySee Inv) (st_certify : St_certify Inv) (st_member : St_member Inv) (st_share : St_share Inv) (st_today : St_today Inv) (st_entries : St_entries Inv) (st_entryAt : St_entryAt Inv) (st_counts : St_counts Inv) (st_stateOf : St_stateOf Inv) (st_stateByDocket : St_stateByDocket Inv) (st_amountOf : St_amountOf Inv) (st_balance : St_balance Inv) (st_caseOf : St_caseOf Inv) (st_isAnswered : St_isAnswered Inv) (st_due : St_due Inv) (st_dueByDays : St_dueByDays Inv) (st_hearingAt : St_hearingAt Inv) (hend : ∀ (k : Nat) (M : gM) (i : Int32), k ≤ 40000 → gV p l e room_1 s m args below meth c 7 Z Q k M 3564 [(0, .ref b), (1, .ref (zad Z 0)), (2, .ref (zad Z 9)), (3, .ref (zad Z 10)), (4, .int i)] []) : ∀ (d n : Nat), n + d = 512 → ∀ (k : Nat) (M : gM), k ≤ 30000 + 6 * n → Inv n M → gV p l e room_1 s m args below meth c 7 Z Q k M 23 [(0, .ref b), (1, .ref (zad Z 0)), (2, .ref (zad Z 9)), (3, .ref (zad Z 10)), (4, .int (nI (5 * n)))] [] := by
  intro d
  induction d with
  | zero =>
    intro n hd k M hk hI
    refine v_iload hC 4 dL_law_23 rfl ?_
    refine v_aload_n hC 0 dL_law_25 rfl rfl ?_
    refine v_slen hC hX hbl hbA dL_law_26 ?_
    refine v_iconst hC (v := 5) dL_law_27 (by decide) ?_
    refine v_isub hC dL_law_28 ?_
    refine v_icmp_gt (tgt := 3564) hC dL_law_29 (by decide) (fun _ => hend k M _ (by omega)) (fun h => ?_)
    have := len5 hL (by omega) h
    omega
  | succ d ih =>
    intro n hd k M hk hI
    refine v_iload hC 4 dL_law_23 rfl ?_
    refine v_aload_n hC 0 dL_law_25 rfl rfl ?_
    refine v_slen hC hX hbl hbA dL_law_26 ?_
    refine v_iconst hC (v := 5) dL_law_27 (by decide) ?_
    refine v_isub hC dL_law_28 ?_
    refine v_icmp_gt (tgt := 3564) hC dL_law_29 (by decide) (fun _ => hend k M _ (by omega)) (fun h => ?_)
    have h5 := len5 hL (by omega) h
    refine law_step hfl hC hNc hX hbl hbA hL hmono st_pass st_holiday st_setRule st_open st_join st_lead st_claim st_sever st_serve st_answer st_motion st_respond st_ruling st_judge st_vacate st_appeal st_decide st_settle st_pay st_stay st_defect st_cure st_extend st_hearing st_continueHearing st_strike st_dismiss st_seat st_exhibit st_hand st_object st_sustain st_isAdmitted st_seal st_maySee st_certify st_member st_share st_today st_entries st_entryAt st_counts st_stateOf st_stateByDocket st_amountOf st_balance st_caseOf st_isAnswered st_due st_dueByDays st_hearingAt (n := n) (by omega) hk h5 hI (fun k2 M2 hk2 hI2 => ?_)
    refine v_iinc hC 4 (v := nI 5) (lv1 := [(4, .int (nI (5 * (n + 1)))), (0, .ref b), (1, .ref (zad Z 0)), (2, .ref (zad Z 9)), (3, .ref (zad Z 10))]) dL_law_3558 rfl (by decide) (by decide) (by rw [nI_add]; rfl) ?_
    refine v_goto (tgt := 23) hC dL_law_3561 (by decide) ?_
    refine v_sub (lv1 := [(0, .ref b), (1, .ref (zad Z 0)), (2, .ref (zad Z 9)), (3, .ref (zad Z 10)), (4, .int (nI (5 * (n + 1))))]) [1, 2, 3, 4, 0] rfl ?_
    exact ih (n + 1) (by omega) k2 M2 hk2 hI2
