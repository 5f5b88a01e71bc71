/-! ===== numbers, indices, cells ===== -/
theorem idx_cases (a : Int32) (n : Nat) (hn : n < 2 ^ 31) : (∃ i, i < n ∧ a = nI i) ∨ (a < 0 ∨ (¬ a < 0 ∧ ¬ a < nI n)) := by
  by_cases h : a < 0
  · exact Or.inr (Or.inl h)
  · obtain ⟨j, hj, rfl⟩ := nI_of h
    by_cases h2 : nI j < nI n
    · exact Or.inl ⟨j, (nI_ltI hj hn).mp h2, rfl⟩
    · exact Or.inr (Or.inr ⟨h, h2⟩)
theorem gI_nI {i n : Nat} {F : gR} (h : i < n) (hn : n < 2 ^ 31) : gI (nI i) n F = F := by
  unfold gI
  rw [if_pos ⟨nI_pos' (by omega), by rw [nI_clamp (by omega)]; exact h⟩]
theorem nI_lt0 {i : Nat} (h : i < 2 ^ 31) : ¬ nI i < 0 := nI_pos h
theorem upd_at (f : Nat → Int32) (j : Nat) (v : Int32) (i : Nat) : upd f j v i = if i = j then v else f i := rfl
theorem upd_id (f : Nat → Int32) (j : Nat) : upd f j (f j) = f := by
  funext i
  unfold upd
  by_cases h : i = j
  · rw [if_pos h, h]
  · rw [if_neg h]
theorem upd_same (f : Nat → Int32) (j : Nat) (v w : Int32) : upd (upd f j v) j w = upd f j w := by
  funext i
  unfold upd
  by_cases h : i = j
  · rw [if_pos h, if_pos h]
  · rw [if_neg h, if_neg h, if_neg h]
theorem gset_at (M : gM) (a j : Nat) (v : Int32) (b : Nat) : gset M a j v b = if b = a then upd (M b) j v else M b := rfl
theorem wit_ok {M : gM} {i n : Nat} (h : i < n) (hn : n < 2 ^ 31) : f_X9_within M (nI i) 0 (nI n - 1) = rRet 1 M := by
  obtain ⟨m, rfl⟩ : ∃ m, n = m + 1 := ⟨n - 1, by omega⟩
  unfold f_X9_within
  rw [nI_pred, if_neg (nI_pos (by omega)), if_neg (nI_nlt (by omega) (by omega))]
theorem wit_no {M : gM} {a : Int32} {n : Nat} (hn : n < 2 ^ 31) (h : a < 0 ∨ (¬ a < 0 ∧ ¬ a < nI n)) : f_X9_within M a 0 (nI n - 1) = rRet 0 M := by
  unfold f_X9_within
  by_cases h0 : a < 0
  · rw [if_pos h0]
  · rw [if_neg h0, if_pos]
    rcases h with h | ⟨-, h⟩
    · exact absurd h h0
    · obtain ⟨j, hj, rfl⟩ := nI_of h0
      have h3 : n ≤ j := by
        have h4 : ¬ j < n := fun q => h ((nI_ltI hj hn).mpr q)
        omega
      cases n with
      | zero => exact Int32.lt_iff_toInt_lt.mpr (by rw [nI_toInt hj, nI_0]; show (-1 : Int) < _; omega)
      | succ m => rw [nI_pred]; exact nI_lt (by omega) hj
/-- a within of two numbers -/
theorem wit_eq (M : gM) (a l h : Int32) : f_X9_within M a l h = rRet (if a < l then 0 else if h < a then 0 else 1) M := by
  unfold f_X9_within
  by_cases h1 : a < l
  · rw [if_pos h1, if_pos h1]
  · rw [if_neg h1, if_neg h1]
    by_cases h2 : h < a
    · rw [if_pos h2, if_pos h2]
    · rw [if_neg h2, if_neg h2]
theorem rf_eq (M : gM) (v : Int32) : f_X9_refused M v = rRet (if v = 0 then 0 else 1) (gset M 9 0 v) := by
  show (if v = 0 then rRet 0 (gset M 9 0 v) else rRet 1 (gset M 9 0 v)) = _
  by_cases h : v = 0
  · rw [if_pos h, if_pos h]
  · rw [if_neg h, if_neg h]
theorem rf_0 (M : gM) : f_X9_refused M 0 = rRet 0 (gset M 9 0 0) := rfl
theorem rf_1 (M : gM) : f_X9_refused M 1 = rRet 1 (gset M 9 0 1) := rfl
theorem rf_2 (M : gM) : f_X9_refused M 2 = rRet 1 (gset M 9 0 2) := rfl
theorem rf_3 (M : gM) : f_X9_refused M 3 = rRet 1 (gset M 9 0 3) := rfl
theorem agI_ok {rL : gR} {f : gM → gR} {P : gM → Prop} {v : Int32} {M1 M2 : gM} (h1 : rL = rRet 0 (gset M1 10 0 v)) (h2 : f (gset M1 10 0 v) = rRet v M2) (h3 : M2 9 0 = 0) (h4 : M2 10 0 = v) (hP : P M2) : AgI rL f P := ⟨0, _, v, M2, h1, h2, h3, fun _ => h4, hP⟩
theorem agB_ok {rL : gR} {f : gM → gR} {P : gM → Prop} {v : Int32} {M1 M2 : gM} (h1 : rL = rRet 0 (gset M1 10 0 (gb v))) (h2 : f (gset M1 10 0 (gb v)) = rRet v M2) (h3 : M2 9 0 = 0) (h4 : M2 10 0 = gb v) (hP : P M2) : AgB rL f P := ⟨0, _, v, M2, h1, h2, h3, fun _ => h4, hP⟩
theorem agV_ok {rL : gR} {f : gM → gR} {P : gM → Prop} {M1 M2 : gM} (h1 : rL = rRet 0 M1) (h2 : f M1 = rRet 0 M2) (h3 : M2 9 0 = 0) (hP : P M2) : AgV rL f P := ⟨0, _, M2, h1, h2, h3, hP⟩
theorem agI_no {rL : gR} {f : gM → gR} {P : gM → Prop} {k b : Int32} {M : gM} (h1 : rL = rRet k M) (hk : k ≠ 0) (h2 : f M = rRet b (gset M 9 0 k)) (hP : P (gset M 9 0 k)) : AgI rL f P := ⟨k, M, b, _, h1, h2, rfl, fun h => absurd h hk, hP⟩
theorem agB_no {rL : gR} {f : gM → gR} {P : gM → Prop} {k b : Int32} {M : gM} (h1 : rL = rRet k M) (hk : k ≠ 0) (h2 : f M = rRet b (gset M 9 0 k)) (hP : P (gset M 9 0 k)) : AgB rL f P := ⟨k, M, b, _, h1, h2, rfl, fun h => absurd h hk, hP⟩
theorem agV_no {rL : gR} {f : gM → gR} {P : gM → Prop} {k : Int32} {M : gM} (h1 : rL = rRet k M) (h2 : f M = rRet 0 (gset M 9 0 k)) (hP : P (gset M 9 0 k)) : AgV rL f P := ⟨k, M, _, h1, h2, rfl, hP⟩
/-- a row of indices: good and bad -/
def bad (a : Int32) (n : Nat) : Prop := a < 0 ∨ (¬ a < 0 ∧ ¬ a < nI n)
theorem c8_Case {M : gM} {i n : Nat} (hn : M 2 0 = nI n) (h : i < n) (h2 : n ≤ 8) : f_X8_checkCase M (nI i) = rRet 0 M := by
  unfold f_X8_checkCase
  rw [hn, if_neg (nI_pos (by omega)), if_pos (nI_lt h (by omega))]
theorem n8_Case {M : gM} {a : Int32} {n : Nat} (hn : M 2 0 = nI n) (h : bad a n) : f_X8_checkCase M a = rThr 0 M := by
  unfold f_X8_checkCase
  rcases h with h | ⟨h, h2⟩
  · rw [if_pos h]
  · rw [if_neg h, hn, if_neg h2]
theorem c9_Case {M : gM} {i n : Nat} (hn : M 9 6 = nI n) (h : i < n) (h2 : n ≤ 8) : f_X9_isCase M (nI i) = rRet 1 M := by
  unfold f_X9_isCase
  rw [hn, wit_ok h (by omega), rb_ret]
  rfl
theorem n9_Case {M : gM} {a : Int32} {n : Nat} (hn : M 9 6 = nI n) (h2 : n ≤ 8) (h : bad a n) : f_X9_isCase M a = rRet 0 M := by
  unfold f_X9_isCase
  rw [hn, wit_no (by omega) h, rb_ret]
  rfl
theorem c8_Claim {M : gM} {i n : Nat} (hn : M 3 0 = nI n) (h : i < n) (h2 : n ≤ 24) : f_X8_checkClaim M (nI i) = rRet 0 M := by
  unfold f_X8_checkClaim
  rw [hn, if_neg (nI_pos (by omega)), if_pos (nI_lt h (by omega))]
theorem n8_Claim {M : gM} {a : Int32} {n : Nat} (hn : M 3 0 = nI n) (h : bad a n) : f_X8_checkClaim M a = rThr 0 M := by
  unfold f_X8_checkClaim
  rcases h with h | ⟨h, h2⟩
  · rw [if_pos h]
  · rw [if_neg h, hn, if_neg h2]
theorem c9_Claim {M : gM} {i n : Nat} (hn : M 9 11 = nI n) (h : i < n) (h2 : n ≤ 24) : f_X9_isClaim M (nI i) = rRet 1 M := by
  unfold f_X9_isClaim
  rw [hn, wit_ok h (by omega), rb_ret]
  rfl
theorem n9_Claim {M : gM} {a : Int32} {n : Nat} (hn : M 9 11 = nI n) (h2 : n ≤ 24) (h : bad a n) : f_X9_isClaim M a = rRet 0 M := by
  unfold f_X9_isClaim
  rw [hn, wit_no (by omega) h, rb_ret]
  rfl
theorem c8_Entry {M : gM} {i n : Nat} (hn : M 4 0 = nI n) (h : i < n) (h2 : n ≤ 160) : f_X8_checkEntry M (nI i) = rRet 0 M := by
  unfold f_X8_checkEntry
  rw [hn, if_neg (nI_pos (by omega)), if_pos (nI_lt h (by omega))]
theorem n8_Entry {M : gM} {a : Int32} {n : Nat} (hn : M 4 0 = nI n) (h : bad a n) : f_X8_checkEntry M a = rThr 0 M := by
  unfold f_X8_checkEntry
  rcases h with h | ⟨h, h2⟩
  · rw [if_pos h]
  · rw [if_neg h, hn, if_neg h2]
theorem c9_Entry {M : gM} {i n : Nat} (hn : M 9 23 = nI n) (h : i < n) (h2 : n ≤ 160) : f_X9_isEntry M (nI i) = rRet 1 M := by
  unfold f_X9_isEntry
  rw [hn, wit_ok h (by omega), rb_ret]
  rfl
theorem n9_Entry {M : gM} {a : Int32} {n : Nat} (hn : M 9 23 = nI n) (h2 : n ≤ 160) (h : bad a n) : f_X9_isEntry M a = rRet 0 M := by
  unfold f_X9_isEntry
  rw [hn, wit_no (by omega) h, rb_ret]
  rfl
theorem c8_Hearing {M : gM} {i n : Nat} (hn : M 5 0 = nI n) (h : i < n) (h2 : n ≤ 40) : f_X8_checkHearing M (nI i) = rRet 0 M := by
  unfold f_X8_checkHearing
  rw [hn, if_neg (nI_pos (by omega)), if_pos (nI_lt h (by omega))]
theorem n8_Hearing {M : gM} {a : Int32} {n : Nat} (hn : M 5 0 = nI n) (h : bad a n) : f_X8_checkHearing M a = rThr 0 M := by
  unfold f_X8_checkHearing
  rcases h with h | ⟨h, h2⟩
  · rw [if_pos h]
  · rw [if_neg h, hn, if_neg h2]
theorem c8_Exhibit {M : gM} {i n : Nat} (hn : M 7 0 = nI n) (h : i < n) (h2 : n ≤ 12) : f_X8_checkExhibit M (nI i) = rRet 0 M := by
  unfold f_X8_checkExhibit
  rw [hn, if_neg (nI_pos (by omega)), if_pos (nI_lt h (by omega))]
theorem n8_Exhibit {M : gM} {a : Int32} {n : Nat} (hn : M 7 0 = nI n) (h : bad a n) : f_X8_checkExhibit M a = rThr 0 M := by
  unfold f_X8_checkExhibit
  rcases h with h | ⟨h, h2⟩
  · rw [if_pos h]
  · rw [if_neg h, hn, if_neg h2]
theorem c9_Exhibit {M : gM} {i n : Nat} (hn : M 9 48 = nI n) (h : i < n) (h2 : n ≤ 12) : f_X9_isExhibit M (nI i) = rRet 1 M := by
  unfold f_X9_isExhibit
  rw [hn, wit_ok h (by omega), rb_ret]
  rfl
theorem n9_Exhibit {M : gM} {a : Int32} {n : Nat} (hn : M 9 48 = nI n) (h2 : n ≤ 12) (h : bad a n) : f_X9_isExhibit M a = rRet 0 M := by
  unfold f_X9_isExhibit
  rw [hn, wit_no (by omega) h, rb_ret]
  rfl
theorem c8_Person {M : gM} {i : Nat} (h : i < 16) : f_X8_checkPerson M (nI i) = rRet 0 M := by
  unfold f_X8_checkPerson
  rw [show (16 : Int32) = nI 16 from by decide, if_neg (nI_pos (by omega)), if_pos (nI_lt h (by omega))]
theorem n8_Person {M : gM} {a : Int32} (h : bad a 16) : f_X8_checkPerson M a = rThr 0 M := by
  unfold f_X8_checkPerson
  rw [show (16 : Int32) = nI 16 from by decide]
  rcases h with h | ⟨h, h2⟩
  · rw [if_pos h]
  · rw [if_neg h, if_neg h2]
theorem w9_Person {M : gM} {i : Nat} (h : i < 16) : f_X9_within M (nI i) 0 15 = rRet 1 M := by
  rw [show (15 : Int32) = nI 16 - 1 from by decide]
  exact wit_ok h (by omega)
theorem v9_Person {M : gM} {a : Int32} (h : bad a 16) : f_X9_within M a 0 15 = rRet 0 M := by
  rw [show (15 : Int32) = nI 16 - 1 from by decide]
  exact wit_no (by omega) h
theorem c8_Side {M : gM} {i : Nat} (h : i < 2) : f_X8_checkSide M (nI i) = rRet 0 M := by
  unfold f_X8_checkSide
  rw [show (2 : Int32) = nI 2 from by decide, if_neg (nI_pos (by omega)), if_pos (nI_lt h (by omega))]
theorem n8_Side {M : gM} {a : Int32} (h : bad a 2) : f_X8_checkSide M a = rThr 0 M := by
  unfold f_X8_checkSide
  rw [show (2 : Int32) = nI 2 from by decide]
  rcases h with h | ⟨h, h2⟩
  · rw [if_pos h]
  · rw [if_neg h, if_neg h2]
theorem w9_Side {M : gM} {i : Nat} (h : i < 2) : f_X9_within M (nI i) 0 1 = rRet 1 M := by
  rw [show (1 : Int32) = nI 2 - 1 from by decide]
  exact wit_ok h (by omega)
theorem v9_Side {M : gM} {a : Int32} (h : bad a 2) : f_X9_within M a 0 1 = rRet 0 M := by
  rw [show (1 : Int32) = nI 2 - 1 from by decide]
  exact wit_no (by omega) h
theorem c8_Juror {M : gM} {i : Nat} (h : i < 14) : f_X8_checkJuror M (nI i) = rRet 0 M := by
  unfold f_X8_checkJuror
  rw [show (14 : Int32) = nI 14 from by decide, if_neg (nI_pos (by omega)), if_pos (nI_lt h (by omega))]
theorem n8_Juror {M : gM} {a : Int32} (h : bad a 14) : f_X8_checkJuror M a = rThr 0 M := by
  unfold f_X8_checkJuror
  rw [show (14 : Int32) = nI 14 from by decide]
  rcases h with h | ⟨h, h2⟩
  · rw [if_pos h]
  · rw [if_neg h, if_neg h2]
theorem w9_Juror {M : gM} {i : Nat} (h : i < 14) : f_X9_within M (nI i) 0 13 = rRet 1 M := by
  rw [show (13 : Int32) = nI 14 - 1 from by decide]
  exact wit_ok h (by omega)
theorem v9_Juror {M : gM} {a : Int32} (h : bad a 14) : f_X9_within M a 0 13 = rRet 0 M := by
  rw [show (13 : Int32) = nI 14 - 1 from by decide]
  exact wit_no (by omega) h
theorem c9_Person {M : gM} {i : Nat} (h : i < 16) : f_X9_isPerson M (nI i) = rRet 1 M := by
  unfold f_X9_isPerson
  rw [w9_Person h, rb_ret]
  rfl
theorem n9_Person {M : gM} {a : Int32} (h : bad a 16) : f_X9_isPerson M a = rRet 0 M := by
  unfold f_X9_isPerson
  rw [v9_Person h, rb_ret]
  rfl
theorem i10 : ¬ ((1 : Int32) = 0) := by decide
