/-! ===== the law's methods ===== -/
theorem i64_toInt (x : Int32) : x.toInt64.toInt = x.toInt := by simp
theorem i64_ne1 (x : Int32) : ¬ x.toInt64 = -9000000000000000001 := by
  intro q
  have h := congrArg Int64.toInt q
  rw [i64_toInt, show (-9000000000000000001 : Int64).toInt = -9000000000000000001 from by decide] at h
  have := x.le_toInt
  omega
theorem i64_ne3 (x : Int32) : ¬ x.toInt64 = -9000000000000000003 := by
  intro q
  have h := congrArg Int64.toInt q
  rw [i64_toInt, show (-9000000000000000003 : Int64).toInt = -9000000000000000003 from by decide] at h
  have := x.le_toInt
  omega
theorem i64_inj {x y : Int32} (h : x.toInt64 = y.toInt64) : x = y := by
  have h := congrArg Int64.toInt h
  rw [i64_toInt, i64_toInt] at h
  exact Int32.toInt_inj.mp h
theorem ent_ret {M : gM} {ne : Nat} (a5 : M 4 0 = nI ne) : f_X8_entries M = rRet (nI ne) M := by
  unfold f_X8_entries
  rw [a5]
theorem tod_ret {M : gM} {t : Nat} (a1 : M 1 0 = nI t) : f_X8_today M = rRet (nI t) M := by
  unfold f_X8_today
  rw [a1]
theorem gNz_ok {y : Int32} {F : gR} (h : ¬ y = 0) : gNz y F = F := if_neg h
theorem gNzL_ok {y : Int64} {F : gR} (h : ¬ y = 0) : gNzL y F = F := if_neg h
theorem rmL {y d : Nat} {D : Int32} (hD : nI d = D) (hy : y < 2 ^ 31) (h0 : 0 < d) (hd : d < 2 ^ 31) : nI y - nI y / D * D = nI (y % d) := by
  rw [← hD]
  exact pk_rem hy h0 hd
theorem dvL {y d : Nat} {D : Int32} (hD : nI d = D) (hy : y < 2 ^ 31) (h0 : 0 < d) (hd : d < 2 ^ 31) : nI y / D = nI (y / d) := by
  rw [← hD]
  exact pk_div hy h0 hd
theorem z11 {M : gM} : gZ01 1 (rRet 1 M) = rRet 1 M := z01_eq (Or.inr rfl)
theorem IE.n5 {n t nk ne ns : Nat} {M : gM} (h : IE n t nk ne ns M) : M 4 0 = nI ne ∧ M 1 0 = nI t ∧ M 3 0 = nI nk := by
  obtain ⟨⟨nh, nr, nx, I⟩, hE⟩ := h
  exact ⟨I.1.1.2.2.2.2.1, I.1.1.1, I.1.1.2.2.2.1⟩
theorem fin_no {M : gM} {ne : Nat} (a5 : M 4 0 = nI ne) (k : Int32) : f_L_steps_b727 M k (nI ne) (-9000000000000000003) 1 = rRet 1 M := by
  unfold f_L_steps_b727
  rw [if_neg i10, if_pos rfl, ent_ret a5, rbN_ret, if_pos rfl, z11]
theorem fin_ok {n t nk ne ns : Nat} {M : gM} (h : IE n t nk (ne + 1) ns M) {k : Int32} (h57 : M 57 ne = k) : f_L_steps_b727 M k (nI ne) (lN ne) 1 = rRet 1 M := by
  have a5 := h.n5.1
  obtain ⟨l1, l4, l5, l8⟩ := h.t
  obtain ⟨⟨nh, nr, nx, I⟩, hE⟩ := h
  unfold f_L_steps_b727
  rw [if_neg i10, if_neg (n3_ne (by omega)), if_pos (nI_l (by omega)).symm, ent_ret a5, rbN_ret, nI_1, if_pos rfl, (q_at I (show ne < ne + 1 by omega)).2.2.1, qb_ret, h57, if_pos rfl, z11]
section LS
variable {n t nk ne ns : Nat} {M : gM}
theorem ls_0 (h : IE n t nk ne ns M) (hn : n < 512) {k y : Nat} (hk : k < nk) (hy : y < 2 ^ 31) : ∃ M1 ne1, f_L_steps M (nI k) 0 (nI y) = rRet 1 M1 ∧ IE (n + 1) t nk ne1 ns M1 := by
  have a5 := h.n5.1
  obtain ⟨l1, l4, l5, l8⟩ := h.t
  have hh := h
  obtain ⟨⟨nh, nr, nx, I⟩, hE⟩ := hh
  unfold f_L_steps
  rw [ent_ret a5, rbN_ret, q_stateOf I hk, qb_ret, q_amountOf I hk, qb_ret, if_pos rfl, gNz_ok (by decide), rmL (d := 3) (by decide) hy (by omega) (by omega)]
  rcases s_serve h hn hk (show y % 3 < 3 by omega) with ⟨e, -⟩ | ⟨M1, e, mA, h1⟩
  · rw [e, qb_ret]
    exact ⟨M, ne, fin_no a5 (nI k), h.up⟩
  · rw [e, qb_ret]
    exact ⟨M1, ne + 1, fin_ok h1 (by rw [mA 57 (by decide)]; exact upd_eq), h1⟩
theorem cn_new {M1 : gM} {ne e : Nat} (h : M1 65 e = -1) : cnV M1 t ne e = 1 := if_pos h
theorem ls_1 (h : IE n t nk ne ns M) (hn : n < 511) {k y : Nat} (hk : k < nk) : ∃ M1 ne1, f_L_steps M (nI k) 1 (nI y) = rRet 1 M1 ∧ IE (n + 1) t nk ne1 ns M1 := by
  have a5 := h.n5.1
  obtain ⟨l1, l4, l5, l8⟩ := h.t
  have hh := h
  obtain ⟨⟨nh, nr, nx, I⟩, hE⟩ := hh
  unfold f_L_steps
  rw [ent_ret a5, rbN_ret, q_stateOf I hk, qb_ret, q_amountOf I hk, qb_ret, if_neg (by decide), if_pos rfl]
  rcases s_answer h (by omega) hk with ⟨e, -⟩ | ⟨M1, e, mA, h1, ca⟩
  · rw [e, qb_ret, if_pos rfl]
    exact ⟨M, ne, fin_no a5 (nI k), h.up⟩
  · have hh1 := h1
    obtain ⟨⟨nh', nr', nx', I1⟩, hE1⟩ := hh1
    have e55 : M1 55 = upd (M 55) ne 1 := mA 55 (by decide)
    have e57 : M1 57 = upd (M 57) ne (nI k) := mA 57 (by decide)
    have e65 : M1 65 = upd (M 65) ne (-1) := mA 65 (by decide)
    have han : ansB M1 t (ne + 1) (nI k) = true := by
      unfold ansB
      rw [exB_iff]
      refine ⟨ne, by omega, ?_⟩
      rw [decide_eq_true (show M1 55 ne = 1 by rw [e55, upd_eq]), decide_eq_true (show M1 57 ne = nI k by rw [e57, upd_eq]), decide_eq_true (cn_new (by rw [e65, upd_eq]))]
      rfl
    have hno : f_W_answer M1 (nI k) = qRet (-9000000000000000003) M1 := by
      rcases s_answer h1 (by omega) hk with ⟨e, -⟩ | ⟨M2, e, -, -, ca2⟩
      · exact e
      · exfalso
        unfold caB unB at ca2
        rw [han] at ca2
        simp at ca2
    rw [e, qb_ret, if_neg (n3_ne (by omega)), q_answered I1 hk, qb_ret, if_pos han, if_pos rfl, caB_51 ca, if_pos l64_0, hno, qb_ret, if_pos rfl]
    exact ⟨M1, ne + 1, fin_ok h1 (by rw [e57, upd_eq]), h1⟩
theorem ls_2 (h : IE n t nk ne ns M) (hn : n < 511) {k y : Nat} (hk : k < nk) : ∃ M1 ne1, f_L_steps M (nI k) 2 (nI y) = rRet 1 M1 ∧ IE (n + 1) t nk ne1 ns M1 := by
  have a5 := h.n5.1
  obtain ⟨l1, l4, l5, l8⟩ := h.t
  have hh := h
  obtain ⟨⟨nh, nr, nx, I⟩, hE⟩ := hh
  unfold f_L_steps
  rw [ent_ret a5, rbN_ret, q_stateOf I hk, qb_ret, q_amountOf I hk, qb_ret, if_neg (by decide), if_neg (by decide), if_pos rfl]
  rcases s_motion h (by omega) hk with ⟨e, -⟩ | ⟨M1, e, mA, h1, ca⟩
  · rw [e, qb_ret, if_pos rfl]
    exact ⟨M, ne, fin_no a5 (nI k), h.up⟩
  · have hh1 := h1
    obtain ⟨⟨nh', nr', nx', I1⟩, hE1⟩ := hh1
    have e55 : M1 55 = upd (M 55) ne 2 := mA 55 (by decide)
    have e56 : M1 56 = upd (M 56) ne (nI t) := mA 56 (by decide)
    have e57 : M1 57 = upd (M 57) ne (nI k) := mA 57 (by decide)
    have e65 : M1 65 = upd (M 65) ne (-1) := mA 65 (by decide)
    have e62 : M1 62 = M 62 := mA 62 (by decide)
    have z62 : M 62 ne = 0 := (I.2.2.2.2.2.2.2.2.2.2.1.2.2.2.2.2.2.2.2.1 ne (Nat.le_refl _)).2
    have hmo : mopB M1 t (ne + 1) (nI k) = true := by
      unfold mopB
      rw [exB_iff]
      refine ⟨ne, by omega, ?_⟩
      unfold opnV
      rw [decide_eq_true (show M1 55 ne = 2 by rw [e55, upd_eq]), decide_eq_true (show M1 57 ne = nI k by rw [e57, upd_eq]), decide_eq_true (show M1 62 ne = 0 by rw [e62, z62]), decide_eq_true (cn_new (by rw [e65, upd_eq]))]
      rfl
    have had : adV M1 t (ne + 1) (nI k) = -1 := by
      unfold adV
      rw [hmo]
      by_cases q : asV M1 (ne + 1) (nI k) = -1
      · rw [if_pos q]
      · rw [if_neg q, if_pos rfl]
    have hno : f_W_motion M1 (nI k) = qRet (-9000000000000000003) M1 := by
      rcases s_motion h1 (by omega) hk with ⟨e, -⟩ | ⟨M2, e, -, -, ca2⟩
      · exact e
      · exfalso
        unfold caB unB at ca2
        rw [hmo] at ca2
        simp at ca2
    have hru : f_W_ruling M1 (nI ne) 0 = qRet (-9000000000000000003) M1 := by
      obtain ⟨⟨am, b1, b2, b3, -⟩, -⟩ := hE1.1 k hk
      rcases s_ruling h1 (by omega) (show ne < ne + 1 by omega) (by rw [e55, upd_eq]) (by rw [e57, upd_eq]) hk (Or.inr ⟨0, nI_0.symm, by rw [b3]; exact nI_lt b1 (by omega), by omega⟩) with ⟨e, -⟩ | ⟨M2, e, -, -, -, -, -, -, ca2⟩
      · exact e
      · exfalso
        unfold ruB at ca2
        rw [Bool.and_eq_true, Bool.and_eq_true, Bool.or_eq_true] at ca2
        rcases ca2.2.2 with z | z
        · unfold rspB at z
          rw [exB_iff] at z
          obtain ⟨j, j1, j2⟩ := z
          obtain ⟨y1, y2, -⟩ := and3_t j2
          have y1 := of_decide_eq_true y1
          have y2 := of_decide_eq_true y2
          obtain ⟨m, m1, m2, -⟩ := I1.2.2.2.2.2.2.2.2.2.2.1.2.2.2.1 j j1 y1
          have := (nI_eq (by omega) (by omega)).mp (y2.symm.trans m2)
          omega
        · have hp : paV t (duV M1 (ne + 1) ne) = 0 := by
            rcases du_now I1 (i := ne) (by rw [e56, upd_eq]) with q | ⟨w, w1, w2, w3⟩
            · rw [q]; exact paV_m1 t
            · rw [w3]; exact paV_0 (by omega) (by omega)
          rw [hp] at z
          exact absurd z (by decide)
    rw [e, qb_ret, if_neg (n3_ne (by omega)), q_due0 I1 (by omega) hk, qb_ret, had, if_pos l64_m1, hno, qb_ret, if_pos rfl, hru, qb_ret, if_pos rfl]
    exact ⟨M1, ne + 1, fin_ok h1 (by rw [e57, upd_eq]), h1⟩
theorem ls_j (h : IE n t nk ne ns M) (hn : n < 511) {k : Nat} (hk : k < nk) {a : Int32} (ha : a = -1 ∨ ∃ x, a = nI x ∧ nI x ≤ M 50 k ∧ x < 2 ^ 31) : ∃ M1 ne1, f_L_steps_b202 M (nI k) (nI ne) (M 51 k).toInt64 (nI k) a = rRet 1 M1 ∧ IE (n + 1) t nk ne1 ns M1 := by
  have a5 := h.n5.1
  obtain ⟨l1, l4, l5, l8⟩ := h.t
  unfold f_L_steps_b202
  rcases s_judge h (by omega) hk ha with e | ⟨M1, e, h1, h51, h57, hs⟩
  · rw [e, qb_ret, if_pos rfl]
    exact ⟨M, ne, fin_no a5 (nI k), h.up⟩
  · have hh1 := h1
    obtain ⟨⟨nh', nr', nx', I1⟩, hE1⟩ := hh1
    rw [e, qb_ret, if_neg (n3_ne (by omega)), h51, if_pos l64_0, q_stateOf I1 hk, qb_ret]
    refine ⟨M1, ne + 1, ?_, h1⟩
    unfold f_L_steps_b245
    rcases hs with hs | ⟨hs, hb⟩
    · rw [hs, if_neg (by decide), q_stateOf I1 hk, qb_ret, hs, if_pos l64_1, q_stateOf I1 hk, qb_ret, hs, if_pos l64_1]
      exact fin_ok h1 h57
    · rw [hs, if_pos l64_2, q_stateOf I1 hk, qb_ret, hs, if_neg (by decide), q_balance I1 hk, qb_ret, q_amountOf I1 hk, qb_ret, hb, if_pos rfl, q_due2 I1 (by omega) hk, qb_ret, if_neg (i64_ne1 _)]
      exact fin_ok h1 h57
end LS
