theorem modL {y am : Nat} (hy : y < 2 ^ 31) (ha : am ≤ 99999) : ((nI y).toInt64 - (nI y).toInt64 / ((nI am).toInt64 + 1) * ((nI am).toInt64 + 1)).toInt32 = nI (y % (am + 1)) := by
  rw [nI_l hy, nI_l (show am < 2 ^ 31 by omega), lN_1, pk_lRem (by omega) (by omega) (by omega), lN_i]
theorem am1_ne {am : Nat} (ha : am ≤ 99999) : ¬ (nI am).toInt64 + 1 = 0 := by
  rw [nI_l (show am < 2 ^ 31 by omega), lN_1, ← lN_0, lN_eq (by omega) (by omega)]
  omega
theorem lN_ge1 {x : Nat} (h : 1 ≤ x) (hx : x < 2 ^ 31) : ¬ lN x < 1 := by
  rw [← lN_o, lN_lt hx (by omega)]
  omega
section LS2
variable {n t nk ne ns : Nat} {M : gM}
theorem ls_3 (h : IE n t nk ne ns M) (hn : n < 511) {k y : Nat} (hk : k < nk) (hy : y < 2 ^ 31) : ∃ M1 ne1, f_L_steps M (nI k) 3 (nI y) = rRet 1 M1 ∧ IE (n + 1) t nk ne1 ns M1 := by
  have a5 := h.n5.1
  obtain ⟨l1, l4, l5, l8⟩ := h.t
  have hh := h
  obtain ⟨⟨nh, nr, nx, I⟩, hE⟩ := hh
  obtain ⟨⟨am, b1, b2, b3, -⟩, -⟩ := hE.1 k hk
  unfold f_L_steps
  rw [ent_ret a5, rbN_ret, q_stateOf I hk, qb_ret, q_amountOf I hk, qb_ret, if_neg (by decide), if_neg (by decide), if_neg (by decide), if_pos rfl, gNz_ok (by decide), rmL (d := 3) (by decide) hy (by omega) (by omega)]
  by_cases c : nI (y % 3) = 0
  · rw [if_pos c]
    exact ls_j h hn hk (Or.inl rfl)
  · rw [if_neg c, gNz_ok (by decide), b3, gNzL_ok (am1_ne b2), dvL (d := 3) (by decide) hy (by omega) (by omega), modL (by omega) b2]
    exact ls_j h hn hk (Or.inr ⟨_, rfl, by rw [b3]; exact nI_le (by have := Nat.mod_lt (y / 3) (show 0 < am + 1 by omega); omega) (by omega), by have := Nat.mod_lt (y / 3) (show 0 < am + 1 by omega); omega⟩)
theorem ls_4 (h : IE n t nk ne ns M) (hn : n < 511) {k y : Nat} (hk : k < nk) : ∃ M1 ne1, f_L_steps M (nI k) 4 (nI y) = rRet 1 M1 ∧ IE (n + 1) t nk ne1 ns M1 := by
  have a5 := h.n5.1
  obtain ⟨l1, l4, l5, l8⟩ := h.t
  have hh := h
  obtain ⟨⟨nh, nr, nx, I⟩, hE⟩ := hh
  unfold f_L_steps
  rw [ent_ret a5, rbN_ret, q_stateOf I hk, qb_ret, q_amountOf I hk, qb_ret, if_neg (by decide), if_neg (by decide), if_neg (by decide), if_neg (by decide), if_pos rfl]
  rcases s_vacate h (by omega) hk with e | ⟨M1, e, h1, h57, h51, ⟨x, x1, x2, x3⟩, -⟩
  · rw [e, qb_ret, if_pos rfl]
    exact ⟨M, ne, fin_no a5 (nI k), h.up⟩
  · have hh1 := h1
    obtain ⟨⟨nh', nr', nx', I1⟩, hE1⟩ := hh1
    rw [e, qb_ret, if_neg (n3_ne (by omega)), q_stateOf I1 hk, qb_ret, h51, if_pos l64_0, q_amountOf I1 hk, qb_ret, x3, nI_l (show x < 2 ^ 31 by omega), if_neg (lN_ge1 x1 (by omega))]
    exact ⟨M1, ne + 1, fin_ok h1 h57, h1⟩
theorem ls_5 (h : IE n t nk ne ns M) (hn : n < 511) {k y : Nat} (hk : k < nk) : ∃ M1 ne1, f_L_steps M (nI k) 5 (nI y) = rRet 1 M1 ∧ IE (n + 1) t nk ne1 ns M1 := by
  have a5 := h.n5.1
  obtain ⟨l1, l4, l5, l8⟩ := h.t
  have hh := h
  obtain ⟨⟨nh, nr, nx, I⟩, hE⟩ := hh
  unfold f_L_steps
  rw [ent_ret a5, rbN_ret, q_stateOf I hk, qb_ret, q_amountOf I hk, qb_ret, if_neg (by decide), if_neg (by decide), if_neg (by decide), if_neg (by decide), if_neg (by decide), if_pos rfl]
  rcases s_appeal h (by omega) hk with e | ⟨M1, e, mA, h1, h51⟩
  · rw [e, qb_ret, if_pos rfl]
    exact ⟨M, ne, fin_no a5 (nI k), h.up⟩
  · have hh1 := h1
    obtain ⟨⟨nh', nr', nx', I1⟩, hE1⟩ := hh1
    have k51 : M1 51 k = 3 := by rw [mA 51 (by decide)]; exact upd_eq
    rw [e, qb_ret, if_neg (n3_ne (by omega)), h51, if_pos l64_2, q_stateOf I1 hk, qb_ret, k51, if_pos l64_3, q_balance I1 hk, qb_ret, bl_no (by rw [k51]; decide), if_pos l64_0]
    exact ⟨M1, ne + 1, fin_ok h1 (by rw [mA 57 (by decide)]; exact upd_eq), h1⟩
theorem ls_6 (h : IE n t nk ne ns M) (hn : n < 511) {k y : Nat} (hk : k < nk) (hy : y < 2 ^ 31) : ∃ M1 ne1, f_L_steps M (nI k) 6 (nI y) = rRet 1 M1 ∧ IE (n + 1) t nk ne1 ns M1 := by
  have a5 := h.n5.1
  obtain ⟨l1, l4, l5, l8⟩ := h.t
  have hh := h
  obtain ⟨⟨nh, nr, nx, I⟩, hE⟩ := hh
  obtain ⟨⟨am, b1, b2, b3, -⟩, -⟩ := hE.1 k hk
  have hm := Nat.mod_lt (y / 3) (show 0 < am + 1 by omega)
  have hr : y % 3 < 3 := Nat.mod_lt _ (by omega)
  have hq : (nI y - nI y / 3 * 3) = nI (y % 3) := rmL (d := 3) (by decide) hy (by omega) (by omega)
  unfold f_L_steps
  rw [ent_ret a5, rbN_ret, q_stateOf I hk, qb_ret, q_amountOf I hk, qb_ret, if_neg (by decide), if_neg (by decide), if_neg (by decide), if_neg (by decide), if_neg (by decide), if_neg (by decide), if_pos rfl, gNz_ok (by decide), gNz_ok (by decide), b3, gNzL_ok (am1_ne b2), hq, dvL (d := 3) (by decide) hy (by omega) (by omega), modL (by omega) b2]
  rcases s_decide h (by omega) hk hr (x := y / 3 % (am + 1)) (by rw [b3]; exact nI_le (by omega) (by omega)) (by omega) with e | ⟨M1, e, h1, h57, h51, k51, a, b, z1, z2, z3, z4⟩
  · rw [e, qb_ret, if_pos rfl]
    exact ⟨M, ne, fin_no a5 (nI k), h.up⟩
  · have hh1 := h1
    obtain ⟨⟨nh', nr', nx', I1⟩, hE1⟩ := hh1
    have haa : a = am := (nI_eq (by omega) (by omega)).mp (z3.symm.trans b3)
    subst haa
    have fin : f_L_steps_b493 M1 (nI k) (nI ne) (lN ne) = rRet 1 M1 := fin_ok h1 h57
    have b478 : ∀ v : Int64, f_L_steps_b478 M1 (nI k) (nI ne) (nI a).toInt64 (lN ne) v v = rRet 1 M1 := by
      intro v
      unfold f_L_steps_b478
      rw [if_pos rfl, q_amountOf I1 hk, qb_ret, z4, nI_l (show a < 2 ^ 31 by omega), nI_l (show b < 2 ^ 31 by omega), if_neg (by rw [lN_lt (by omega) (by omega)]; omega)]
      exact fin
    rw [e, qb_ret, if_neg (n3_ne (by omega)), h51, if_pos l64_3, q_stateOf I1 hk, qb_ret, k51, gNz_ok (by decide)]
    refine ⟨M1, ne + 1, ?_, h1⟩
    have hc : y % 3 = 0 ∨ y % 3 = 1 ∨ y % 3 = 2 := by omega
    rcases hc with c | c | c
    · rw [c, if_pos (by decide)]
      exact b478 2
    · rw [c, if_neg (by decide), gNz_ok (by decide), if_pos (by decide)]
      exact b478 1
    · rw [c, if_neg (by decide), gNz_ok (by decide), if_neg (by decide)]
      exact b478 0
theorem ls_p (h : IE n t nk ne ns M) (hn : n < 511) {k y : Nat} (hk : k < nk) (hy : y < 2 ^ 31) : ∃ M1 ne1, f_L_steps_b577 M (nI k) 7 (nI y) (nI ne) (M 51 k).toInt64 (-9000000000000000003) 1 = rRet 1 M1 ∧ IE (n + 1) t nk ne1 ns M1 := by
  have a5 := h.n5.1
  obtain ⟨l1, l4, l5, l8⟩ := h.t
  have hh := h
  obtain ⟨⟨nh, nr, nx, I⟩, hE⟩ := hh
  have hr : y / 4 % 3000 < 3000 := Nat.mod_lt _ (by omega)
  have hq : nI y / 4 - nI y / 4 / 3000 * 3000 = nI (y / 4 % 3000) := by
    rw [dvL (d := 4) (by decide) hy (by omega) (by omega), rmL (d := 3000) (by decide) (by omega) (by omega) (by omega)]
  have hq1 : 1 + nI (y / 4 % 3000) = nI (y / 4 % 3000 + 1) := by
    rw [show (1 : Int32) = nI 1 from by decide, nI_add, Nat.add_comm]
  unfold f_L_steps_b577
  rw [if_pos rfl, q_balance I hk, qb_ret, gNz_ok (by decide), gNz_ok (by decide), hq, hq1]
  generalize y / 4 % 3000 = r at *
  have fno : f_L_steps_b648 M (nI k) (nI ne) (-9000000000000000003) = rRet 1 M := fin_no a5 (nI k)
  rcases s_pay h (by omega) hk (x := r + 1) (by omega) (by omega) with ⟨e, hno⟩ | ⟨M1, b, e, xb, b9, hb, h1, h57, h51, k51⟩
  · rw [e, qb_ret, if_pos rfl]
    refine ⟨M, ne, ?_, h.up⟩
    by_cases c : M 51 k = 2
    · rw [c, if_pos l64_2, gNz_ok (by decide), gNz_ok (by decide)]
      obtain ⟨b, y1, y2, y3, -⟩ := bl_won hE l1 (by omega) hk c
      rw [y3, nI_l (show b < 2 ^ 31 by omega), nI_l (show r + 1 < 2 ^ 31 by omega)]
      by_cases q : b < r + 1
      · rw [if_pos ((lN_lt (by omega) (by omega)).mpr q)]
        exact fno
      · rw [if_neg (fun z => q ((lN_lt (by omega) (by omega)).mp z))]
        have : ne = 160 := by
          by_cases w : ne < 160
          · have := hno c w
            rw [y3] at this
            exact absurd ((nI_ltI (by omega) (by omega)).mp this) q
          · omega
        rw [if_pos (show nI ne = 160 by rw [this]; decide)]
        exact fno
    · rw [if_neg (fun z => c (i64_inj (z.trans l64_2.symm)))]
      exact fno
  · have hh1 := h1
    obtain ⟨⟨nh', nr', nx', I1⟩, hE1⟩ := hh1
    refine ⟨M1, ne + 1, ?_, h1⟩
    have fin : f_L_steps_b705 M1 (nI k) (nI ne) (lN (b - (r + 1))) 1 = rRet 1 M1 := by
      unfold f_L_steps_b705
      rw [if_neg (n3_ne (by omega))]
      unfold f_L_steps_b725
      rw [nI_l (show ne < 2 ^ 31 by omega)]
      exact fin_ok h1 h57
    have hx : lN b - 1 - lN r = lN (b - (r + 1)) := by
      rw [← lN_o, lN_sub (by omega), lN_sub (by omega), show b - 1 - r = b - (r + 1) by omega]
    rw [e, qb_ret, if_neg (n3_ne (by omega)), gNz_ok (by decide), gNz_ok (by decide), hb, nI_l (show b < 2 ^ 31 by omega), nI_l (show r < 2 ^ 31 by omega), hx, if_pos rfl, q_stateOf I1 hk, qb_ret, k51]
    unfold f_L_steps_b696
    by_cases c : b - (r + 1) = 0
    · rw [c, lN_0, if_pos rfl, show leS (nI 0) = 5 from by decide, if_pos l64_5]
      rw [c, lN_0] at fin
      exact fin
    · have c1 : ¬ nI (b - (r + 1)) = 0 := fun z => c ((nI_e0 (by omega)).mp z)
      rw [if_neg (fun z => c ((lN_eq (by omega) (by omega)).mp (z.trans lN_0.symm)))]
      unfold leS
      rw [if_neg c1, if_pos l64_2]
      exact fin
theorem ls_7 (h : IE n t nk ne ns M) (hn : n < 511) {k y : Nat} (hk : k < nk) (hy : y < 2 ^ 31) : ∃ M1 ne1, f_L_steps M (nI k) 7 (nI y) = rRet 1 M1 ∧ IE (n + 1) t nk ne1 ns M1 := by
  have a5 := h.n5.1
  obtain ⟨l1, l4, l5, l8⟩ := h.t
  have hh := h
  obtain ⟨⟨nh, nr, nx, I⟩, hE⟩ := hh
  unfold f_L_steps
  rw [ent_ret a5, rbN_ret, q_stateOf I hk, qb_ret, q_amountOf I hk, qb_ret, if_neg (by decide), if_neg (by decide), if_neg (by decide), if_neg (by decide), if_neg (by decide), if_neg (by decide), if_neg (by decide), if_pos rfl, gNz_ok (by decide), rmL (d := 4) (by decide) hy (by omega) (by omega)]
  by_cases c : nI (y % 4) = 0
  · rw [if_pos c]
    rcases s_settle h (by omega) hk with ⟨e, -⟩ | ⟨M1, e, mA, h1⟩
    · rw [e, qb_ret, if_pos rfl]
      exact ⟨M, ne, fin_no a5 (nI k), h.up⟩
    · have hh1 := h1
      obtain ⟨⟨nh', nr', nx', I1⟩, hE1⟩ := hh1
      have k51 : M1 51 k = 4 := by rw [mA 51 (by decide)]; exact upd_eq
      have e55 : M1 55 = upd (M 55) ne 9 := mA 55 (by decide)
      have e57 : M1 57 = upd (M 57) ne (nI k) := mA 57 (by decide)
      have e61 : M1 61 = M 61 := mA 61 (by decide)
      have hse : f_W_settle M1 (nI k) = qRet (-9000000000000000003) M1 := by
        have ho := o_settle I1 hk
        rw [if_neg (fun z => by
          have z := z.2
          unfold stB at z
          rw [k51] at z
          exact absurd z (by decide))] at ho
        exact x2_settle ho
      have hva : f_W_vacate M1 (nI k) = qRet (-9000000000000000003) M1 := by
        rcases s_vacate h1 (by omega) hk with e | ⟨M2, e, -, -, -, -, o, o1, o2, o3⟩
        · exact e
        · exfalso
          have hl : olast (M1 55) (M1 57) (M1 61) (ne + 1) (nI k) ne := by
            rw [e55, e57, e61]
            exact olast.nw (by decide) (Gd1.z61 I)
          have := (nI_eq (by omega) (by omega)).mp (o2.symm.trans (hl.lo (by omega)))
          subst this
          rw [e55, upd_eq] at o3
          rcases o3 with z | z <;> exact absurd z (by decide)
      rw [e, qb_ret, if_neg (n3_ne (by omega)), q_stateOf I1 hk, qb_ret, k51, if_pos l64_4, hse, qb_ret, if_pos rfl, hva, qb_ret, if_pos rfl]
      exact ⟨M1, ne + 1, fin_ok h1 (by rw [e57, upd_eq]), h1⟩
  · rw [if_neg c]
    exact ls_p h hn hk hy
theorem L_steps (h : IE n t nk ne ns M) (hn : n < 511) {k o y : Nat} (hk : k < nk) (ho : o < 8) (hy : y < 2 ^ 31) : ∃ M1 ne1, f_L_steps M (nI k) (nI o) (nI y) = rRet 1 M1 ∧ IE (n + 1) t nk ne1 ns M1 := by
  have : o = 0 ∨ o = 1 ∨ o = 2 ∨ o = 3 ∨ o = 4 ∨ o = 5 ∨ o = 6 ∨ o = 7 := by omega
  rcases this with q | q | q | q | q | q | q | q
  · subst q; exact ls_0 h (by omega) hk hy
  · subst q; exact ls_1 h hn hk
  · subst q; exact ls_2 h hn hk
  · subst q; exact ls_3 h hn hk hy
  · subst q; exact ls_4 h hn hk
  · subst q; exact ls_5 h hn hk
  · subst q; exact ls_6 h hn hk hy
  · subst q; exact ls_7 h hn hk hy
end LS2
