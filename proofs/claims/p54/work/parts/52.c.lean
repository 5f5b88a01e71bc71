theorem i64_i32 (x : Int32) : x.toInt64.toInt32 = x := by simp
theorem not_lN {m : Nat} (h : m < 2 ^ 31) : ¬ (-9000000000000000003 : Int64) = (nI m).toInt64 := by
  rw [nI_l h]
  exact fun q => n3_ne h q.symm
theorem ioo_lN {m : Nat} (h : m < 2 ^ 31) : ¬ (-9000000000000000001 : Int64) = (nI m).toInt64 := by
  rw [nI_l h]
  exact fun q => n1_ne h q.symm
section LA
variable {n t nk ne ns : Nat} {M : gM}
theorem la_0 (h : IE n t nk ne ns M) (hn : n < 510) {e : Nat} (he : e < ne) (y : Int32) : ∃ M1 ne1 ns1, f_L_about M (nI e) 0 y = rRet 1 M1 ∧ IE (n + 2) t nk ne1 ns1 M1 := by
  have a5 := h.n5.1
  obtain ⟨l1, l4, l5, l8⟩ := h.t
  have hh := h
  obtain ⟨⟨nh, nr, nx, I⟩, hE⟩ := hh
  unfold f_L_about
  rw [ent_ret a5, rbN_ret, (q_at I he).1, qb_ret, if_pos rfl]
  by_cases m2 : M 55 e = 2
  · rcases s_respond h (by omega) he m2 with ⟨q, -⟩ | ⟨M1, q, mA, h1⟩
    · rw [q, qb_ret, m2, if_pos l64_2, if_pos rfl]
      unfold f_L_about_b60
      rw [if_pos rfl, if_neg (not_lN (by omega)), z11]
      exact ⟨M, ne, ns, rfl, h.up.up⟩
    · have hh1 := h1
      obtain ⟨⟨nh', nr', nx', I1⟩, hE1⟩ := hh1
      have e55 : M1 55 = upd (M 55) ne 3 := mA 55 (by decide)
      have e58 : M1 58 = upd (M 58) ne (nI e) := mA 58 (by decide)
      have e65 : M1 65 = upd (M 65) ne (-1) := mA 65 (by decide)
      have c1 : cnV M1 t (ne + 1) ne = 1 := cn_new (by rw [e65, upd_eq])
      have hno : f_W_respond M1 (nI e) = qRet (-9000000000000000003) M1 := by
        have ho := o_respond I1 (by omega) (m := e) (by omega) (by rw [e55, upd_lt he]; exact m2)
        rw [if_neg (fun z => by
          have z := z.2
          have hr : rspB M1 t (ne + 1) (nI e) = true := by
            unfold rspB
            rw [exB_iff]
            refine ⟨ne, by omega, ?_⟩
            rw [decide_eq_true (show M1 55 ne = 3 by rw [e55, upd_eq]), decide_eq_true (show M1 58 ne = nI e by rw [e58, upd_eq]), decide_eq_true c1]
            rfl
          unfold reB at z
          rw [hr] at z
          simp at z)] at ho
        exact x2_respond ho
      rw [q, qb_ret, m2, if_pos l64_2, if_neg (n3_ne (by omega))]
      unfold f_L_about_b60
      rw [if_pos (nI_l (by omega)).symm, if_pos (nI_l (by omega)).symm, q_counts I1 (show ne < ne + 1 by omega), qb_ret, c1, if_neg i10, if_pos rfl, hno, qb_ret, if_pos rfl, z11]
      exact ⟨M1, ne + 1, ns, rfl, h1.up⟩
  · have hx : f_W_respond M (nI e) = qRet (-9000000000000000001) M := by
      refine x0_respond ?_
      rcases mot_cases I (nI e) with ⟨m, m1, q1, q2, -⟩ | ⟨q, -⟩
      · have := (nI_eq (by omega) (by omega)).mp q1
        subst this
        exact absurd q2 m2
      · unfold f_X8_respond
        rw [q, rb_thr]
    rw [hx, qb_ret, if_neg (fun z => m2 (i64_inj (z.trans l64_2.symm)))]
    unfold f_L_about_b60
    rw [if_pos rfl, if_neg (ioo_lN (by omega)), z11]
    exact ⟨M, ne, ns, rfl, h.up.up⟩
theorem la_1 (h : IE n t nk ne ns M) (hn : n < 510) {e : Nat} (he : e < ne) {y : Nat} (hy : y < 2 ^ 31) : ∃ M1 ne1 ns1, f_L_about M (nI e) 1 (nI y) = rRet 1 M1 ∧ IE (n + 2) t nk ne1 ns1 M1 := by
  have a5 := h.n5.1
  obtain ⟨l1, l4, l5, l8⟩ := h.t
  have hh := h
  obtain ⟨⟨nh, nr, nx, I⟩, hE⟩ := hh
  unfold f_L_about
  rw [ent_ret a5, rbN_ret, (q_at I he).1, qb_ret, if_neg (by decide), if_pos rfl, (q_at I he).2.2.1, qb_ret]
  simp only [bV]
  rw [i64_i32]
  by_cases m2 : M 55 e = 2
  · obtain ⟨k, c, d, hk, c1, d1, e57, e47, e56⟩ := I.ent he (by rw [m2]; decide)
    obtain ⟨⟨am, b1, b2, b3, -⟩, -⟩ := hE.1 k hk
    have hm := Nat.mod_lt y (show 0 < am + 1 by omega)
    rw [m2, if_pos l64_2, e57, q_amountOf I hk, qb_ret, b3]
    unfold f_L_about_b135
    rw [gNzL_ok (am1_ne b2), modL hy b2]
    simp only [bV]
    generalize y % (am + 1) = r at hm
    have hx : nI r - 1 = -1 ∨ ∃ x, nI r - 1 = nI x ∧ nI x < M 50 k ∧ x < 2 ^ 31 := by
      by_cases q : r = 0
      · subst q
        exact Or.inl (by decide)
      · obtain ⟨s, rfl⟩ : ∃ s, r = s + 1 := ⟨r - 1, by omega⟩
        exact Or.inr ⟨s, nI_pred s, by rw [b3]; exact nI_lt (by omega) (by omega), by omega⟩
    generalize nI r - 1 = x at hx
    rcases s_ruling h (by omega) he m2 e57 hk hx with ⟨q, -⟩ | ⟨M1, q, h1, k51, k50, k62, k55, k57, -⟩
    · rw [q, qb_ret, if_pos l64_2, if_pos rfl, z11]
      exact ⟨M, ne, ns, rfl, h.up.up⟩
    · have hh1 := h1
      obtain ⟨⟨nh', nr', nx', I1⟩, hE1⟩ := hh1
      have hru : f_W_ruling M1 (nI e) (-1) = qRet (-9000000000000000003) M1 := by
        rcases s_ruling h1 (by omega) (show e < ne + 1 by omega) k55 k57 hk (Or.inl rfl) with ⟨q, -⟩ | ⟨M2, q, -, -, -, -, -, -, ca2⟩
        · exact q
        · exfalso
          unfold ruB opnV at ca2
          rw [k62] at ca2
          simp at ca2
      have hs : (if x = 0 then f_L_about_b218 M1 (nI e) (nI k) (nI am).toInt64 x (M1 51 k).toInt64 1 else f_L_about_b218 M1 (nI e) (nI k) (nI am).toInt64 x (M1 51 k).toInt64 0) = f_L_about_b218 M1 (nI e) (nI k) (nI am).toInt64 x (M1 51 k).toInt64 (M1 51 k).toInt64 := by
        rw [k51]
        unfold ruS
        by_cases q : x = 0
        · rw [if_pos q, if_pos q, l64_1]
        · rw [if_neg q, if_neg q, l64_0]
      rw [q, qb_ret, if_pos l64_2, if_neg (n3_ne (by omega)), if_pos (nI_l (by omega)).symm, q_stateOf I1 hk, qb_ret, hs]
      unfold f_L_about_b218 f_L_about_b241
      rw [if_pos rfl, q_amountOf I1 hk, qb_ret, k50]
      refine ⟨M1, ne + 1, ns, ?_, h1.up⟩
      unfold ruA
      by_cases q : x ≤ 0
      · rw [if_pos q, if_pos q, b3, if_pos rfl, hru, qb_ret, if_pos rfl, z11]
      · rw [if_neg q, if_neg q, if_pos rfl, hru, qb_ret, if_pos rfl, z11]
  · have hx : ∀ x, f_W_ruling M (nI e) x = qRet (-9000000000000000001) M := by
      intro x
      refine x0_ruling ?_
      rcases mot_cases I (nI e) with ⟨m, m1, q1, q2, -⟩ | ⟨q, -⟩
      · have := (nI_eq (by omega) (by omega)).mp q1
        subst this
        exact absurd q2 m2
      · unfold f_X8_ruling
        rw [q, rb_thr]
    have c2 : ¬ (M 55 e).toInt64 = 2 := fun z => m2 (i64_inj (z.trans l64_2.symm))
    rw [if_neg c2]
    unfold f_L_about_b135
    rw [gNzL_ok (by decide)]
    simp only [bV]
    rw [hx, qb_ret, if_neg c2, if_pos rfl, z11]
    exact ⟨M, ne, ns, rfl, h.up.up⟩
theorem la_2 (h : IE n t nk ne ns M) (hn : n < 510) {e : Nat} (he : e < ne) (y : Int32) : ∃ M1 ne1 ns1, f_L_about M (nI e) 2 y = rRet 1 M1 ∧ IE (n + 2) t nk ne1 ns1 M1 := by
  have a5 := h.n5.1
  obtain ⟨l1, l4, l5, l8⟩ := h.t
  have hh := h
  obtain ⟨⟨nh, nr, nx, I⟩, hE⟩ := hh
  obtain ⟨kd, d, h1, h2, h3, h4, -⟩ := I.2.2.2.2.2.2.2.2.2.2.1.2.1 e he
  have h3l : (3 : Int64) = lN 3 := by decide
  unfold f_L_about
  rw [ent_ret a5, rbN_ret, (q_at I he).1, qb_ret, if_neg (by decide), if_neg (by decide), if_pos rfl, h3, nI_l (show kd < 2 ^ 31 by omega)]
  rcases s_defect h (by omega) he with q | ⟨M1, v, q, hI1, hdu, hcn, hde, hkd⟩
  · rw [q, qb_ret]
    refine ⟨M, ne, ns, ?_, h.up.up⟩
    have hb : f_L_about_b292 M (-9000000000000000003) = rRet 1 M := by
      unfold f_L_about_b292
      rw [if_pos rfl, z11]
    by_cases c1 : lN kd < 1
    · rw [if_pos c1]; exact hb
    · rw [if_neg c1]
      by_cases c2 : lN kd ≤ 3
      · rw [if_pos c2, if_pos rfl, z11]
      · rw [if_neg c2]; exact hb
  · have hk : 1 ≤ kd ∧ kd ≤ 3 := by
      rw [h3] at hkd
      rcases hkd with z | z | z
      · rw [show (1 : Int32) = nI 1 from by decide, nI_eq (by omega) (by omega)] at z; omega
      · rw [show (2 : Int32) = nI 2 from by decide, nI_eq (by omega) (by omega)] at z; omega
      · rw [show (3 : Int32) = nI 3 from by decide, nI_eq (by omega) (by omega)] at z; omega
    rw [q, qb_ret, if_neg (lN_ge1 hk.1 (by omega)), if_pos (by rw [h3l, lN_le (by omega) (by omega)]; exact hk.2)]
    by_cases c3 : v = -9000000000000000003
    · rw [if_pos c3, z11]
      exact ⟨M1, ne, ns, rfl, hI1.up⟩
    · rw [if_neg c3, hdu, qb_ret, if_pos rfl, hcn, qb_ret, if_pos rfl, hde, qb_ret, if_pos rfl, z11]
      exact ⟨M1, ne, ns, rfl, hI1.up⟩
theorem la_3 (h : IE n t nk ne ns M) (hn : n < 510) {e : Nat} (he : e < ne) (y : Int32) : ∃ M1 ne1 ns1, f_L_about M (nI e) 3 y = rRet 1 M1 ∧ IE (n + 2) t nk ne1 ns1 M1 := by
  have a5 := h.n5.1
  have hh := h
  obtain ⟨⟨nh, nr, nx, I⟩, hE⟩ := hh
  unfold f_L_about
  rw [ent_ret a5, rbN_ret, (q_at I he).1, qb_ret, if_neg (by decide), if_neg (by decide), if_neg (by decide), if_pos rfl]
  rcases s_cure h (by omega) he with q | ⟨M1, q, h1, hcn, hcu⟩
  · rw [q, qb_ret, if_pos rfl, z11]
    exact ⟨M, ne, ns, rfl, h.up.up⟩
  · rw [q, qb_ret, if_neg (by decide), if_pos rfl, hcn, qb_ret, if_pos rfl, hcu, qb_ret, if_pos rfl, z11]
    exact ⟨M1, ne, ns, rfl, h1.up⟩
theorem la_s (h : IE n t nk ne ns M) (hn : n < 510) {e y : Nat} (he : e < ne) (hy : y < 2 ^ 31) {v : Int32} (hv : z01 v) : ∃ M1 ne1 ns1, f_L_about_b425 M (nI e) (nI y) v = rRet 1 M1 ∧ IE (n + 2) t nk ne1 ns1 M1 := by
  unfold f_L_about_b425
  obtain ⟨M1, r, ns1, q, hr, h1, hs1, -⟩ := s_seal h (by omega) he hv
  obtain ⟨M2, r2, ns2, q2, -, h2, hs2, hz⟩ := s_seal h1 (by omega) he hv
  rw [hz hs1] at q2
  have hb : f_L_about_b450 M1 (nI e) (nI y) v = rRet 1 M2 := by
    unfold f_L_about_b450
    rw [q2, qb_ret, if_pos rfl]
    by_cases c : v = 0
    · have a1 := h2.n5.2.1
      obtain ⟨d, d1, d2⟩ := h2.days e he
      have l1 := h2.t.1
      have hh := h2
      obtain ⟨⟨nh, nr, nx, I2⟩, hE2⟩ := hh
      rw [if_pos c, gNz_ok (by decide), gNz_ok (by decide), tod_ret a1, rbN_ret, dvL (d := 2) (by decide) hy (by omega) (by omega), rmL (d := 16) (by decide) (by omega) (by omega) (by omega), q_maySee I2 (by omega) he (Nat.mod_lt _ (by omega)) (Nat.le_refl _) (hs2.trans c), qb_ret, d2, if_neg (nI_nlt d1 (by omega)), if_pos rfl, z11]
    · rw [if_neg c, z11]
  refine ⟨M2, ne, ns2, ?_, h2⟩
  rcases hr with z | z
  · rw [q, qb_ret, if_pos z]
    exact hb
  · rw [q, qb_ret, z, if_neg (by decide), if_pos rfl]
    exact hb
theorem la_4 (h : IE n t nk ne ns M) (hn : n < 510) {e y : Nat} (he : e < ne) (hy : y < 2 ^ 31) : ∃ M1 ne1 ns1, f_L_about M (nI e) 4 (nI y) = rRet 1 M1 ∧ IE (n + 2) t nk ne1 ns1 M1 := by
  have a5 := h.n5.1
  have hh := h
  obtain ⟨⟨nh, nr, nx, I⟩, hE⟩ := hh
  unfold f_L_about
  rw [ent_ret a5, rbN_ret, (q_at I he).1, qb_ret, if_neg (by decide), if_neg (by decide), if_neg (by decide), if_neg (by decide), gNz_ok (by decide)]
  by_cases c : nI y - nI y / 2 * 2 = 0
  · rw [if_pos c]
    exact la_s h hn he hy (Or.inr rfl)
  · rw [if_neg c]
    exact la_s h hn he hy (Or.inl rfl)
theorem L_about (h : IE n t nk ne ns M) (hn : n < 510) {e o y : Nat} (he : e < ne) (ho : o < 5) (hy : y < 2 ^ 31) : ∃ M1 ne1 ns1, f_L_about M (nI e) (nI o) (nI y) = rRet 1 M1 ∧ IE (n + 2) t nk ne1 ns1 M1 := by
  have : o = 0 ∨ o = 1 ∨ o = 2 ∨ o = 3 ∨ o = 4 := by omega
  rcases this with q | q | q | q | q
  · subst q; exact la_0 h hn he _
  · subst q; exact la_1 h hn he hy
  · subst q; exact la_2 h hn he _
  · subst q; exact la_3 h hn he _
  · subst q; exact la_4 h hn he hy
end LA
