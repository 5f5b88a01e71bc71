theorem lN_nlt0 (x : Nat) (hx : x < 2 ^ 31) : ¬ lN x < 0 := by
  rw [← lN_0, lN_lt hx (by omega)]
  omega
section LG
variable {n t nk ne ns : Nat} {M : gM}
theorem IE.e146 (h : IE n t nk ne ns M) {i v : Nat} (hi : i < nk) (hv : v < 6) (h51 : M 51 i = nI v) : IE n t nk ne ns (gset M 146 i (nI v)) := by
  obtain ⟨⟨nh, nr, nx, I⟩, gc, g1, g2, g3, g4⟩ := h
  refine ⟨⟨nh, nr, nx, I⟩, gc, g1, g2, g3, fun c hc => ?_⟩
  show ∃ w, w < 6 ∧ upd (M 146) i (nI v) c = nI w ∧ (4 ≤ w → c < nk ∧ M 51 c = nI w)
  by_cases q : c = i
  · subst q
    exact ⟨v, hv, upd_eq, fun _ => ⟨hi, h51⟩⟩
  · rw [upd_nx q]
    exact g4 c hc
theorem lg_186 (h : IE n t nk ne ns M) (hn : n ≤ 512) {y : Nat} (hy : y < 2 ^ 31) : f_L_agrees_b186 M (nI nk) (nI y) 1 = rRet 1 M := by
  obtain ⟨l1, l4, l5, l8⟩ := h.t
  have hh := h
  obtain ⟨⟨nh, nr, nx, I⟩, hE⟩ := hh
  unfold f_L_agrees_b186
  by_cases c : nk = 0
  · rw [if_pos (by rw [c]; decide), z11]
  · have hk : y % nk < nk := Nat.mod_lt _ (by omega)
    rw [if_neg (nI_nle (by omega) (by omega)), if_neg i10, gNz_ok (nI_ne0 (by omega) (by omega)), pk_rem hy (by omega) (by omega), dvL (d := 64) (by decide) hy (by omega) (by omega), rmL (d := 2) (by decide) (by omega) (by omega) (by omega)]
    simp only [bV]
    rw [gNz_ok (by decide), gNz_ok (by decide)]
    have hc : y / 64 % 2 = 0 ∨ y / 64 % 2 = 1 := by omega
    unfold f_L_agrees_b262
    rcases hc with q | q
    · rw [q, show nI 0 * 2 = 0 from by decide, q_due0 I hn hk, qb_ret, q_day0 I hn hk, qb_ret, if_pos rfl, if_pos rfl, z11]
    · rw [q, show nI 1 * 2 = 2 from by decide, q_due2 I hn hk, qb_ret, q_day2 I hn hk, qb_ret, if_pos rfl, if_neg (by decide), q_stateOf I hk, qb_ret]
      by_cases s : M 51 (y % nk) = 2
      · rw [s, if_pos l64_2, z11]
      · rw [if_neg (fun z => s (i64_inj (z.trans l64_2.symm))), q_due2 I hn hk, qb_ret, show epV M ne (y % nk) = -1 from if_neg s, if_pos l64_m1, z11]
theorem lg_loop (hn : n ≤ 512) {y : Nat} (hy : y < 2 ^ 31) : ∀ (d i f : Nat) (M : gM), IE n t nk ne ns M → i + d = nk → d < f → ∃ M1, f_L_agrees_l34 f M (nI nk) (nI y) 1 (nI i) = rRet 1 M1 ∧ IE n t nk ne ns M1 := by
  intro d
  induction d with
  | zero =>
    intro i f M h hi hf
    obtain ⟨g, rfl⟩ : ∃ g, f = g + 1 := ⟨f - 1, by omega⟩
    obtain ⟨l1, l4, l5, l8⟩ := h.t
    refine ⟨M, ?_, h⟩
    show f_L_agrees_lb34 (f_L_agrees_l34 g) M (nI nk) (nI y) 1 (nI i) = _
    unfold f_L_agrees_lb34
    rw [if_pos (nI_le (by omega) (by omega))]
    exact lg_186 h hn hy
  | succ d ih =>
    intro i f M h hi hf
    obtain ⟨g, rfl⟩ : ∃ g, f = g + 1 := ⟨f - 1, by omega⟩
    obtain ⟨l1, l4, l5, l8⟩ := h.t
    have hh := h
    obtain ⟨⟨nh, nr, nx, I⟩, hE⟩ := hh
    have hk : i < nk := by omega
    obtain ⟨v, v1, v2⟩ := (I.2.2.2.2.2.1.2.2.1 i hk).1
    obtain ⟨⟨am, b1, b2, b3, -⟩, -⟩ := hE.1 i hk
    obtain ⟨c, p, q, c1, -, -, -, e47, -⟩ := I.2.2.2.2.2.1.2.1 i hk
    obtain ⟨w, w1, w2, w3⟩ := hE.2.2.2.2 i (by omega)
    have l3 : (2 : Nat) ≤ 8 := by omega
    obtain ⟨M1, m1, m2⟩ := ih (i + 1) g _ (h.e146 hk v1 v2) (by omega) (by omega)
    have h171 : f_L_agrees_b171 (f_L_agrees_l34 g) M (nI nk) (nI y) (nI i) (lN v) 1 = rRet 1 M1 := by
      unfold f_L_agrees_b171
      rw [gI_nI (show i < 24 by omega) (by omega), nI_clamp (show i < 2 ^ 31 by omega), lN_i]
      simp only [bV, bM]
      rw [nI_1]
      exact m1
    have h141 : ∀ u, f_L_agrees_b141 (f_L_agrees_l34 g) M (nI nk) (nI y) (nI i) (lN v) u u = rRet 1 M1 := by
      intro u
      unfold f_L_agrees_b141
      have hb : ¬ (blV M t ne i).toInt64 < 0 := by
        by_cases s : M 51 i = 2
        · obtain ⟨b, y1, y2, y3, -⟩ := bl_won hE l1 (by omega) hk s
          rw [y3, nI_l (by omega)]
          exact lN_nlt0 b (by omega)
        · rw [bl_no s]
          decide
      rw [if_pos rfl, q_balance I hk, qb_ret, if_neg hb, q_caseOf I hk, qb_ret, e47, nI_l (show c < 2 ^ 31 by omega), if_neg (lN_nlt0 c (by omega))]
      exact h171
    have h100 : f_L_agrees_b100 (f_L_agrees_l34 g) M (nI nk) (nI y) (nI i) (lN v) = rRet 1 M1 := by
      unfold f_L_agrees_b100 f_L_agrees_b127
      rw [q_amountOf I hk, qb_ret, b3, nI_l (show am < 2 ^ 31 by omega), if_neg (lN_ge1 b1 (by omega)), q_balance I hk, qb_ret]
      by_cases s : M 51 i = 2
      · obtain ⟨b, y1, y2, y3, -⟩ := bl_won hE l1 (by omega) hk s
        have hv2 : lN v = 2 := by
          rw [← nI_l (show v < 2 ^ 31 by omega), ← v2, s, l64_2]
        rw [y3, nI_l (show b < 2 ^ 31 by omega), if_neg (by rw [← lN_0, lN_le (by omega) (by omega)]; omega), if_pos hv2]
        exact h141 1
      · have hv2 : ¬ lN v = 2 := by
          rw [← nI_l (show v < 2 ^ 31 by omega), ← v2]
          exact fun z => s (i64_inj (z.trans l64_2.symm))
        rw [bl_no s, if_pos (by decide), if_neg hv2]
        exact h141 0
    refine ⟨M1, ?_, m2⟩
    show f_L_agrees_lb34 (f_L_agrees_l34 g) M (nI nk) (nI y) 1 (nI i) = _
    unfold f_L_agrees_lb34
    rw [if_neg (nI_ge (by omega) (by omega)), if_neg i10, q_stateOf I hk, qb_ret, v2, nI_l (show v < 2 ^ 31 by omega), if_neg (lN_nlt0 v (by omega)), if_neg (by rw [show (5 : Int64) = lN 5 from by decide, lN_lt (by omega) (by omega)]; omega), q_stateByDocket I hk, qb_ret, v2, nI_l (show v < 2 ^ 31 by omega), if_pos rfl, gI_nI (show i < 24 by omega) (by omega), gI_nI (show i < 24 by omega) (by omega), nI_clamp (show i < 2 ^ 31 by omega), w2]
    by_cases z : nI w < 4
    · rw [if_pos z]
      exact h100
    · have h4 : 4 ≤ w := by
        have z' : ¬ w < 4 := fun y => z (by rw [show (4 : Int32) = nI 4 from by decide]; exact nI_lt y (by omega))
        omega
      have hw := (w3 h4).2
      rw [if_neg z, if_pos (by rw [← hw, v2, nI_l (by omega)])]
      exact h100
theorem L_agrees (h : IE n t nk ne ns M) (hn : n ≤ 512) {y : Nat} (hy : y < 2 ^ 31) : ∃ M1, f_L_agrees M (nI nk) (nI y) = rRet 1 M1 ∧ IE n t nk ne ns M1 := by
  obtain ⟨l1, l4, l5, l8⟩ := h.t
  have hh := h
  obtain ⟨⟨nh, nr, nx, I⟩, hE⟩ := hh
  have a4 := h.n5.2.2
  have h1 : f_W_stateOf M (nI nk) = qRet (-9000000000000000001) M := by
    refine x0_stateOf ?_
    unfold f_X8_stateOf
    rw [n8_Claim a4 (bad_ge (Nat.le_refl _) (by omega)), rb_thr]
  have h2 : f_W_balance M (-1) = qRet (-9000000000000000001) M := by
    refine x0_balance ?_
    unfold f_X8_balance
    rw [n8_Claim a4 (bad_m1 _), rb_thr]
  unfold f_L_agrees f_L_agrees_b29
  rw [h1, qb_ret, if_pos rfl, h2, qb_ret, if_pos rfl]
  have := lg_loop hn hy nk 0 25 M h (by omega) (by omega)
  rw [nI_0] at this
  exact this
end LG
section LN
variable {n t nk ne ns : Nat} {M : gM}
theorem le_body (h : IE n t nk ne ns M) (hn : n ≤ 512) {y i : Nat} (hy : y < 2 ^ 31) (hi : i < ne) {S : gM → Int32 → Int32 → Int32 → Int32 → gR} (ih : S M (nI y) (nI ne) 1 (nI (i + 1)) = rRet 1 M) : f_L_entries_lb86 S M (nI y) (nI ne) 1 (nI i) = rRet 1 M := by
  obtain ⟨l1, l4, l5, l8⟩ := h.t
  have hh := h
  obtain ⟨⟨nh, nr, nx, I⟩, hE⟩ := hh
  have a1 := h.n5.2.1
  obtain ⟨kd, d, h1, h2, h3, h4, -⟩ := I.2.2.2.2.2.2.2.2.2.2.1.2.1 i hi
  have g65 := (I.2.2.2.2.2.2.2.2.2.2.2.1.2.2.1 i hi).2
  have hkd : ∀ j, j < 13 → (M 55 i = nI j ↔ kd = j) := fun j hj => by
    rw [h3]
    exact nI_eq (by omega) (by omega)
  have l4' : (4 : Int64) = lN 4 := by decide
  have l3' : (3 : Int64) = lN 3 := by decide
  have hz : ¬ M 65 i = -1 → 1 ≤ kd ∧ kd ≤ 3 := by
    intro z
    rcases g65 with q | ⟨-, q, -⟩
    · exact absurd q z
    · rcases q with q | q | q
      · have := (hkd 1 (by omega)).mp q; omega
      · have := (hkd 2 (by omega)).mp q; omega
      · have := (hkd 3 (by omega)).mp q; omega
  have hp : y % 16 < 16 := Nat.mod_lt _ (by omega)
  have b338 : f_L_entries_b338 S M (nI y) (nI ne) (nI i) = rRet 1 M := by
    unfold f_L_entries_b338
    simp only [bV]
    rw [nI_1]
    exact ih
  have b324 : ¬ (1 ≤ kd ∧ kd ≤ 3) → f_L_entries_b324 S M (nI y) (nI ne) (nI i) = rRet 1 M := by
    intro z
    unfold f_L_entries_b324
    have h65 : M 65 i = -1 := Decidable.byContradiction (fun w => z (hz w))
    rw [q_due3 I hn hi, if_pos h65, qb_ret, if_pos l64_m1]
    exact b338
  have b303 : f_L_entries_b303 S M (nI y) (nI ne) (nI i) (lN kd) 1 = rRet 1 M := by
    unfold f_L_entries_b303
    rw [if_neg i10]
    by_cases q : lN kd ≤ 0
    · rw [if_pos q]
      rw [← lN_0, lN_le (by omega) (by omega)] at q
      exact b324 (by omega)
    · rw [if_neg q]
      by_cases q2 : lN kd < 4
      · rw [if_pos q2]
        exact b338
      · rw [if_neg q2]
        rw [l4', lN_lt (by omega) (by omega)] at q2
        exact b324 (by omega)
  have b269 : f_L_entries_b269 S M (nI y) (nI ne) (nI i) (lN kd) = rRet 1 M := by
    unfold f_L_entries_b269
    by_cases q : lN kd = 3
    · rw [if_pos q]
      rw [l3', lN_eq (by omega) (by omega)] at q
      obtain ⟨m, m1, m2, m3⟩ := I.2.2.2.2.2.2.2.2.2.2.1.2.2.2.1 i hi (by rw [h3, q]; decide)
      rw [(q_at I hi).2.2.2.1, qb_ret, i64_i32, m2, (q_at I (show m < ne by omega)).1, qb_ret, m3, if_pos l64_2]
      exact b303
    · rw [if_neg q]
      exact b303
  have b217 : f_L_entries_b217 S M (nI y) (nI ne) (nI i) (lN kd) = rRet 1 M := by
    unfold f_L_entries_b217
    rw [gNz_ok (by decide), tod_ret a1, rbN_ret, rmL (d := 16) (by decide) hy (by omega) (by omega), nI_1, q_maySee_no I hi hp, qb_ret, if_pos rfl]
    by_cases q : lN kd = 4
    · rw [if_pos q]
      rw [l4', lN_eq (by omega) (by omega)] at q
      obtain ⟨m, m1, m2, m3, -⟩ := I.2.2.2.2.2.2.2.2.2.2.1.2.2.2.2.1 i hi (by rw [h3, q]; decide)
      rw [(q_at I hi).2.2.2.2, qb_ret, i64_i32, m2, (q_at I (show m < ne by omega)).1, qb_ret, m3, if_pos l64_2]
      exact b269
    · rw [if_neg q]
      exact b269
  have b178 : f_L_entries_b178 S M (nI y) (nI ne) (nI i) (lN kd) 1 = rRet 1 M := by
    unfold f_L_entries_b178
    rw [(q_at I hi).2.1, qb_ret]
    simp only [bV]
    rw [i64_i32, h4, if_neg i10]
    by_cases q : nI d = 0
    · rw [if_pos q]
      exact b217
    · have hd : d ≠ 0 := fun z => q (by rw [z]; exact nI_0)
      obtain ⟨x, rfl⟩ : ∃ x, d = x + 1 := ⟨d - 1, by omega⟩
      have hs : sSeal (M 99) (M 100) (M 101) (nI i) (nI x) ns = 0 := by
        refine seal_0 ns (fun j hj q => ?_)
        obtain ⟨e, a, b, z1, z2, z3, z4, z5, z6⟩ := hE.2.2.2.1 j hj
        have hei : e = i := (nI_eq (by omega) (by omega)).mp (z2.symm.trans q)
        subst hei
        have : a = x + 1 := (nI_eq (by omega) (by omega)).mp (z3.symm.trans h4)
        rw [z4]
        exact nI_lt (by omega) (by omega)
      rw [if_neg q, gNz_ok (by decide), rmL (d := 16) (by decide) hy (by omega) (by omega), nI_pred, q_maySee I hn hi hp (by omega) hs, qb_ret, h4, if_pos (nI_lt (show x < x + 1 by omega) (by omega)), if_pos rfl]
      exact b217
  have b146 : f_L_entries_b146 S M (nI y) (nI ne) (nI i) (lN kd) = rRet 1 M := by
    unfold f_L_entries_b146
    rw [q_counts I hi, qb_ret]
    by_cases q : cnV M t ne i = 0
    · rw [if_pos q, if_neg (by decide)]
      have hk := hz (fun z => by
        unfold cnV at q
        rw [if_pos z] at q
        exact i10 q)
      rw [if_neg (lN_ge1 hk.1 (by omega)), if_neg (by rw [l3', lN_lt (by omega) (by omega)]; omega)]
      exact b178
    · rw [if_neg q, if_pos rfl]
      exact b178
  unfold f_L_entries_lb86
  rw [if_neg (nI_ge hi (by omega)), if_neg i10, (q_at I hi).1, qb_ret, h3, nI_l (show kd < 2 ^ 31 by omega), if_neg (lN_nlt0 kd (by omega)), if_neg (by rw [show (12 : Int64) = lN 12 from by decide, lN_lt (by omega) (by omega)]; omega)]
  by_cases q : nI i = 0
  · rw [if_pos q]
    exact b146
  · have hd : i ≠ 0 := fun z => q (by rw [z]; exact nI_0)
    obtain ⟨x, rfl⟩ : ∃ x, i = x + 1 := ⟨i - 1, by omega⟩
    obtain ⟨a, b, z1, z2, z3, z4⟩ := hE.2.2.1 x (x + 1) (by omega) hi
    rw [if_neg q, (q_at I hi).2.1, qb_ret, nI_pred, (q_at I (show x < ne by omega)).2.1, qb_ret, z1, z2, nI_l (show a < 2 ^ 31 by omega), nI_l (show b < 2 ^ 31 by omega), if_neg (by rw [lN_lt (by omega) (by omega)]; omega)]
    exact b146
theorem le_loop (h : IE n t nk ne ns M) (hn : n ≤ 512) {y : Nat} (hy : y < 2 ^ 31) : ∀ (d i f : Nat), i + d = ne → d < f → f_L_entries_l86 f M (nI y) (nI ne) 1 (nI i) = rRet 1 M := by
  intro d
  induction d with
  | zero =>
    intro i f hi hf
    obtain ⟨g, rfl⟩ : ∃ g, f = g + 1 := ⟨f - 1, by omega⟩
    obtain ⟨l1, l4, l5, l8⟩ := h.t
    show f_L_entries_lb86 (f_L_entries_l86 g) M (nI y) (nI ne) 1 (nI i) = _
    unfold f_L_entries_lb86
    rw [if_pos (nI_le (by omega) (by omega)), z11]
  | succ d ih =>
    intro i f hi hf
    obtain ⟨g, rfl⟩ : ∃ g, f = g + 1 := ⟨f - 1, by omega⟩
    exact le_body h hn hy (by omega) (ih (i + 1) g (by omega) (by omega))
theorem L_entries (h : IE n t nk ne ns M) (hn : n ≤ 512) {y : Nat} (hy : y < 2 ^ 31) : f_L_entries M (nI y) = rRet 1 M := by
  obtain ⟨l1, l4, l5, l8⟩ := h.t
  have hh := h
  obtain ⟨⟨nh, nr, nx, I⟩, hE⟩ := hh
  obtain ⟨a5, a1, -⟩ := h.n5
  obtain ⟨q1, q2, q3⟩ := q_at_no I
  have b69 : f_L_entries_b69 M (nI y) (nI ne) 1 = rRet 1 M := by
    unfold f_L_entries_b69 f_L_entries_b84
    by_cases c : nI ne ≤ 12
    · rw [if_pos c]
      rw [show (12 : Int32) = nI 12 from by decide, nI_leI (by omega) (by omega)] at c
      have := le_loop h hn hy ne 0 13 (by omega) (by omega)
      rw [nI_0] at this
      exact this
    · rw [if_neg c]
      rw [show (12 : Int32) = nI 12 from by decide, nI_leI (by omega) (by omega)] at c
      rw [show (12 : Int32) = nI 12 from by decide, pk_sub (by omega)]
      exact le_loop h hn hy 12 (ne - 12) 13 (by omega) (by omega)
  unfold f_L_entries
  rw [ent_ret a5, rbN_ret, q1, qb_ret, if_pos rfl, q2, qb_ret, if_pos rfl, q3, qb_ret, if_pos rfl]
  by_cases c : nI ne = 0
  · rw [if_pos c]
    exact b69
  · have hd : ne ≠ 0 := fun z => c (by rw [z]; exact nI_0)
    obtain ⟨x, rfl⟩ : ∃ x, ne = x + 1 := ⟨ne - 1, by omega⟩
    obtain ⟨d, d1, d2⟩ := h.days x (by omega)
    rw [if_neg c, nI_pred, (q_at I (show x < x + 1 by omega)).2.1, qb_ret, tod_ret a1, rbN_ret, d2, nI_l (show d < 2 ^ 31 by omega), nI_l (show t < 2 ^ 31 by omega), if_neg (by rw [lN_lt (by omega) (by omega)]; omega)]
    exact b69
end LN
