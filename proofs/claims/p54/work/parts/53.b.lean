theorem litle {j o : Nat} {J : Int32} (hJ : nI j = J) (hj : j < 2 ^ 31) (ho : o < 2 ^ 31) : J ≤ nI o ↔ j ≤ o := by
  rw [← hJ]
  exact nI_leI hj ho
theorem litge {j o : Nat} {J : Int32} (hJ : nI j = J) (hj : j < 2 ^ 31) (ho : o < 2 ^ 31) : nI o ≤ J ↔ o ≤ j := by
  rw [← hJ]
  exact nI_leI ho hj
theorem addL {a b : Nat} {A : Int32} (hA : nI a = A) : A + nI b = nI (a + b) := by rw [← hA, nI_add]
theorem mulL {a b : Nat} {B : Int32} (hB : nI b = B) : nI a * B = nI (a * b) := by rw [← hB, pk_mul]
def Pt (M : gM) : Prop := (∀ a b, a < 3 → b < 3 → opp (M 107) 0 (a * 2) (b * 2 + 1)) ∧ ∀ a b, a < 3 → b < 3 → opp (M 107) 1 (4 + a) (7 + b)
section TB
variable {D : Int32 → Int32} {S : gM → Int32 → Int32 → Int32 → gR} {i N n t nk ne ns u v : Nat} {M : gM}
theorem tb_0 (hS : Tl S i N) (hi : i < 46) (hN : N ≤ 500) (h : IE n t nk ne ns M) (hn : n + 2 ≤ N) (ht : t ≤ 17 * (i + 1)) (hu : u < 2 ^ 31) (hv : v < 2 ^ 31) {o : Nat} (ho : o < 2) (hP : 1 ≤ nk ∨ (nk = 0 ∧ Pt M)) : ∃ M1, f_L_law_b187 D S M (nI nk) (nI i) (nI u) (nI v) (nI o) = rRet 1 M1 := by
  have a5 := h.n5.1
  have q1 : v % 3 < 3 := Nat.mod_lt _ (by omega)
  have q2 : v / 3 % 3 < 3 := Nat.mod_lt _ (by omega)
  have q3 : v / 9 % 5000 < 5000 := Nat.mod_lt _ (by omega)
  unfold f_L_law_b187
  rw [ent_ret a5, rbN_ret, if_neg (fun z => by rw [litle (j := 2) (by decide) (by omega) (by omega)] at z; omega), gNz_ok (by decide), gNz_ok (by decide)]
  simp only [bV]
  by_cases c : nI u / 16 - nI u / 16 / 2 * 2 = 0
  · rw [if_pos c, gNz_ok (by decide), gNz_ok (by decide), gNz_ok (by decide), gNz_ok (by decide), gNz_ok (by decide), rmL (y := v) (d := 3) (by decide) hv (by omega) (by omega), dvL (y := v) (d := 3) (by decide) hv (by omega) (by omega), rmL (y := v / 3) (d := 3) (by decide) (by omega) (by omega) (by omega), dvL (y := v) (d := 9) (by decide) hv (by omega) (by omega), rmL (y := v / 9) (d := 5000) (by decide) (by omega) (by omega) (by omega), mulL (b := 2) (by decide), mulL (b := 2) (by decide), nI_1, addL (a := 1) (by decide)]
    exact tcl (c := 0) hS hi hN h hn ht hu hv (by omega) (by omega) (by omega) (by omega) (by omega) (hP.imp id (fun z => ⟨z.1, z.2.1 _ _ q1 q2⟩))
  · rw [if_neg c, gNz_ok (by decide), gNz_ok (by decide), gNz_ok (by decide), gNz_ok (by decide), gNz_ok (by decide), rmL (y := v) (d := 3) (by decide) hv (by omega) (by omega), dvL (y := v) (d := 3) (by decide) hv (by omega) (by omega), rmL (y := v / 3) (d := 3) (by decide) (by omega) (by omega) (by omega), dvL (y := v) (d := 9) (by decide) hv (by omega) (by omega), rmL (y := v / 9) (d := 5000) (by decide) (by omega) (by omega) (by omega), addL (a := 4) (by decide), addL (a := 7) (by decide), addL (a := 1) (by decide)]
    exact tcl (c := 1) hS hi hN h hn ht hu hv (by omega) (by omega) (by omega) (by omega) (by omega) (hP.imp id (fun z => ⟨z.1, z.2.2 _ _ q1 q2⟩))
theorem tb_2 (hS : Tl S i N) (hi : i < 46) (hN : N ≤ 500) (h : IE n t nk ne ns M) (hn : n + 2 ≤ N) (ht : t ≤ 17 * (i + 1)) (hu : u < 2 ^ 31) (hv : v < 2 ^ 31) {o : Nat} (o1 : 2 ≤ o) (o2 : o < 9) (hP : 1 ≤ nk) : ∃ M1, f_L_law_b187 D S M (nI nk) (nI i) (nI u) (nI v) (nI o) = rRet 1 M1 := by
  have a5 := h.n5.1
  obtain ⟨l1, l4, l5, l8⟩ := h.t
  unfold f_L_law_b187
  rw [ent_ret a5, rbN_ret, if_pos ((litle (j := 2) (by decide) (by omega) (by omega)).mpr o1), if_neg (fun z => by rw [litle (j := 9) (by decide) (by omega) (by omega)] at z; omega), gNz_ok (nI_ne0 (by omega) (by omega)), gNz_ok (by decide), gNz_ok (by decide), gNz_ok (by decide), pk_rem hv (by omega) (by omega), dvL (y := u) (d := 16) (by decide) hu (by omega) (by omega), rmL (y := u / 16) (d := 8) (by decide) (by omega) (by omega) (by omega), dvL (y := v) (d := 64) (by decide) hv (by omega) (by omega)]
  obtain ⟨M1, ne1, m1, h1⟩ := L_steps h (by omega) (k := v % nk) (o := u / 16 % 8) (y := v / 64) (Nat.mod_lt _ (by omega)) (Nat.mod_lt _ (by omega)) (by omega)
  rw [m1, rbN_ret]
  exact t837 hS hi hN h1 (by omega) ht hP hu hv
theorem tab (hS : Tl S i N) (hi : i < 46) (hN : N ≤ 500) (h : IE n t nk ne ns M) (hn : n + 2 ≤ N) (ht : t ≤ 17 * (i + 1)) (hu : u < 2 ^ 31) (hv : v < 2 ^ 31) (hP : 1 ≤ nk) {e : Nat} (he : e < ne) : ∃ M1, f_L_law_b475 D S M (nI nk) (nI i) (nI u) (nI v) (nI e) = rRet 1 M1 := by
  unfold f_L_law_b475
  rw [gNz_ok (by decide), gNz_ok (by decide), gNz_ok (by decide), dvL (y := u) (d := 96) (by decide) hu (by omega) (by omega), rmL (y := u / 96) (d := 5) (by decide) (by omega) (by omega) (by omega), dvL (y := v) (d := 256) (by decide) hv (by omega) (by omega)]
  obtain ⟨M1, ne1, ns1, m1, h1⟩ := L_about h (by omega) (e := e) (o := u / 96 % 5) (y := v / 256) he (Nat.mod_lt _ (by omega)) (by omega)
  rw [m1, rbN_ret, if_neg i10]
  exact t837 hS hi hN h1 (by omega) ht hP hu hv
theorem tb_9 (hS : Tl S i N) (hi : i < 46) (hN : N ≤ 500) (h : IE n t nk ne ns M) (hn : n + 2 ≤ N) (ht : t ≤ 17 * (i + 1)) (hu : u < 2 ^ 31) (hv : v < 2 ^ 31) {o : Nat} (o1 : 9 ≤ o) (o2 : o < 12) (hP : 1 ≤ nk) : ∃ M1, f_L_law_b187 D S M (nI nk) (nI i) (nI u) (nI v) (nI o) = rRet 1 M1 := by
  have a5 := h.n5.1
  obtain ⟨l1, l4, l5, l8⟩ := h.t
  unfold f_L_law_b187
  rw [ent_ret a5, rbN_ret, if_pos ((litle (j := 2) (by decide) (by omega) (by omega)).mpr (by omega)), if_pos ((litle (j := 9) (by decide) (by omega) (by omega)).mpr (by omega)), if_neg (fun z => by rw [litle (j := 12) (by decide) (by omega) (by omega)] at z; omega)]
  by_cases c : nI ne = 0
  · rw [if_pos c]
    exact t837 hS hi hN h (by omega) ht hP hu hv
  · have hne : 0 < ne := by
      have : ne ≠ 0 := fun z => c (by rw [z]; exact nI_0)
      omega
    have h470 : ∃ M1, f_L_law_b470 D S M (nI nk) (nI i) (nI u) (nI v) (nI ne) = rRet 1 M1 := by
      unfold f_L_law_b470
      rw [gNz_ok c, pk_rem hv hne (by omega)]
      exact tab hS hi hN h hn ht hu hv hP (Nat.mod_lt _ hne)
    rw [if_neg c, gNz_ok (by decide), gNz_ok (by decide)]
    by_cases c2 : 4 ≤ nI u / 16 - nI u / 16 / 6 * 6
    · rw [if_pos c2]
      exact h470
    · rw [if_neg c2]
      by_cases c3 : nI ne ≤ 4
      · rw [if_pos c3]
        exact h470
      · have h4 : ¬ ne ≤ 4 := fun z => c3 ((litge (j := 4) (by decide) (by omega) (by omega)).mpr z)
        have q4 : v % 4 < 4 := Nat.mod_lt _ (by omega)
        obtain ⟨x, rfl⟩ : ∃ x, ne = x + 1 := ⟨ne - 1, by omega⟩
        rw [if_neg c3, gNz_ok (by decide), rmL (y := v) (d := 4) (by decide) hv (by omega) (by omega), nI_pred, pk_sub (by omega)]
        exact tab hS hi hN h hn ht hu hv hP (by omega)
theorem tst (hS : Tl S i N) (hi : i < 46) (hN : N ≤ 500) (h : IE n t nk ne ns M) (hn : n + 2 ≤ N) (ht : t ≤ 17 * (i + 1)) (hu : u < 2 ^ 31) (hv : v < 2 ^ 31) (hP : 1 ≤ nk) {b : Int32} (hb : b = if nI v - nI v / 2 * 2 = 0 then 1 else 0) : ∃ M1, f_L_law_b531 D S M (nI nk) (nI i) (nI u) (nI v) (nI ne) (nI (u / 16 % 2)) b = rRet 1 M1 := by
  obtain ⟨l1, l4, l5, l8⟩ := h.t
  have hz : z01 b := by
    rw [hb]
    by_cases c : nI v - nI v / 2 * 2 = 0
    · rw [if_pos c]; exact Or.inr rfl
    · rw [if_neg c]; exact Or.inl rfl
  have q : u / 16 % 2 < 2 := Nat.mod_lt _ (by omega)
  unfold f_L_law_b531
  rcases s_stay h (by omega) q hz with e | ⟨M1, e, h1, e2⟩
  · rw [e, qb_ret, if_pos rfl]
    exact t837 hS hi hN h (by omega) ht hP hu hv
  · rw [e, qb_ret, if_neg (n3_ne (by omega)), if_pos (nI_l (by omega)).symm, gNz_ok (by decide), gNz_ok (by decide), gNz_ok (by decide), dvL (y := u) (d := 16) (by decide) hu (by omega) (by omega), rmL (y := u / 16) (d := 2) (by decide) (by omega) (by omega) (by omega)]
    have h574 : ∃ M2, f_L_law_b574 D S M1 (nI nk) (nI i) (nI u) (nI v) (nI (u / 16 % 2)) b = rRet 1 M2 := by
      unfold f_L_law_b574
      rw [e2, qb_ret, if_pos rfl]
      exact t837 hS hi hN h1 (by omega) ht hP hu hv
    by_cases c : nI v - nI v / 2 * 2 = 0
    · rw [if_pos c] at hb ⊢
      rw [hb] at h574
      exact h574
    · rw [if_neg c] at hb ⊢
      rw [hb] at h574
      exact h574
theorem tb_12 (hS : Tl S i N) (hi : i < 46) (hN : N ≤ 500) (h : IE n t nk ne ns M) (hn : n + 2 ≤ N) (ht : t ≤ 17 * (i + 1)) (hu : u < 2 ^ 31) (hv : v < 2 ^ 31) {o : Nat} (o1 : o = 12) (hP : 1 ≤ nk) : ∃ M1, f_L_law_b187 D S M (nI nk) (nI i) (nI u) (nI v) (nI o) = rRet 1 M1 := by
  have a5 := h.n5.1
  subst o1
  unfold f_L_law_b187
  rw [ent_ret a5, rbN_ret, if_pos (by decide), if_pos (by decide), if_pos (by decide), if_neg (by decide), gNz_ok (by decide), gNz_ok (by decide), gNz_ok (by decide), dvL (y := u) (d := 16) (by decide) hu (by omega) (by omega), rmL (y := u / 16) (d := 2) (by decide) (by omega) (by omega) (by omega)]
  by_cases c : nI v - nI v / 2 * 2 = 0
  · rw [if_pos c]
    exact tst hS hi hN h hn ht hu hv hP (by rw [if_pos c])
  · rw [if_neg c]
    exact tst hS hi hN h hn ht hu hv hP (by rw [if_neg c])
theorem t701 (hS : Tl S i N) (hi : i < 46) (hN : N ≤ 500) (h : IE n t nk ne ns M) (hn : n + 1 ≤ N) (ht : t ≤ 17 * (i + 1)) (hu : u < 2 ^ 31) (hv : v < 2 ^ 31) (hP : 1 ≤ nk) : ∃ M1, f_L_law_b701 D S M (nI nk) (nI i) (nI u) (nI v) = rRet 1 M1 := by
  unfold f_L_law_b701
  rw [gNz_ok (by decide), gNz_ok (by decide)]
  by_cases c : 0 < nI v / 1024 - nI v / 1024 / 4 * 4
  · rw [if_pos c]
    exact t837 hS hi hN h (by omega) ht hP hu hv
  · have h744 : ∀ b : Int32, z01 b → ∃ M1, f_L_law_b744 D S M (nI nk) (nI i) (nI u) (nI v) (nI (v / 4096 % 5)) (nI (1 + v / 32768 % 30)) b = rRet 1 M1 := by
      intro b hb
      have q : v / 32768 % 30 < 30 := Nat.mod_lt _ (by omega)
      obtain ⟨M1, y, e, y1, y2, h1⟩ := s_setRule h (by omega) (i := v / 4096 % 5) (x := 1 + v / 32768 % 30) (Nat.mod_lt _ (by omega)) (by omega) (by omega) hb
      unfold f_L_law_b744
      rw [e, qb_ret, if_neg (lN_ge1 y1 (by omega))]
      exact t837 hS hi hN h1 (by omega) ht hP hu hv
    rw [if_neg c, gNz_ok (by decide), gNz_ok (by decide), gNz_ok (by decide), gNz_ok (by decide), gNz_ok (by decide), dvL (y := v) (d := 4096) (D := 4096) (by decide) hv (by omega) (by omega), rmL (y := v / 4096) (d := 5) (by decide) (by omega) (by omega) (by omega), dvL (y := v) (d := 32768) (D := 32768) (by decide) hv (by omega) (by omega), rmL (y := v / 32768) (d := 30) (by decide) (by omega) (by omega) (by omega), addL (a := 1) (by decide)]
    by_cases c : nI v - nI v / 2 * 2 = 0
    · rw [if_pos c]
      exact h744 1 (Or.inr rfl)
    · rw [if_neg c]
      exact h744 0 (Or.inl rfl)
theorem tb_13 (hS : Tl S i N) (hi : i < 46) (hN : N ≤ 500) (h : IE n t nk ne ns M) (hn : n + 2 ≤ N) (ht : t ≤ 17 * (i + 1)) (hu : u < 2 ^ 31) (hv : v < 2 ^ 31) {o : Nat} (o1 : o = 13) (hP : 1 ≤ nk) : ∃ M1, f_L_law_b187 D S M (nI nk) (nI i) (nI u) (nI v) (nI o) = rRet 1 M1 := by
  obtain ⟨a5, a1, -⟩ := h.n5
  obtain ⟨l1, l4, l5, l8⟩ := h.t
  have hh := h
  obtain ⟨⟨nh, nr, nx, I⟩, hE⟩ := hh
  subst o1
  have hk : v % nk < nk := Nat.mod_lt _ (by omega)
  have q9 : v / 64 % 9 < 9 := Nat.mod_lt _ (by omega)
  have hg : ∀ F : gR, gNz (nI nk) F = F := fun F => gNz_ok (nI_ne0 (by omega) (by omega))
  unfold f_L_law_b187
  rw [ent_ret a5, rbN_ret, if_pos (by decide), if_pos (by decide), if_pos (by decide), if_pos (by decide), if_neg (by decide), hg, pk_rem hv (by omega) (by omega), q_due0 I (by omega) hk, qb_ret, hg, gNz_ok (by decide), gNz_ok (by decide), dvL (y := v) (d := 64) (by decide) hv (by omega) (by omega), rmL (y := v / 64) (d := 9) (by decide) (by omega) (by omega) (by omega), addL (a := 1) (by decide)]
  unfold f_L_law_b647 f_L_law_b667 f_L_law_b672
  rcases s_extend h (by omega) hk (x := 1 + v / 64 % 9) (by omega) (by omega) with ⟨e, hno⟩ | ⟨M1, w, e, h1, n1, n2, hw⟩
  · rw [e, qb_ret, if_pos rfl]
    by_cases c : adV M t ne (nI (v % nk)) = -1
    · rw [c, if_pos l64_m1, if_pos rfl, if_pos rfl]
      exact t701 hS hi hN h (by omega) ht hu hv hP
    · have c2 := hno.resolve_left c
      rw [if_neg (fun z => c (i64_inj (z.trans l64_m1.symm))), tod_ret a1, rbN_ret]
      rcases dead_ok I (v % nk) hk with z | ⟨d, d1, d2⟩
      · exact absurd z c
      · have hlt : ¬ t ≤ d := fun z => c2 (by rw [d2]; exact paV_0 z (by omega))
        rw [d2, nI_l (show d < 2 ^ 31 by omega), nI_l (show t < 2 ^ 31 by omega), if_neg (by rw [lN_le (by omega) (by omega)]; exact hlt), if_pos rfl, if_pos rfl]
        exact t701 hS hi hN h (by omega) ht hu hv hP
  · obtain ⟨a5', a1', -⟩ := h1.n5
    rw [e, qb_ret, if_neg (i64_ne3 _), if_neg (fun z => n1 (i64_inj (z.trans l64_m1.symm))), tod_ret a1', rbN_ret]
    rcases dead_ok I (v % nk) hk with z | ⟨d, d1, d2⟩
    · exact absurd z n1
    · have hle : t ≤ d := by
        rw [d2] at n2
        unfold paV at n2
        rw [if_neg (m1_ne (by omega))] at n2
        by_cases z : nI t ≤ nI d
        · exact (nI_leI (by omega) (by omega)).mp z
        · rw [if_neg z] at n2
          exact absurd n2 i10
      rw [d2, nI_l (show d < 2 ^ 31 by omega), nI_l (show t < 2 ^ 31 by omega), if_pos (by rw [lN_le (by omega) (by omega)]; exact hle), if_pos rfl, if_neg (i64_ne3 _)]
      rcases hw with z | ⟨p, q, z1, z2, z3, z4⟩
      · rw [z, if_pos l64_m1]
        exact t701 hS hi hN h1 (by omega) ht hu hv hP
      · have hpd : p = d := (nI_eq (by omega) (by omega)).mp (z1.symm.trans d2)
        rw [z2, nI_l (show q < 2 ^ 31 by omega), if_neg (nm_ne (by omega)), if_neg (by rw [lN_lt (by omega) (by omega)]; omega)]
        exact t701 hS hi hN h1 (by omega) ht hu hv hP
theorem tb_14 (hS : Tl S i N) (hi : i < 46) (hN : N ≤ 500) (h : IE n t nk ne ns M) (hn : n + 2 ≤ N) (ht : t ≤ 17 * i) (hu : u < 2 ^ 31) (hv : v < 2 ^ 31) {o : Nat} (o1 : 14 ≤ o) (o2 : o < 16) (hP : 1 ≤ nk) : ∃ M1, f_L_law_b187 D S M (nI nk) (nI i) (nI u) (nI v) (nI o) = rRet 1 M1 := by
  obtain ⟨a5, a1, -⟩ := h.n5
  obtain ⟨l1, l4, l5, l8⟩ := h.t
  have q17 : v % 17 < 17 := Nat.mod_lt _ (by omega)
  have q9 : v / 51 % 9 < 9 := Nat.mod_lt _ (by omega)
  have ol : ∀ {j : Nat} {J : Int32}, nI j = J → j ≤ 14 → J ≤ nI o := fun hJ hj => (litle hJ (by omega) (by omega)).mpr (by omega)
  obtain ⟨M1, e, h1⟩ := s_pass h (by omega) (x := 1 + v % 17) (by omega) (by omega) (by omega)
  obtain ⟨a5', a1', -⟩ := h1.n5
  unfold f_L_law_b187
  rw [ent_ret a5, rbN_ret, if_pos (ol (j := 2) (by decide) (by omega)), if_pos (ol (j := 9) (by decide) (by omega)), if_pos (ol (j := 12) (by decide) (by omega)), if_pos (ol (j := 13) (by decide) (by omega)), if_pos (ol (j := 14) (by decide) (by omega)), tod_ret a1, rbN_ret, gNz_ok (by decide), rmL (y := v) (d := 17) (by decide) hv (by omega) (by omega), addL (a := 1) (by decide), e, qb_ret, gNz_ok (by decide), nI_1, nI_add, nI_l (show t + 1 + v % 17 < 2 ^ 31 by omega), if_pos (by rw [Nat.add_assoc]), gNz_ok (by decide), gNz_ok (by decide)]
  by_cases c : 0 < nI v / 17 - nI v / 17 / 3 * 3
  · rw [if_pos c]
    exact t837 hS hi hN h1 (by omega) (by omega) hP hu hv
  · obtain ⟨M2, r, e2, hr, h2⟩ := s_holiday h1 (by omega) (d := t + (1 + v % 17) + 1 + v / 51 % 9) (by omega) (by omega)
    rw [if_neg c, tod_ret a1', rbN_ret, gNz_ok (by decide), gNz_ok (by decide), dvL (y := v) (d := 51) (by decide) hv (by omega) (by omega), rmL (y := v / 51) (d := 9) (by decide) (by omega) (by omega) (by omega), nI_1, nI_add, e2, qb_ret, if_neg (by rcases hr with z | z | z <;> rw [z] <;> decide)]
    exact t837 hS hi hN h2 (by omega) (by omega) hP hu hv
theorem t187 (hS : Tl S i N) (hi : i < 46) (hN : N ≤ 500) (h : IE n t nk ne ns M) (hn : n + 2 ≤ N) (ht : t ≤ 17 * i) (hu : u < 2 ^ 31) (hv : v < 2 ^ 31) {o : Nat} (ho : o < 16) (hP : 1 ≤ nk ∨ (nk = 0 ∧ o < 2 ∧ Pt M)) : ∃ M1, f_L_law_b187 D S M (nI nk) (nI i) (nI u) (nI v) (nI o) = rRet 1 M1 := by
  by_cases c0 : o < 2
  · exact tb_0 hS hi hN h hn (by omega) hu hv c0 (hP.imp id (fun z => ⟨z.1, z.2.2⟩))
  · have hk : 1 ≤ nk := by
      rcases hP with z | ⟨-, z, -⟩
      · exact z
      · exact absurd z c0
    have : (2 ≤ o ∧ o < 9) ∨ (9 ≤ o ∧ o < 12) ∨ o = 12 ∨ o = 13 ∨ 14 ≤ o := by omega
    rcases this with z | z | z | z | z
    · exact tb_2 hS hi hN h hn (by omega) hu hv z.1 z.2 hk
    · exact tb_9 hS hi hN h hn (by omega) hu hv z.1 z.2 hk
    · exact tb_12 hS hi hN h hn (by omega) hu hv z hk
    · exact tb_13 hS hi hN h hn (by omega) hu hv z hk
    · exact tb_14 hS hi hN h hn ht hu hv z ho hk
end TB
