theorem mul2L (i : Nat) : (2 : Int32) * nI i = nI (2 * i) := by
  rw [show (2 : Int32) = nI 2 from by decide, pk_mul]
theorem loop138 {D : Int32 → Int32} (hD : ∀ x, ∃ j : Nat, j < 2 ^ 31 ∧ D x = nI j) : ∀ (d i f : Nat), i + d = 46 → d < f → ∀ (n t nk ne ns : Nat) (M : gM), IE n t nk ne ns M → n ≤ 20 + 2 * i → t ≤ 17 * i → (1 ≤ nk ∨ (i = 0 ∧ nk = 0 ∧ Pt M)) → ∃ M1, f_L_law_l138 D f M (nI nk) 1 (nI i) = rRet 1 M1 := by
  intro d
  induction d with
  | zero =>
    intro i f hi hf n t nk ne ns M h hn ht hP
    obtain ⟨g, rfl⟩ : ∃ g, f = g + 1 := ⟨f - 1, by omega⟩
    have hi : i = 46 := by omega
    subst hi
    refine ⟨M, ?_⟩
    show f_L_law_lb138 D (f_L_law_l138 D g) M (nI nk) 1 (nI 46) = _
    unfold f_L_law_lb138 f_L_law_b912
    rw [if_pos (by decide), if_neg i10, show f_L_entries M 3 = rRet 1 M from L_entries (y := 3) h (by omega) (by omega), rbN_ret, if_neg i10]
    exact if_pos rfl
  | succ d ih =>
    intro i f hi hf n t nk ne ns M h hn ht hP
    obtain ⟨g, rfl⟩ : ∃ g, f = g + 1 := ⟨f - 1, by omega⟩
    have hS : Tl (f_L_law_l138 D g) i (20 + 2 * (i + 1)) := fun n t nk ne ns M h hn ht h1 => ih (i + 1) g (by omega) (by omega) n t nk ne ns M h hn ht (Or.inl h1)
    obtain ⟨u, hu, eu⟩ := hD (nI (2 * i))
    obtain ⟨v, hv, ev⟩ := hD (nI (2 * i + 1))
    show ∃ M1, f_L_law_lb138 D (f_L_law_l138 D g) M (nI nk) 1 (nI i) = rRet 1 M1
    unfold f_L_law_lb138 gPs
    simp only [bV]
    rw [if_neg (fun z => by rw [litle (j := 46) (by decide) (by omega) (by omega)] at z; omega), if_neg i10, mul2L, if_pos (nI_pos' (by omega)), nI_1, if_pos (nI_pos' (by omega)), eu, ev]
    by_cases c : 3 ≤ nI i
    · have hi3 : 3 ≤ i := (litle (j := 3) (by decide) (by omega) (by omega)).mp c
      rw [if_pos c, gNz_ok (by decide), rmL (y := u) (d := 16) (by decide) hu (by omega) (by omega)]
      exact t187 hS (by omega) (by omega) h (by omega) ht hu hv (Nat.mod_lt _ (by omega)) (Or.inl (by omega))
    · rw [if_neg c]
      exact t187 (o := 0) hS (by omega) (by omega) h (by omega) ht hu hv (by omega) (hP.imp id (fun z => ⟨z.2.1, by omega, z.2.2⟩))
theorem cntP_le (f : Nat → Int32) (c : Nat) : ∀ q, cntP f c q ≤ q
  | 0 => Nat.le_refl _
  | q + 1 => by
    have := cntP_le f c q
    unfold cntP
    by_cases z : f (16 * c + q) = -1
    · rw [if_pos z]; omega
    · rw [if_neg z]; omega
def Jn (i : Nat) (M : gM) : Prop := M 27 0 = nI i ∧ M 27 1 = nI i ∧ M 28 0 = nI (2 ^ i - 1) ∧ M 28 1 = nI (16 * (2 ^ i - 1)) ∧ ∀ j, j < i → M 29 j = nI (j % 2) ∧ M 29 (20 + j) = nI (j / 3)
theorem jn_a : ∀ i, i < 6 → bt (nI (2 ^ i - 1)) i = false ∧ bt (nI (16 * (2 ^ i - 1))) (i + 4) = false ∧ bt (nI (2 ^ (i + 1) - 1)) i = true ∧ (nI (2 ^ i - 1) ||| (1 <<< (nI i &&& 31))) = nI (2 ^ (i + 1) - 1) ∧ (nI (16 * (2 ^ i - 1)) ||| (1 <<< (nI (i + 4) &&& 31))) = nI (16 * (2 ^ (i + 1) - 1)) := by decide +kernel
theorem jn_b : ∀ p, p < 6 → bt (nI (2 ^ 6 - 1)) p = true ∧ bt (nI (16 * (2 ^ 6 - 1))) (4 + p) = true := by decide +kernel
theorem jn_pt {t nh nc nk ne nr nx ns n : Nat} {M : gM} (I : InvP t nh nc nk ne nr nx ns n M) (h : Jn 6 M) : Pt M := by
  obtain ⟨h1, h2, h3, h4, h5⟩ := h
  have gc := I.2.2.2.2.1.2.2.1
  have g0 : ∀ p, p < 6 → M 107 (16 * 0 + p) = nI (p % 2) := by
    intro p hp
    obtain ⟨a, b⟩ := gc 0 (by omega) p (by omega)
    have hb := a.mp (by rw [h3]; exact (jn_b p hp).1)
    rw [← (b hb).2, show 0 * 16 + p = p by omega]
    exact (h5 p hp).1
  have g1 : ∀ p, p < 6 → M 107 (16 * 1 + (4 + p)) = nI (p / 3) := by
    intro p hp
    obtain ⟨a, b⟩ := gc 1 (by omega) (4 + p) (by omega)
    have hb := a.mp (by rw [h4]; exact (jn_b p hp).2)
    rw [← (b hb).2, show 1 * 16 + (4 + p) = 20 + p by omega]
    exact (h5 p hp).2
  constructor
  · intro a b ha hb
    have x := g0 (a * 2) (by omega)
    have y := g0 (b * 2 + 1) (by omega)
    rw [show a * 2 % 2 = 0 by omega] at x
    rw [show (b * 2 + 1) % 2 = 1 by omega] at y
    unfold opp
    rw [x, y]
    decide
  · intro a b ha hb
    have x := g1 a (by omega)
    have y := g1 (3 + b) (by omega)
    rw [show a / 3 = 0 by omega] at x
    rw [show (3 + b) / 3 = 1 by omega, show 4 + (3 + b) = 7 + b by omega] at y
    unfold opp
    rw [x, y]
    decide
theorem jn_step {n : Nat} {M : gM} (h : IE n 0 0 0 0 M) (hn : n < 510) {i : Nat} (hi : i < 6) (hJ : Jn i M) : ∃ M1 M2, f_W_join M 0 (nI i) (nI (i % 2)) = qRet (lN (i + 1)) M1 ∧ f_W_join M1 1 (nI (i + 4)) (nI (i / 3)) = qRet (lN (i + 1)) M2 ∧ f_W_join M2 0 (nI i) 0 = qRet (-9000000000000000003) M2 ∧ IE (n + 2) 0 0 0 0 M2 ∧ Jn (i + 1) M2 := by
  obtain ⟨j1, j2, j3, j4, j5⟩ := hJ
  obtain ⟨k1, k2, k3, k4, k5⟩ := jn_a i hi
  have hh := h
  obtain ⟨⟨nh, nr, nx, I⟩, hE⟩ := hh
  have z1 : M 107 (16 * 0 + i) = -1 := Decidable.byContradiction (fun z => by
    have := (I.2.2.2.2.1.2.2.1 0 (by omega) i (by omega)).1.mpr z
    rw [j3, k1] at this
    exact absurd this (by decide))
  have c1 : cntP (M 107) 0 16 = i := (nI_eq (by have := cntP_le (M 107) 0 16; omega) (by omega)).mp ((I.2.2.2.2.1.2.2.2.1 0 (by omega)).2.symm.trans j1)
  have o1 := o_join I (i := 0) (p := i) (s := i % 2) (by omega) (by omega) (Nat.mod_lt _ (by omega))
  rw [if_pos z1, c1] at o1
  obtain ⟨M1, m1, mA, m3⟩ := w_join (by omega) h.inv o1
  have h1 : IE (n + 1) 0 0 0 0 M1 := IE.same h (by omega) m3 mA rfl rfl rfl rfl rfl rfl rfl rfl rfl rfl rfl rfl rfl rfl rfl rfl rfl
  have e27 : M1 27 = upd (M 27) 0 (M 27 0 + 1) := mA 27 (by decide)
  have e28 : M1 28 = upd (M 28) 0 (M 28 0 ||| (1 <<< (nI i &&& 31))) := mA 28 (by decide)
  have e29 : M1 29 = upd (M 29) (0 * 16 + i) (nI (i % 2)) := mA 29 (by decide)
  have hh := h1
  obtain ⟨⟨nh1, nr1, nx1, I1⟩, hE1⟩ := hh
  have z2 : M1 107 (16 * 1 + (i + 4)) = -1 := Decidable.byContradiction (fun z => by
    have := (I1.2.2.2.2.1.2.2.1 1 (by omega) (i + 4) (by omega)).1.mpr z
    rw [e28, upd_nx (by omega), j4, k2] at this
    exact absurd this (by decide))
  have c2 : cntP (M1 107) 1 16 = i := (nI_eq (by have := cntP_le (M1 107) 1 16; omega) (by omega)).mp ((I1.2.2.2.2.1.2.2.2.1 1 (by omega)).2.symm.trans (by rw [e27, upd_nx (by omega)]; exact j2))
  have o2 := o_join I1 (i := 1) (p := i + 4) (s := i / 3) (by omega) (by omega) (by omega)
  rw [if_pos z2, c2] at o2
  obtain ⟨M2, m1', mA', m3'⟩ := w_join (by omega) h1.inv o2
  have h2 : IE (n + 2) 0 0 0 0 M2 := IE.same h1 (by omega) m3' mA' rfl rfl rfl rfl rfl rfl rfl rfl rfl rfl rfl rfl rfl rfl rfl rfl rfl
  have f27 : M2 27 = upd (M1 27) 1 (M1 27 1 + 1) := mA' 27 (by decide)
  have f28 : M2 28 = upd (M1 28) 1 (M1 28 1 ||| (1 <<< (nI (i + 4) &&& 31))) := mA' 28 (by decide)
  have f29 : M2 29 = upd (M1 29) (1 * 16 + (i + 4)) (nI (i / 3)) := mA' 29 (by decide)
  have p28 : M2 28 0 = nI (2 ^ (i + 1) - 1) := by rw [f28, upd_nx (by omega), e28, upd_eq, j3, k4]
  have hh := h2
  obtain ⟨⟨nh2, nr2, nx2, I2⟩, hE2⟩ := hh
  have z3 : ¬ M2 107 (16 * 0 + i) = -1 := (I2.2.2.2.2.1.2.2.1 0 (by omega) i (by omega)).1.mp (by rw [p28]; exact k3)
  have o3 := o_join I2 (i := 0) (p := i) (s := 0) (by omega) (by omega) (by omega)
  rw [if_neg z3] at o3
  refine ⟨M1, M2, by rw [show (0 : Int32) = nI 0 from nI_0.symm, m1, nI_l (by omega)], by rw [show (1 : Int32) = nI 1 from by decide, m1', nI_l (by omega)], x2_join o3, h2, ?_, ?_, p28, ?_, fun j hj => ?_⟩
  · rw [f27, upd_nx (by omega), e27, upd_eq, j1, nI_1]
  · rw [f27, upd_eq, e27, upd_nx (by omega), j2, nI_1]
  · rw [f28, upd_eq, e28, upd_nx (by omega), j4, k5]
  · rw [f29, e29]
    rcases lt_sx hj with q | q
    · rw [upd_nx (by omega), upd_nx (by omega), upd_nx (by omega), upd_nx (by omega)]
      exact j5 j q
    · subst q
      rw [upd_nx (by omega), show 0 * 16 + j = j by omega, upd_eq, show 1 * 16 + (j + 4) = 20 + j by omega, upd_eq]
      exact ⟨rfl, rfl⟩
theorem loop53 {D : Int32 → Int32} (hD : ∀ x, ∃ j : Nat, j < 2 ^ 31 ∧ D x = nI j) : ∀ (d i f : Nat), i + d = 6 → d < f → ∀ (n : Nat) (M : gM), IE n 0 0 0 0 M → n ≤ 2 + 2 * i → Jn i M → ∃ M1, f_L_law_l53 D f M 0 1 (nI i) = rRet 1 M1 := by
  intro d
  induction d with
  | zero =>
    intro i f hi hf n M h hn hJ
    obtain ⟨g, rfl⟩ : ∃ g, f = g + 1 := ⟨f - 1, by omega⟩
    have hi : i = 6 := by omega
    subst hi
    have hh := h
    obtain ⟨⟨nh, nr, nx, I⟩, hE⟩ := hh
    show ∃ M1, f_L_law_lb53 D (f_L_law_l53 D g) M 0 1 (nI 6) = rRet 1 M1
    unfold f_L_law_lb53 f_L_law_b135
    rw [if_pos (by decide)]
    exact loop138 hD 46 0 47 (by omega) (by omega) n 0 0 0 0 M h (by omega) (by omega) (Or.inr ⟨rfl, rfl, jn_pt I hJ⟩)
  | succ d ih =>
    intro i f hi hf n M h hn hJ
    obtain ⟨g, rfl⟩ : ∃ g, f = g + 1 := ⟨f - 1, by omega⟩
    obtain ⟨M1, M2, e1, e2, e3, h2, hJ2⟩ := jn_step h (by omega) (show i < 6 by omega) hJ
    show ∃ M1, f_L_law_lb53 D (f_L_law_l53 D g) M 0 1 (nI i) = rRet 1 M1
    unfold f_L_law_lb53
    rw [if_neg (fun z => by rw [litle (j := 6) (by decide) (by omega) (by omega)] at z; omega), if_neg i10, gNz_ok (by decide), rmL (y := i) (d := 2) (by decide) (by omega) (by omega) (by omega), e1, qb_ret, nI_l (show i < 2 ^ 31 by omega), lN_1, if_pos rfl, gNz_ok (by decide), show nI i + 4 = nI (i + 4) from by rw [show (4 : Int32) = nI 4 from by decide, nI_add], dvL (y := i) (d := 3) (by decide) (by omega) (by omega) (by omega), e2, qb_ret, if_pos rfl, e3, qb_ret, if_pos rfl]
    simp only [bV]
    rw [nI_1]
    exact ih (i + 1) g (by omega) (by omega) (n + 2) M2 h2 (by omega) hJ2
