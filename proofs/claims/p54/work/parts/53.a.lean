/-! ===== the law's loop ===== -/
def Tl (S : gM → Int32 → Int32 → Int32 → gR) (i N : Nat) : Prop := ∀ n t nk ne ns M, IE n t nk ne ns M → n ≤ N → t ≤ 17 * (i + 1) → 1 ≤ nk → ∃ M1, S M (nI nk) 1 (nI (i + 1)) = rRet 1 M1
section TL
variable {D : Int32 → Int32} {S : gM → Int32 → Int32 → Int32 → gR} {i N n t nk ne ns u v : Nat} {M : gM}
theorem t869 (hS : Tl S i N) (hi : i < 46) (hN : N ≤ 500) (h : IE n t nk ne ns M) (hn : n ≤ N) (ht : t ≤ 17 * (i + 1)) (h1 : 1 ≤ nk) : ∃ M1, f_L_law_b869 D S M (nI nk) (nI i) = rRet 1 M1 := by
  obtain ⟨M1, m1⟩ := hS n t nk ne ns M h hn ht h1
  refine ⟨M1, ?_⟩
  have hh := h
  obtain ⟨⟨nh, nr, nx, I⟩, hE⟩ := hh
  unfold f_L_law_b869 f_L_law_b874
  rw [gNz_ok (by decide)]
  simp only [bV]
  rw [nI_1]
  by_cases c : nI i - nI i / 15 * 15 = 14
  · rw [if_pos c, if_neg i10, refuses_ok I, rbN_ret, if_neg i10]
    exact m1
  · rw [if_neg c]
    exact m1
theorem t837 (hS : Tl S i N) (hi : i < 46) (hN : N ≤ 500) (h : IE n t nk ne ns M) (hn : n ≤ N) (ht : t ≤ 17 * (i + 1)) (h1 : 1 ≤ nk) (hu : u < 2 ^ 31) (hv : v < 2 ^ 31) : ∃ M1, f_L_law_b837 D S M (nI nk) 1 (nI i) (nI u) (nI v) = rRet 1 M1 := by
  obtain ⟨M2, m2, h2⟩ := L_agrees h (by omega) hv
  unfold f_L_law_b837
  rw [if_neg i10, m2, rbN_ret, if_neg i10, gNz_ok (by decide)]
  by_cases c : 0 < nI i - nI i / 5 * 5
  · rw [if_pos c]
    exact t869 hS hi hN h2 hn ht h1
  · rw [if_neg c, L_entries h2 (by omega) hu, rbN_ret, if_neg i10]
    exact t869 hS hi hN h2 hn ht h1
/-- a claim, and its service -/
theorem tcl (hS : Tl S i N) (hi : i < 46) (hN : N ≤ 500) (h : IE n t nk ne ns M) (hn : n + 2 ≤ N) (ht : t ≤ 17 * (i + 1)) (hu : u < 2 ^ 31) (hv : v < 2 ^ 31) {c p q x : Nat} (hc : c < 2) (hp : p < 16) (hq : q < 16) (x1 : 1 ≤ x) (x2 : x ≤ 99999) (hP : 1 ≤ nk ∨ (nk = 0 ∧ opp (M 107) c p q)) : ∃ M1, qb (f_W_claim M (nI c) (nI p) (nI q) (nI x)) (fun x19 M18 => f_L_law_b281 D S M18 (nI nk) (nI i) (nI u) (nI v) (nI ne) x19) = rRet 1 M1 := by
  obtain ⟨l1, l4, l5, l8⟩ := h.t
  rcases s_claim h (by omega) hc hp hq x1 x2 with ⟨e, hno⟩ | ⟨M1, e, h1, k51, mC⟩
  · have hk : 1 ≤ nk := by
      rcases hP with z | ⟨z1, z2⟩
      · exact z
      · exact absurd ⟨z2, by omega⟩ hno
    rw [e, qb_ret]
    unfold f_L_law_b281 f_L_law_b368 f_L_law_b373 f_L_law_b389
    rw [if_pos rfl, if_neg (not_lN (by omega))]
    simp only [bV]
    rw [show nI nk + 0 = nI nk from by rw [← nI_0, nI_add, Nat.add_zero]]
    exact t837 hS hi hN h (by omega) ht hk hu hv
  · obtain ⟨r1, r4, r5, r8⟩ := h1.t
    have hh1 := h1
    obtain ⟨⟨nh, nr, nx, I1⟩, hE1⟩ := hh1
    have hf : ∀ (n' ne' : Nat) (M' : gM), IE n' t (nk + 1) ne' ns M' → n' ≤ N → ∃ M2, f_L_law_b368 D S M' (nI nk) (nI i) (nI u) (nI v) (lN nk) = rRet 1 M2 := by
      intro n' ne' M' h' hn'
      unfold f_L_law_b368 f_L_law_b373 f_L_law_b389
      rw [if_pos (nI_l (by omega)).symm]
      simp only [bV]
      rw [nI_1]
      exact t837 hS hi hN h' hn' ht (by omega) hu hv
    have hfr : ∀ e, e < ne → M1 55 e < 11 → ¬ M1 57 e = nI nk := by
      intro e he hk q
      obtain ⟨⟨nh, nr, nx, I⟩, hE⟩ := h
      rw [show M1 55 = M 55 from mC 55 (by decide)] at hk
      rw [show M1 57 = M 57 from mC 57 (by decide)] at q
      obtain ⟨k', c, d, w1, -, -, w2, -, -⟩ := I.ent he hk
      have := (nI_eq (by omega) (by omega)).mp (w2.symm.trans q)
      omega
    rw [e, qb_ret]
    unfold f_L_law_b281
    rw [if_neg (n3_ne (by omega)), if_pos (nI_l (by omega)).symm, q_stateOf I1 (show nk < nk + 1 by omega), qb_ret, k51, if_pos l64_0, gNz_ok (by decide), rmL (d := 3) (by decide) hv (by omega) (by omega)]
    have h336 : ∀ (n' ne' : Nat) (M' : gM) (w : Int64), IE n' t (nk + 1) ne' ns M' → n' ≤ N → (adV M' t ne' (nI nk) = -1 ∨ ∃ y, t < y ∧ y ≤ 1400 ∧ adV M' t ne' (nI nk) = nI y) → ∃ M2, f_L_law_b336 D S M' (nI nk) (nI i) (nI u) (nI v) (lN nk) w w = rRet 1 M2 := by
      intro n' ne' M' w h' hn' ha
      have a1 := h'.n5.2.1
      have hh' := h'
      obtain ⟨⟨nh', nr', nx', I'⟩, hE'⟩ := hh'
      unfold f_L_law_b336
      rw [if_pos rfl, q_due0 I' (by omega) (show nk < nk + 1 by omega), qb_ret]
      rcases ha with z | ⟨y, y1, y2, y3⟩
      · rw [z, if_pos l64_m1]
        exact hf n' ne' M' h' hn'
      · rw [y3, nI_l (show y < 2 ^ 31 by omega), if_neg (nm_ne (by omega)), q_due0 I' (by omega) (show nk < nk + 1 by omega), qb_ret, y3, tod_ret a1, rbN_ret, nI_l (show y < 2 ^ 31 by omega), nI_l (show t < 2 ^ 31 by omega), if_neg (by rw [lN_le (by omega) (by omega)]; omega)]
        exact hf n' ne' M' h' hn'
    rcases s_serve h1 (by omega) (show nk < nk + 1 by omega) (show v % 3 < 3 by omega) with ⟨e2, hns⟩ | ⟨M2, e2, mA, h2⟩
    · have hse : seB M1 ne nk = true := by
        unfold seB
        have : lsV M1 ne 0 (nI nk) = -1 := by
          rcases lastP_cases (fun e => decide (M1 55 e = 0) && decide (M1 57 e = nI nk)) ne with ⟨z, -⟩ | ⟨e, w1, -, w2, -⟩
          · exact z
          · rw [Bool.and_eq_true] at w2
            exact absurd (of_decide_eq_true w2.2) (hfr e w1 (by rw [of_decide_eq_true w2.1]; decide))
        rw [decide_eq_true k51, decide_eq_true this]
        rfl
      have h160 : nI ne = 160 := by
        have : ne = 160 := by
          by_cases w : ne < 160
          · exact absurd ⟨w, hse⟩ hns
          · omega
        rw [this]
        decide
      rw [e2, qb_ret, if_pos h160]
      refine h336 _ ne M1 _ h1 (by omega) (Or.inl ?_)
      unfold adV
      rcases as_kd (M := M1) (ne := ne) (k := nI nk) with w | ⟨e, w1, w2, w3, w4, -⟩
      · rw [if_pos w]
      · exact absurd w3 (hfr e w1 (kdD_lt w4))
    · obtain ⟨s1, s4, s5, s8⟩ := h2.t
      have hh2 := h2
      obtain ⟨⟨nh2, nr2, nx2, I2⟩, hE2⟩ := hh2
      have e55 : M2 55 ne = 0 := by rw [mA 55 (by decide)]; exact upd_eq
      have e56 : M2 56 ne = nI t := by rw [mA 56 (by decide)]; exact upd_eq
      have e57 : M2 57 ne = nI nk := by rw [mA 57 (by decide)]; exact upd_eq
      rw [e2, qb_ret, if_neg (fun z => by
        rw [show (160 : Int32) = nI 160 from by decide, nI_eq (by omega) (by omega)] at z
        omega), nI_l (show ne < 2 ^ 31 by omega)]
      refine h336 _ (ne + 1) M2 _ h2 (by omega) ?_
      have has : asV M2 (ne + 1) (nI nk) = nI ne := by
        show (if asB M2 (nI nk) ne then nI ne else _) = nI ne
        have : asB M2 (nI nk) ne = true := by
          unfold asB
          rw [decide_eq_true e57, decide_eq_true e55]
          rfl
        rw [this, if_pos rfl]
      unfold adV
      rw [has, if_neg (m1_ne (by omega)), nI_clamp (show ne < 2 ^ 31 by omega)]
      cases mopB M2 t (ne + 1) (nI nk) with
      | true => exact Or.inl rfl
      | false =>
        rw [if_neg (show ¬ (false = true) by decide)]
        exact du_now I2 e56
end TL
