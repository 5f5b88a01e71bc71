theorem Gd1.z61 {t nh nc nk ne nr nx ns n : Nat} {M : gM} (I : InvP t nh nc nk ne nr nx ns n M) : M 61 ne = 0 := (I.2.2.2.2.2.2.2.2.2.2.1.2.2.2.2.2.2.2.2.1 ne (Nat.le_refl _)).1
theorem s_settle {n t nk ne ns : Nat} {M : gM} (h : IE n t nk ne ns M) (hn : n < 512) {k : Nat} (hk : k < nk) : (f_W_settle M (nI k) = qRet (-9000000000000000003) M ∧ ¬ (ne < 160 ∧ stB M k = true)) ∨ ∃ M1, f_W_settle M (nI k) = qRet (lN ne) M1 ∧ Ag M1 (gset (en8 M ne t 9 (nI k) 0 0) 51 k 4) ∧ IE (n + 1) t nk (ne + 1) ns M1 := by
  obtain ⟨⟨nh, nr, nx, I⟩, hE⟩ := h
  obtain ⟨-, -, l1, l2, l3, l4, l5, l6, l7, l8⟩ := I.1
  have ho := o_settle I hk
  by_cases c : ne < 160 ∧ stB M k = true
  · rw [if_pos c] at ho
    obtain ⟨M1, m1, m2, m3⟩ := w_settle hn (IE.inv ⟨⟨nh, nr, nx, I⟩, hE⟩) ho
    have e51 : M1 51 = upd (M 51) k 4 := m2 51 (by decide)
    refine Or.inr ⟨M1, by rw [m1, nI_l (by omega)], m2, IE.ent ⟨⟨nh, nr, nx, I⟩, hE⟩ hn c.1 m3 m2 rfl rfl rfl rfl rfl ?_⟩
    refine hE.entC (c := k) (K := 9) (IE.days ⟨⟨nh, nr, nx, I⟩, hE⟩) hk l4 (m2 55 (by decide)) (m2 56 (by decide)) (m2 57 (by decide)) (fun k' _ hq => ⟨by rw [m2 50 (by decide)]; rfl, by rw [e51, upd_nx hq], by rw [m2 52 (by decide)]; rfl, by rw [m2 53 (by decide)]; rfl⟩) (fun e _ => by rw [m2 60 (by decide)]; rfl) (fun e _ _ => by rw [m2 61 (by decide)]; rfl) (m2 99 (by decide)) (m2 100 (by decide)) (m2 146 (by decide)) (fun q => absurd q (by decide)) (fun q => ?_) ?_
    · exfalso
      have hst := c.2
      unfold stB at hst
      rcases q with q | q <;> rw [q] at hst <;> exact absurd hst (by decide)
    · obtain ⟨⟨a, b1, b2, b3, -⟩, b5, -⟩ := hE.1 k hk
      have e61 : M1 61 = M 61 := m2 61 (by decide)
      rw [e51, e61, show M1 50 = M 50 from m2 50 (by decide), show M1 52 = M 52 from m2 52 (by decide), show M1 53 = M 53 from m2 53 (by decide), show M1 55 = upd (M 55) ne 9 from m2 55 (by decide), show M1 57 = upd (M 57) ne (nI k) from m2 57 (by decide)]
      refine ⟨⟨a, b1, b2, b3, fun q => ?_⟩, b5, fun _ q _ => absurd upd_eq q, fun _ => ⟨ne, olast.nw (by decide) (Gd1.z61 I), Or.inl upd_eq⟩⟩
      rw [upd_eq] at q
      exact absurd q (by decide)
  · rw [if_neg c] at ho
    exact Or.inl ⟨x2_settle ho, c⟩
theorem s_appeal {n t nk ne ns : Nat} {M : gM} (h : IE n t nk ne ns M) (hn : n < 512) {k : Nat} (hk : k < nk) : f_W_appeal M (nI k) = qRet (-9000000000000000003) M ∨ ∃ M1, f_W_appeal M (nI k) = qRet (lN ne) M1 ∧ Ag M1 (gset (en8 M ne t 7 (nI k) 0 0) 51 k 3) ∧ IE (n + 1) t nk (ne + 1) ns M1 ∧ M 51 k = 2 := by
  obtain ⟨⟨nh, nr, nx, I⟩, hE⟩ := h
  obtain ⟨-, -, l1, l2, l3, l4, l5, l6, l7, l8⟩ := I.1
  have ho := o_appeal I (by omega) hk
  by_cases c : ne < 160 ∧ apB M t ne k = true
  · rw [if_pos c] at ho
    obtain ⟨M1, m1, m2, m3⟩ := w_appeal hn (IE.inv ⟨⟨nh, nr, nx, I⟩, hE⟩) ho
    have e51 : M1 51 = upd (M 51) k 3 := m2 51 (by decide)
    have ⟨h51, h53⟩ : M 51 k = 2 ∧ M 53 k = 0 := by
      have hst := c.2
      unfold apB at hst
      rw [Bool.and_eq_true, Bool.and_eq_true] at hst
      exact ⟨of_decide_eq_true hst.1, of_decide_eq_true hst.2.1⟩
    refine Or.inr ⟨M1, by rw [m1, nI_l (by omega)], m2, IE.ent ⟨⟨nh, nr, nx, I⟩, hE⟩ hn c.1 m3 m2 rfl rfl rfl rfl rfl ?_, h51⟩
    refine hE.entC (c := k) (K := 7) (IE.days ⟨⟨nh, nr, nx, I⟩, hE⟩) hk l4 (m2 55 (by decide)) (m2 56 (by decide)) (m2 57 (by decide)) (fun k' _ hq => ⟨by rw [m2 50 (by decide)]; rfl, by rw [e51, upd_nx hq], by rw [m2 52 (by decide)]; rfl, by rw [m2 53 (by decide)]; rfl⟩) (fun e _ => by rw [m2 60 (by decide)]; rfl) (fun e _ _ => by rw [m2 61 (by decide)]; rfl) (m2 99 (by decide)) (m2 100 (by decide)) (m2 146 (by decide)) (fun q => absurd q (by decide)) (fun q => ?_) ?_
    · exfalso
      rcases q with q | q <;> rw [h51] at q <;> exact absurd q (by decide)
    · obtain ⟨⟨a, b1, b2, b3, b4⟩, b5, -⟩ := hE.1 k hk
      obtain ⟨j, b, d, j1, j2, j3, j4, j5, j6, -⟩ := b4 (Or.inl h51)
      rw [e51, show M1 61 = M 61 from m2 61 (by decide), show M1 60 = M 60 from m2 60 (by decide), show M1 50 = M 50 from m2 50 (by decide), show M1 52 = M 52 from m2 52 (by decide), show M1 53 = M 53 from m2 53 (by decide), show M1 55 = upd (M 55) ne 7 from m2 55 (by decide), show M1 56 = upd (M 56) ne (nI t) from m2 56 (by decide), show M1 57 = upd (M 57) ne (nI k) from m2 57 (by decide)]
      refine ⟨⟨a, b1, b2, b3, fun _ => ⟨j, b, d, j1.up (Or.inr (by decide)), j2, j3, j4, j5, by rw [upd_lt j1.1]; exact j6, fun q => ?_⟩⟩, b5, fun _ _ _ => h53, fun q => ?_⟩
      · rw [upd_eq] at q
        exact absurd q (by decide)
      · rw [upd_eq, h53] at q
        rcases q with q | q | q
        · exact absurd rfl q
        · exact absurd q (by decide)
        · exact absurd q (by decide)
  · rw [if_neg c] at ho
    exact Or.inl (x2_appeal ho)
theorem le_nI {x : Int32} {b : Nat} (h0 : ¬ x < 0) (h : x ≤ nI b) (hb : b < 2 ^ 31) : ∃ y, y ≤ b ∧ x = nI y := by
  obtain ⟨j, hj, rfl⟩ := nI_of h0
  exact ⟨j, (nI_leI hj hb).mp h, rfl⟩
theorem s_judge {n t nk ne ns : Nat} {M : gM} (h : IE n t nk ne ns M) (hn : n < 512) {k : Nat} (hk : k < nk) {a : Int32} (ha : a = -1 ∨ ∃ x, a = nI x ∧ nI x ≤ M 50 k ∧ x < 2 ^ 31) : f_W_judge M (nI k) a = qRet (-9000000000000000003) M ∨ ∃ M1, f_W_judge M (nI k) a = qRet (lN ne) M1 ∧ IE (n + 1) t nk (ne + 1) ns M1 ∧ M 51 k = 0 ∧ M1 57 ne = nI k ∧ (M1 51 k = 1 ∨ (M1 51 k = 2 ∧ blV M1 t (ne + 1) k = M1 50 k)) := by
  obtain ⟨⟨nh, nr, nx, I⟩, hE⟩ := h
  obtain ⟨-, -, l1, l2, l3, l4, l5, l6, l7, l8⟩ := I.1
  obtain ⟨⟨am, b1, b2, b3, b4⟩, b5, b6, b7⟩ := hE.1 k hk
  have f1 : ¬ a < -1 := by
    rcases ha with h | ⟨x, h, -, hx⟩
    · rw [h]; decide
    · rw [h]
      intro q
      exact nI_pos hx (Int32.lt_trans q (by decide))
  have f2 : a ≤ M 50 k := by
    rcases ha with h | ⟨x, h, hx, -⟩
    · rw [h, b3]
      exact Int32.le_of_lt (nI_m1_lt' am (by omega))
    · rw [h]; exact hx
  have ho := o_judge I (by omega) hk f1 f2
  by_cases c : ne < 160 ∧ juB M t ne k a = true
  · rw [if_pos c] at ho
    obtain ⟨h51, -⟩ := ju_serve I c.2
    have h53 : M 53 k = 0 := b6 (by rw [h51]; decide) (by rw [h51]; decide) (by rw [h51]; decide)
    have hw : juW M k a = 0 ∨ ∃ y, 1 ≤ y ∧ y ≤ am ∧ juW M k a = nI y := by
      have hj := c.2
      unfold juB at hj
      unfold juW
      by_cases q : a = -1
      · rw [if_pos q] at hj
        rw [if_pos q]
        rw [Bool.and_eq_true, Bool.and_eq_true] at hj
        by_cases q1 : M 52 k = -1
        · rw [if_pos q1]
          exact Or.inr ⟨am, b1, Nat.le_refl _, b3⟩
        · rw [if_neg q1]
          by_cases q2 : M 50 k ≤ M 52 k
          · rw [if_pos q2]
            exact Or.inr ⟨am, b1, Nat.le_refl _, b3⟩
          · rw [if_neg q2]
            rcases b5 with q3 | ⟨cc, c1, c2⟩
            · exact absurd q3 q1
            · refine Or.inr ⟨cc, ?_, ?_, c2⟩
              · have q4 := hj.2.2
                rw [c2] at q4
                by_cases z : cc = 0
                · rw [z] at q4
                  exact absurd q4 (by decide)
                · omega
              · rw [b3, c2] at q2
                have := (nI_leI (a := am) (b := cc) (by omega) (by omega))
                have q5 : ¬ am ≤ cc := fun z => q2 (this.mpr z)
                omega
      · rw [if_neg q]
        rcases ha with h | ⟨x, h, hx, hx2⟩
        · exact absurd h q
        · rw [b3] at hx
          have hxa := (nI_leI hx2 (by omega)).mp hx
          by_cases z : x = 0
          · left
            rw [h, z]
            exact nI_0
          · exact Or.inr ⟨x, by omega, hxa, h⟩
    generalize juW M k a = w at *
    obtain ⟨M1, m1, m2, m3⟩ := w_judge hn (IE.inv ⟨⟨nh, nr, nx, I⟩, hE⟩) ho
    have e51 : M1 51 = upd (M 51) k (juS w) := m2 51 (by decide)
    have e50 : M1 50 = upd (M 50) k (juA M k w) := m2 50 (by decide)
    have e60 : M1 60 = upd (M 60) ne (M 50 k) := m2 60 (by decide)
    have e53 : M1 53 = M 53 := m2 53 (by decide)
    have e55 : M1 55 = upd (M 55) ne 5 := m2 55 (by decide)
    have e56 : M1 56 = upd (M 56) ne (nI t) := m2 56 (by decide)
    have e57 : M1 57 = upd (M 57) ne (nI k) := m2 57 (by decide)
    have hX : Ex t nk (ne + 1) ns M1 := by
      refine hE.entC (c := k) (K := 5) (IE.days ⟨⟨nh, nr, nx, I⟩, hE⟩) hk l4 e55 e56 e57 (fun k' _ hq => ⟨by rw [e50, upd_nx hq], by rw [e51, upd_nx hq], by rw [m2 52 (by decide)]; rfl, by rw [e53]⟩) (fun e he => by rw [e60, upd_lt he]) (fun e _ _ => by rw [m2 61 (by decide)]; rfl) (m2 99 (by decide)) (m2 100 (by decide)) (m2 146 (by decide)) (fun _ => ⟨am, b1, b2, by rw [e60, upd_eq]; exact b3⟩) (fun q => ?_) ?_
      · exfalso
        rcases q with q | q <;> rw [h51] at q <;> exact absurd q (by decide)
      · rw [e51, e50, e60, e53, e55, e56, e57, show M1 61 = M 61 from m2 61 (by decide), show M1 52 = M 52 from m2 52 (by decide)]
        rcases hw with hw | ⟨y, y1, y2, hw⟩
        · refine ⟨⟨am, b1, b2, by rw [upd_eq]; unfold juA; rw [if_pos hw]; exact b3, fun q => ?_⟩, b5, fun _ _ _ => h53, fun q => ?_⟩
          · rw [upd_eq] at q
            unfold juS at q
            rw [if_pos hw] at q
            exact absurd q (by decide)
          · rw [upd_eq, h53] at q
            unfold juS at q
            rw [if_pos hw] at q
            rcases q with q | q | q
            · exact absurd rfl q
            · exact absurd q (by decide)
            · exact absurd q (by decide)
        · have hw0 : ¬ w = 0 := by rw [hw]; exact nI_ne0 (by omega) (by omega)
          refine ⟨⟨y, y1, by omega, by rw [upd_eq]; unfold juA; rw [if_neg hw0]; exact hw, fun _ => ⟨ne, am, t, jlast.nw, by rw [upd_eq]; exact b3, y2, b2, Nat.le_refl _, upd_eq, fun _ => ⟨0, by rw [h53, nI_0], by omega⟩⟩⟩, b5, fun _ _ _ => h53, fun q => ?_⟩
          rw [upd_eq, h53] at q
          unfold juS at q
          rw [if_neg hw0] at q
          rcases q with q | q | q
          · exact absurd rfl q
          · exact absurd q (by decide)
          · exact absurd q (by decide)
    refine Or.inr ⟨M1, by rw [m1, nI_l (by omega)], IE.ent ⟨⟨nh, nr, nx, I⟩, hE⟩ hn c.1 m3 m2 rfl rfl rfl rfl rfl hX, h51, by rw [e57, upd_eq], ?_⟩
    rcases hw with hw | ⟨y, y1, y2, hw⟩
    · left
      rw [e51, upd_eq]
      unfold juS
      rw [if_pos hw]
    · right
      have hw0 : ¬ w = 0 := by rw [hw]; exact nI_ne0 (by omega) (by omega)
      have z51 : M1 51 k = 2 := by
        rw [e51, upd_eq]
        unfold juS
        rw [if_neg hw0]
      refine ⟨z51, ?_⟩
      have hjl : jlast (M1 55) (M1 57) (ne + 1) (nI k) ne := by
        rw [e55, e57]
        exact jlast.nw
      unfold blV
      rw [if_pos z51, hjl.ls, nI_clamp (show ne < 2 ^ 31 by omega), e53, h53, e56, upd_eq]
      have e50k : M1 50 k = nI y := by
        rw [e50, upd_eq]
        unfold juA
        rw [if_neg hw0]
        exact hw
      rw [e50k, owe (show y ≤ 99999 by omega) l1 (Nat.le_refl _), Nat.sub_self, Nat.zero_div, Nat.mul_zero, Nat.zero_div, Nat.add_zero]
      exact Int32.sub_zero _
  · rw [if_neg c] at ho
    exact Or.inl (x2_judge ho)
