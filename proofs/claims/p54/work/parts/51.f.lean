theorem s_ruling {n t nk ne ns : Nat} {M : gM} (h : IE n t nk ne ns M) (hn : n < 512) {m k : Nat} (hm : m < ne) (m2 : M 55 m = 2) (e57 : M 57 m = nI k) (hk : k < nk) {b : Int32} (hb : b = -1 ∨ ∃ x, b = nI x ∧ nI x < M 50 k ∧ x < 2 ^ 31) : (f_W_ruling M (nI m) b = qRet (-9000000000000000003) M ∧ ¬ (ne < 160 ∧ ruB M t ne m k = true)) ∨ ∃ M1, f_W_ruling M (nI m) b = qRet (lN ne) M1 ∧ IE (n + 1) t nk (ne + 1) ns M1 ∧ M1 51 k = ruS b ∧ M1 50 k = ruA M k b ∧ M1 62 m = 1 ∧ M1 55 m = 2 ∧ M1 57 m = nI k ∧ ruB M t ne m k = true := by
  obtain ⟨⟨nh, nr, nx, I⟩, hE⟩ := h
  obtain ⟨-, -, l1, l2, l3, l4, l5, l6, l7, l8⟩ := I.1
  obtain ⟨⟨am, b1, b2, b3, b4⟩, b5, b6, b7⟩ := hE.1 k hk
  have f1 : ¬ b < -1 := by
    rcases hb with h | ⟨x, h, -, hx⟩
    · rw [h]; decide
    · rw [h]
      intro q
      exact nI_pos hx (Int32.lt_trans q (by decide))
  have f2 : b < M 50 k := by
    rcases hb with h | ⟨x, h, hx, -⟩
    · rw [h, b3]
      exact nI_m1_lt' am (by omega)
    · rw [h]; exact hx
  have ho := o_ruling I (by omega) hm m2 e57 hk f1 f2
  by_cases c : ne < 160 ∧ ruB M t ne m k = true
  · rw [if_pos c] at ho
    have h51 : M 51 k = 0 := by
      have cc := c.2
      unfold ruB at cc
      rw [Bool.and_eq_true, Bool.and_eq_true] at cc
      exact of_decide_eq_true cc.2.1
    have h53 : M 53 k = 0 := b6 (by rw [h51]; decide) (by rw [h51]; decide) (by rw [h51]; decide)
    have hw : ∃ y, 1 ≤ y ∧ y ≤ am ∧ ruA M k b = nI y := by
      unfold ruA
      by_cases q : b ≤ 0
      · rw [if_pos q]
        exact ⟨am, b1, Nat.le_refl _, b3⟩
      · rw [if_neg q]
        rcases hb with h | ⟨x, h, hx, hx2⟩
        · rw [h] at q
          exact absurd (by decide) q
        · rw [b3] at hx
          have := (nI_ltI hx2 (by omega)).mp hx
          refine ⟨x, ?_, by omega, h⟩
          by_cases z : x = 0
          · exfalso
            rw [h, z] at q
            exact q (by decide)
          · omega
    obtain ⟨y, y1, y2, hw⟩ := hw
    have hs : ruS b = 0 ∨ ruS b = 1 := by
      unfold ruS
      by_cases q : b = 0
      · rw [if_pos q]; exact Or.inr rfl
      · rw [if_neg q]; exact Or.inl rfl
    obtain ⟨M1, m1, mA, m3⟩ := w_ruling hn (IE.inv ⟨⟨nh, nr, nx, I⟩, hE⟩) ho
    have e51 : M1 51 = upd (M 51) k (ruS b) := mA 51 (by decide)
    have e50 : M1 50 = upd (M 50) k (ruA M k b) := mA 50 (by decide)
    have e60 : M1 60 = upd (M 60) ne (M 50 k) := mA 60 (by decide)
    have e62 : M1 62 = upd (M 62) m 1 := mA 62 (by decide)
    have e53 : M1 53 = M 53 := mA 53 (by decide)
    have e52 : M1 52 = M 52 := mA 52 (by decide)
    have e61 : M1 61 = M 61 := mA 61 (by decide)
    have e55 : M1 55 = upd (M 55) ne 4 := mA 55 (by decide)
    have e56 : M1 56 = upd (M 56) ne (nI t) := mA 56 (by decide)
    have e57' : M1 57 = upd (M 57) ne (nI k) := mA 57 (by decide)
    have hX : Ex t nk (ne + 1) ns M1 := by
      refine hE.entC (c := k) (K := 4) (IE.days ⟨⟨nh, nr, nx, I⟩, hE⟩) hk l4 e55 e56 e57' (fun k' _ hq => ⟨by rw [e50, upd_nx hq], by rw [e51, upd_nx hq], by rw [e52], by rw [e53]⟩) (fun e he => by rw [e60, upd_lt he]) (fun e _ _ => by rw [e61]) (mA 99 (by decide)) (mA 100 (by decide)) (mA 146 (by decide)) (fun _ => ⟨am, b1, b2, by rw [e60, upd_eq]; exact b3⟩) (fun q => ?_) ?_
      · exfalso
        rcases q with q | q <;> rw [h51] at q <;> exact absurd q (by decide)
      · refine ⟨⟨y, y1, by omega, by rw [e50, upd_eq]; exact hw, fun q => ?_⟩, by rw [e52]; exact b5, fun _ _ _ => by rw [e53]; exact h53, fun q => ?_⟩
        · rw [e51, upd_eq] at q
          rcases hs with z | z <;> rw [z] at q <;> exact absurd q (by decide)
        · rw [e51, upd_eq, e53, h53] at q
          rcases hs with z | z <;> rw [z] at q <;> rcases q with q | q | q
          · exact absurd rfl q
          · exact absurd q (by decide)
          · exact absurd q (by decide)
          · exact absurd rfl q
          · exact absurd q (by decide)
          · exact absurd q (by decide)
    refine Or.inr ⟨M1, by rw [m1, nI_l (by omega)], IE.ent ⟨⟨nh, nr, nx, I⟩, hE⟩ hn c.1 m3 mA rfl rfl rfl rfl rfl hX, by rw [e51, upd_eq], by rw [e50, upd_eq], by rw [e62, upd_eq], by rw [e55, upd_lt hm]; exact m2, by rw [e57', upd_lt hm]; exact e57, c.2⟩
  · rw [if_neg c] at ho
    exact Or.inl ⟨x2_ruling ho, c⟩
theorem s_vacate {n t nk ne ns : Nat} {M : gM} (h : IE n t nk ne ns M) (hn : n < 512) {k : Nat} (hk : k < nk) : f_W_vacate M (nI k) = qRet (-9000000000000000003) M ∨ ∃ M1, f_W_vacate M (nI k) = qRet (lN ne) M1 ∧ IE (n + 1) t nk (ne + 1) ns M1 ∧ M1 57 ne = nI k ∧ M1 51 k = 0 ∧ (∃ x, 1 ≤ x ∧ x ≤ 99999 ∧ M1 50 k = nI x) ∧ ∃ o, o < ne ∧ loV M ne (nI k) = nI o ∧ (M 55 o = 4 ∨ M 55 o = 5) := by
  obtain ⟨⟨nh, nr, nx, I⟩, hE⟩ := h
  obtain ⟨-, -, l1, l2, l3, l4, l5, l6, l7, l8⟩ := I.1
  obtain ⟨⟨am, b1, b2, b3, b4⟩, b5, b6, b7⟩ := hE.1 k hk
  rcases lo_dom M ne (nI k) with hl | ⟨o, o1, o2, o3, o4⟩
  · exact Or.inl (x2_vacate (n_vacate I hk hl))
  have ho := o_vacate I hk o1 o2
  by_cases c : ne < 160 ∧ vaK M o = true
  · rw [if_pos c] at ho
    have hK : M 55 o = 4 ∨ M 55 o = 5 := by
      have cc := c.2
      unfold vaK at cc
      rw [Bool.or_eq_true, Bool.and_eq_true] at cc
      rcases cc with z | z
      · exact Or.inr (of_decide_eq_true z)
      · exact Or.inl (of_decide_eq_true z.1)
    have h57 : M 57 o = nI k := by
      unfold ordB at o3
      exact of_decide_eq_true (and3_t o3).2.1
    have hno : ¬ (¬ M 53 k = 0 ∨ M 51 k = 4 ∨ M 51 k = 5) := by
      intro q
      obtain ⟨o', p1, p2⟩ := b7 q
      have := p1.lo (by omega)
      rw [o2] at this
      have := (nI_eq (by omega) (by have := p1.1; omega)).mp this
      subst this
      rcases hK with z | z <;> rw [z] at p2 <;> exact absurd p2 (by decide)
    have h53 : M 53 k = 0 := Decidable.byContradiction (fun z => hno (Or.inl z))
    obtain ⟨x, x1, x2, x3⟩ := hE.2.1 o o1 hK
    obtain ⟨M1, m1, mA, m3⟩ := w_vacate hn (IE.inv ⟨⟨nh, nr, nx, I⟩, hE⟩) ho
    have e51 : M1 51 = upd (M 51) k 0 := mA 51 (by decide)
    have e50 : M1 50 = upd (M 50) k (M 60 o) := mA 50 (by decide)
    have e60 : M1 60 = M 60 := mA 60 (by decide)
    have e53 : M1 53 = M 53 := mA 53 (by decide)
    have e52 : M1 52 = M 52 := mA 52 (by decide)
    have e61 : M1 61 = upd (M 61) o 1 := mA 61 (by decide)
    have e55 : M1 55 = upd (M 55) ne 6 := mA 55 (by decide)
    have e56 : M1 56 = upd (M 56) ne (nI t) := mA 56 (by decide)
    have e57' : M1 57 = upd (M 57) ne (nI k) := mA 57 (by decide)
    have hX : Ex t nk (ne + 1) ns M1 := by
      refine hE.entC (c := k) (K := 6) (IE.days ⟨⟨nh, nr, nx, I⟩, hE⟩) hk l4 e55 e56 e57' (fun k' _ hq => ⟨by rw [e50, upd_nx hq], by rw [e51, upd_nx hq], by rw [e52], by rw [e53]⟩) (fun e he => by rw [e60]) (fun e _ z => ?_) (mA 99 (by decide)) (mA 100 (by decide)) (mA 146 (by decide)) (fun q => absurd q (by decide)) (fun q => absurd (Or.inr q) hno) ?_
      · rw [e61, upd_nx (fun y => z (by rw [y]; exact h57))]
      · refine ⟨⟨x, x1, x2, by rw [e50, upd_eq]; exact x3, fun q => ?_⟩, by rw [e52]; exact b5, fun _ _ _ => by rw [e53]; exact h53, fun q => ?_⟩
        · rw [e51, upd_eq] at q
          exact absurd q (by decide)
        · rw [e51, upd_eq, e53, h53] at q
          rcases q with q | q | q
          · exact absurd rfl q
          · exact absurd q (by decide)
          · exact absurd q (by decide)
    exact Or.inr ⟨M1, by rw [m1, nI_l (by omega)], IE.ent ⟨⟨nh, nr, nx, I⟩, hE⟩ hn c.1 m3 mA rfl rfl rfl rfl rfl hX, by rw [e57', upd_eq], by rw [e51, upd_eq], ⟨x, x1, x2, by rw [e50, upd_eq]; exact x3⟩, o, o1, o2, hK⟩
  · rw [if_neg c] at ho
    exact Or.inl (x2_vacate ho)
theorem s_decide {n t nk ne ns : Nat} {M : gM} (h : IE n t nk ne ns M) (hn : n < 512) {k o : Nat} (hk : k < nk) (ho3 : o < 3) {x : Nat} (hx : nI x ≤ M 50 k) (hx2 : x < 2 ^ 31) : f_W_decide M (nI k) (nI o) (nI x) = qRet (-9000000000000000003) M ∨ ∃ M1, f_W_decide M (nI k) (nI o) (nI x) = qRet (lN ne) M1 ∧ IE (n + 1) t nk (ne + 1) ns M1 ∧ M1 57 ne = nI k ∧ M 51 k = 3 ∧ M1 51 k = deS o ∧ ∃ a b, a ≤ b ∧ b ≤ 99999 ∧ M 50 k = nI a ∧ M1 50 k = nI b := by
  obtain ⟨⟨nh, nr, nx, I⟩, hE⟩ := h
  obtain ⟨-, -, l1, l2, l3, l4, l5, l6, l7, l8⟩ := I.1
  obtain ⟨⟨am, b1, b2, b3, b4⟩, b5, b6, b7⟩ := hE.1 k hk
  have fair : o = 2 → ¬ (nI x < 0) ∧ nI x ≤ M 50 k := fun _ => ⟨nI_pos hx2, hx⟩
  by_cases c : ne < 160 ∧ M 51 k = 3
  · obtain ⟨c0, h51⟩ := c
    have h53 : M 53 k = 0 := b6 (by rw [h51]; decide) (by rw [h51]; decide) (by rw [h51]; decide)
    obtain ⟨j, b, d, j1, j2, j3, j4, j5, j6, -⟩ := b4 (Or.inr h51)
    have ho := o_decide I hk ho3 fair c0 h51 j1.1 j1.ls
    have hxa : x ≤ am := by
      rw [b3] at hx
      exact (nI_leI hx2 (by omega)).mp hx
    by_cases q2 : o = 2
    · rw [if_pos q2] at ho
      obtain ⟨M1, m1, mA, m3⟩ := w_decide hn (IE.inv ⟨⟨nh, nr, nx, I⟩, hE⟩) ho
      have e51 : M1 51 = upd (M 51) k 0 := mA 51 (by decide)
      have e50 : M1 50 = upd (M 50) k (M 60 j) := mA 50 (by decide)
      have e60 : M1 60 = M 60 := mA 60 (by decide)
      have e53 : M1 53 = M 53 := mA 53 (by decide)
      have e52 : M1 52 = upd (M 52) k (nI x) := mA 52 (by decide)
      have e61 : M1 61 = M 61 := mA 61 (by decide)
      have e55 : M1 55 = upd (M 55) ne 8 := mA 55 (by decide)
      have e56 : M1 56 = upd (M 56) ne (nI t) := mA 56 (by decide)
      have e57' : M1 57 = upd (M 57) ne (nI k) := mA 57 (by decide)
      have hX : Ex t nk (ne + 1) ns M1 := by
        refine hE.entC (c := k) (K := 8) (IE.days ⟨⟨nh, nr, nx, I⟩, hE⟩) hk l4 e55 e56 e57' (fun k' _ hq => ⟨by rw [e50, upd_nx hq], by rw [e51, upd_nx hq], by rw [e52, upd_nx hq], by rw [e53]⟩) (fun e he => by rw [e60]) (fun e _ z => by rw [e61]) (mA 99 (by decide)) (mA 100 (by decide)) (mA 146 (by decide)) (fun q => absurd q (by decide)) (fun q => ?_) ?_
        · exfalso
          rcases q with q | q <;> rw [h51] at q <;> exact absurd q (by decide)
        · refine ⟨⟨b, by omega, j4, by rw [e50, upd_eq]; exact j2, fun q => ?_⟩, by rw [e52, upd_eq]; exact Or.inr ⟨x, by omega, rfl⟩, fun _ _ _ => by rw [e53]; exact h53, fun q => ?_⟩
          · rw [e51, upd_eq] at q
            exact absurd q (by decide)
          · rw [e51, upd_eq, e53, h53] at q
            rcases q with q | q | q
            · exact absurd rfl q
            · exact absurd q (by decide)
            · exact absurd q (by decide)
      refine Or.inr ⟨M1, by rw [m1, nI_l (by omega)], IE.ent ⟨⟨nh, nr, nx, I⟩, hE⟩ hn c0 m3 mA rfl rfl rfl rfl rfl hX, by rw [e57', upd_eq], h51, by rw [e51, upd_eq, q2]; rfl, am, b, j3, j4, b3, by rw [e50, upd_eq]; exact j2⟩
    · rw [if_neg q2] at ho
      obtain ⟨M1, m1, mA, m3⟩ := w_decide hn (IE.inv ⟨⟨nh, nr, nx, I⟩, hE⟩) ho
      have e51 : M1 51 = upd (M 51) k (deS o) := mA 51 (by decide)
      have e50 : M1 50 = M 50 := mA 50 (by decide)
      have e60 : M1 60 = M 60 := mA 60 (by decide)
      have e53 : M1 53 = M 53 := mA 53 (by decide)
      have e52 : M1 52 = M 52 := mA 52 (by decide)
      have e61 : M1 61 = M 61 := mA 61 (by decide)
      have e55 : M1 55 = upd (M 55) ne 8 := mA 55 (by decide)
      have e56 : M1 56 = upd (M 56) ne (nI t) := mA 56 (by decide)
      have e57' : M1 57 = upd (M 57) ne (nI k) := mA 57 (by decide)
      have hs : deS o = 1 ∨ deS o = 2 := by
        unfold deS
        have : o = 0 ∨ o = 1 := by omega
        rcases this with z | z
        · subst z; exact Or.inr rfl
        · subst z; exact Or.inl rfl
      have hX : Ex t nk (ne + 1) ns M1 := by
        refine hE.entC (c := k) (K := 8) (IE.days ⟨⟨nh, nr, nx, I⟩, hE⟩) hk l4 e55 e56 e57' (fun k' _ hq => ⟨by rw [e50], by rw [e51, upd_nx hq], by rw [e52], by rw [e53]⟩) (fun e he => by rw [e60]) (fun e _ z => by rw [e61]) (mA 99 (by decide)) (mA 100 (by decide)) (mA 146 (by decide)) (fun q => absurd q (by decide)) (fun q => ?_) ?_
        · exfalso
          rcases q with q | q <;> rw [h51] at q <;> exact absurd q (by decide)
        · refine ⟨⟨am, b1, b2, by rw [e50]; exact b3, fun q => ⟨j, b, d, by rw [e55, e57']; exact j1.up (Or.inr (by decide)), by rw [e60]; exact j2, j3, j4, j5, by rw [e56, upd_lt j1.1]; exact j6, fun _ => ⟨0, by rw [e53, h53, nI_0], by omega⟩⟩⟩, by rw [e52]; exact b5, fun _ _ _ => by rw [e53]; exact h53, fun q => ?_⟩
          rw [e51, upd_eq, e53, h53] at q
          rcases hs with z | z <;> rw [z] at q <;> rcases q with q | q | q
          · exact absurd rfl q
          · exact absurd q (by decide)
          · exact absurd q (by decide)
          · exact absurd rfl q
          · exact absurd q (by decide)
          · exact absurd q (by decide)
      refine Or.inr ⟨M1, by rw [m1, nI_l (by omega)], IE.ent ⟨⟨nh, nr, nx, I⟩, hE⟩ hn c0 m3 mA rfl rfl rfl rfl rfl hX, by rw [e57', upd_eq], h51, by rw [e51, upd_eq], am, am, Nat.le_refl _, b2, b3, by rw [e50]; exact b3⟩
  · exact Or.inl (x2_decide (n_decide I hk ho3 fair c))
theorem s_pay {n t nk ne ns : Nat} {M : gM} (h : IE n t nk ne ns M) (hn : n < 512) {k x : Nat} (hk : k < nk) (x1 : 1 ≤ x) (x2 : x ≤ 3000) : (f_W_pay M (nI k) (nI x) = qRet (-9000000000000000003) M ∧ (M 51 k = 2 → ne < 160 → blV M t ne k < nI x)) ∨ ∃ M1 b, f_W_pay M (nI k) (nI x) = qRet (lN (b - x)) M1 ∧ x ≤ b ∧ b ≤ 130000 ∧ blV M t ne k = nI b ∧ IE (n + 1) t nk (ne + 1) ns M1 ∧ M1 57 ne = nI k ∧ M 51 k = 2 ∧ M1 51 k = leS (nI (b - x)) := by
  obtain ⟨⟨nh, nr, nx, I⟩, hE⟩ := h
  obtain ⟨-, -, l1, l2, l3, l4, l5, l6, l7, l8⟩ := I.1
  obtain ⟨⟨am, b1, b2, b3, b4⟩, b5, b6, b7⟩ := hE.1 k hk
  by_cases h51 : M 51 k = 2
  · obtain ⟨b, y1, y2, y3, a, p, d, j, z1, z2, z3, z4, z5, z6, z7⟩ := bl_won hE l1 (by omega) hk h51
    have ho := o_pay I hk x1 (by omega) (fun _ => ⟨z3.1, z3.ls⟩)
    by_cases c : ne < 160 ∧ M 51 k = 2 ∧ ¬ blV M t ne k < nI x
    · rw [if_pos c] at ho
      have hxb : x ≤ b := by
        rw [y3] at c
        have q := c.2.2
        have q' : ¬ b < x := fun z => q ((nI_ltI (by omega) (by omega)).mpr z)
        omega
      have hle : leV M t k j (nI x) = nI (b - x) := by
        unfold leV
        rw [z1, z2, z4, owe z6 l1 z5, nI_add, pk_sub (by omega), show a + a * ((t - d) / 30) / 100 - (p + x) = b - x by omega]
      rw [hle] at ho
      obtain ⟨M1, m1, mA, m3⟩ := w_pay hn (IE.inv ⟨⟨nh, nr, nx, I⟩, hE⟩) ho
      have e51 : M1 51 = upd (M 51) k (leS (leV M t k j (nI x))) := mA 51 (by decide)
      rw [hle] at e51
      have e50 : M1 50 = M 50 := mA 50 (by decide)
      have e60 : M1 60 = M 60 := mA 60 (by decide)
      have e53 : M1 53 = upd (M 53) k (M 53 k + nI x) := mA 53 (by decide)
      have e52 : M1 52 = M 52 := mA 52 (by decide)
      have e61 : M1 61 = M 61 := mA 61 (by decide)
      have e55 : M1 55 = upd (M 55) ne 10 := mA 55 (by decide)
      have e56 : M1 56 = upd (M 56) ne (nI t) := mA 56 (by decide)
      have e57' : M1 57 = upd (M 57) ne (nI k) := mA 57 (by decide)
      have p53 : M1 53 k = nI (p + x) := by rw [e53, upd_eq, z2, nI_add]
      have hX : Ex t nk (ne + 1) ns M1 := by
        refine hE.entC (c := k) (K := 10) (IE.days ⟨⟨nh, nr, nx, I⟩, hE⟩) hk l4 e55 e56 e57' (fun k' _ hq => ⟨by rw [e50], by rw [e51, upd_nx hq], by rw [e52], by rw [e53, upd_nx hq]⟩) (fun e he => by rw [e60]) (fun e _ z => by rw [e61]) (mA 99 (by decide)) (mA 100 (by decide)) (mA 146 (by decide)) (fun q => absurd q (by decide)) (fun q => ?_) ?_
        · exfalso
          rcases q with q | q <;> rw [h51] at q <;> exact absurd q (by decide)
        · refine ⟨⟨am, b1, b2, by rw [e50]; exact b3, fun q => ?_⟩, by rw [e52]; exact b5, fun q1 _ q3 => ?_, fun _ => ⟨ne, by rw [e55, e57', e61]; exact olast.nw (by decide) (Gd1.z61 I), by rw [e55, upd_eq]; exact Or.inr rfl⟩⟩
          · obtain ⟨j', b', d', r1, r2, r3, r4, r5, r6, -⟩ := b4 (Or.inl h51)
            have hj : j' = j := by
              have := r1.ls.symm.trans z3.ls
              exact (nI_eq (by have := r1.1; omega) (by have := z3.1; omega)).mp this
            subst hj
            have hd : d' = d := by
              have := r6.symm.trans z4
              exact (nI_eq (by omega) (by omega)).mp this
            subst hd
            have ha : a = am := (nI_eq (by omega) (by omega)).mp (z1.symm.trans b3)
            subst ha
            refine ⟨j', b', d', by rw [e55, e57']; exact r1.up (Or.inr (by decide)), by rw [e60]; exact r2, r3, r4, r5, by rw [e56, upd_lt r1.1]; exact r6, fun s => ⟨p + x, p53, ?_⟩⟩
            rw [e51, upd_eq] at s
            unfold leS at s
            by_cases w : nI (b - x) = 0
            · rw [if_pos w] at s
              exact absurd s (by decide)
            · have : b - x ≠ 0 := fun y => w (by rw [y]; exact nI_0)
              omega
          · exfalso
            rw [e51, upd_eq] at q1 q3
            unfold leS at q1 q3
            by_cases w : nI (b - x) = 0
            · rw [if_pos w] at q3
              exact q3 rfl
            · rw [if_neg w] at q1
              exact q1 rfl
      refine Or.inr ⟨M1, b, by rw [m1, nI_l (by omega)], hxb, y2, y3, IE.ent ⟨⟨nh, nr, nx, I⟩, hE⟩ hn c.1 m3 mA rfl rfl rfl rfl rfl hX, by rw [e57', upd_eq], h51, by rw [e51, upd_eq]⟩
    · rw [if_neg c] at ho
      exact Or.inl ⟨x2_pay ho, fun _ q => Decidable.byContradiction (fun z => c ⟨q, h51, z⟩)⟩
  · have ho := o_pay (j := 0) I hk x1 (by omega) (fun q => absurd q h51)
    rw [if_neg (fun q => h51 q.2.1)] at ho
    exact Or.inl ⟨x2_pay ho, fun q => absurd q h51⟩
