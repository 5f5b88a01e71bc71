theorem e_addHol {M : gM} {nh d : Nat} (h : M 1 3 = nI nh) (hn : nh < 30) (hd : d ≤ 1000) : f_X0_addHoliday M (nI d) = rRet 0 (gset (gset (gset M 12 nh (nI d)) 1 3 (nI (nh + 1))) 11 d (M 11 d ||| 256)) := by
  have hc : (nI nh).toNatClampNeg = nh := nI_clamp (by omega)
  have hd9 : (nI d).toNatClampNeg = d := nI_clamp (by omega)
  unfold f_X0_addHoliday
  rw [h, gI_nI hn (by omega), hc, hd9]
  simp only [bM, gI_nI (show d < 1401 by omega) (show 1401 < 2 ^ 31 by omega)]
  show rRet 0 (gset (gset _ 1 3 (M 1 3 + 1)) 11 d (M 11 d ||| 256)) = _
  rw [h, nI_1]
theorem Gstay.hol {t ne d0 : Nat} {m11 m15 m24 m120 m121 m122 : Nat → Int32} (h : Gstay t ne m11 m15 m24 m120 m121 m122) : Gstay t ne (upd m11 d0 (m11 d0 ||| 256)) m15 m24 m120 m121 m122 := by
  refine ⟨fun c hc d hd => ?_, h.2⟩
  rw [← h.1 c hc d hd, upd_at]
  by_cases e : d = d0
  · rw [if_pos e, b_or, b_256 c (by omega), e, show decide (c = 8) = false from decide_eq_false (by omega), Bool.or_false]
  · rw [if_neg e]
theorem Ghol.add {nh d0 : Nat} {m11 m12 m102 : Nat → Int32} (h : Ghol nh m11 m12 m102) (hd0 : d0 ≤ 1000) : Ghol (nh + 1) (upd m11 d0 (m11 d0 ||| 256)) (upd m12 nh (nI d0)) (upd m102 d0 1) := by
  obtain ⟨h1, h2, h3, h4⟩ := h
  refine ⟨fun d => ?_, fun i hi => ?_, fun d hd => ?_, fun d hd => ?_⟩
  · rw [upd_at]
    by_cases e : d = d0
    · rw [if_pos e]
      exact Or.inr rfl
    · rw [if_neg e]
      exact h1 d
  · rw [upd_at]
    by_cases e : i = nh
    · rw [if_pos e]
      exact ⟨d0, by omega, rfl⟩
    · rw [if_neg e]
      exact h2 i (by omega)
  · rw [upd_at]
    by_cases e : d = d0
    · rw [if_pos e]
      exact ⟨fun _ => ⟨nh, by omega, by rw [upd_self, e]⟩, fun _ => rfl⟩
    · rw [if_neg e, h3 d hd]
      refine ⟨fun ⟨i, hi, hx⟩ => ⟨i, by omega, by rw [upd_ne (by omega)]; exact hx⟩, fun ⟨i, hi, hx⟩ => ?_⟩
      rw [upd_at] at hx
      by_cases e2 : i = nh
      · rw [if_pos e2] at hx
        exact absurd ((nI_eq (by omega) (by omega)).mp hx).symm e
      · rw [if_neg e2] at hx
        exact ⟨i, by omega, hx⟩
  · unfold free
    rw [upd_at, upd_at]
    by_cases e : d = d0
    · rw [if_pos e, if_pos e, b_or, b_256 8 (by omega)]
      exact ⟨fun _ => Or.inr ⟨by omega, rfl⟩, fun _ => by simp⟩
    · rw [if_neg e, if_neg e]
      exact h4 d hd
theorem st_holiday : St_holiday Inv := by
  intro n M a hn hI
  obtain ⟨t, nh, nc, nk, ne, nr, nx, ns, I⟩ := hI
  obtain ⟨⟨a1, a2, a3, a4, a5, a6, a7, a8⟩, ⟨b1, b2, b3, b4, b5, b6, b7⟩, l1, l2, l3, l4, l5, l6, l7, l8⟩ := I.1
  obtain ⟨g1, g2, g3, g4⟩ := I.2.1
  have hk : (1000 : Int32) = nI 1000 := by decide
  have h30 : (30 : Int32) = nI 30 := by decide
  have k49 : ∀ (a : Int32), f_X9_holiday_b49 M a 2 = rRet 0 (gset M 9 0 2) := by
    intro a
    unfold f_X9_holiday_b49
    rw [rf_2, rb_ret, if_neg i10]
  rcases rng_cases a 0 1000 (by omega) (by omega) with ⟨d, -, d2, rfl⟩ | hb
  · have hd : (nI d).toNatClampNeg = d := nI_clamp (by omega)
    have hg : ∀ F : gR, gI (nI d) 1001 F = F := fun F => gI_nI (by omega) (by omega)
    have no2 : f_X8_holiday M (nI d) = rThr 2 M → f_X9_holiday M (nI d) = f_X9_holiday_b49 M (nI d) 2 → AgB (f_L_holiday M (nI d)) (fun M1 => f_X9_holiday M1 (nI d)) (Inv (n + 1)) := by
      intro h8 h9
      refine agB_no (k := 2) ?_ (by decide) (b := 0) (h9.trans (k49 _)) (inv_no I)
      unfold f_L_holiday
      rw [h8, rc_thr]
      rfl
    by_cases hdt : d ≤ t
    · refine no2 ?_ ?_
      · unfold f_X8_holiday
        rw [if_neg (nI_pos (by omega)), hk, if_pos (nI_le d2 (by omega)), a1, if_pos (nI_le hdt (by omega))]
      · unfold f_X9_holiday
        rw [rg_ok (l := 0) (h := 1000) (by decide) (by decide) (by omega) d2 (by omega), rb_ret, if_neg i10, b1, if_pos (nI_le hdt (by omega))]
        unfold f_X9_holiday_b44
        rfl
    · rcases g1 d with z | z
      · have hno : ∀ j, j < nh → M 12 j ≠ nI d := fun j hj e => by
          have := (g3 d d2).mpr ⟨j, hj, e⟩
          rw [z] at this
          exact absurd this (by decide)
        have e8h := (e_isHol (a := nI d) a2 l2).2 hno
        by_cases hc : nh < 30
        · obtain ⟨v, hv, k8, k9⟩ : ∃ v : Int32, z01 v ∧ f_X0_isFree M (nI d) = rRet (1 - v) M ∧ ∀ M' : gM, M' 102 = M 102 → f_X9_isFree M' (nI d) = rRet (1 - v) M' := by
            by_cases hf : free (M 102) d
            · refine ⟨0, Or.inl rfl, (e_free8 (by omega) (g4 d (by omega))).1 hf, fun M' h => ?_⟩
              exact (e_free9 (M := M') (by omega) (by rw [h]; exact g1)).1 (by rw [h]; exact hf)
            · refine ⟨1, Or.inr rfl, (e_free8 (by omega) (g4 d (by omega))).2 hf, fun M' h => ?_⟩
              exact (e_free9 (M := M') (by omega) (by rw [h]; exact g1)).2 (by rw [h]; exact hf)
          have hvv : ∀ M' : gM, (if (1 - v : Int32) = 0 then rRet 1 M' else rRet 0 M') = rRet v M' := by
            intro M'
            rcases hv with q | q
            · rw [q, if_neg (by decide)]
            · rw [q, if_pos (by decide)]
          have e8 : f_X8_holiday M (nI d) = rRet v (gset (gset (gset M 12 nh (nI d)) 1 3 (nI (nh + 1))) 11 d (M 11 d ||| 256)) := by
            unfold f_X8_holiday
            rw [if_neg (nI_pos (by omega)), hk, if_pos (nI_le d2 (by omega)), a1, if_neg (nI_ge (by omega) (by omega)), e8h, rb_ret, if_pos rfl, a2, h30, if_pos (nI_lt hc (by omega)), k8, rb_ret, e_addHol a2 hc d2, rb_ret, hvv]
          refine agB_ok (v := v) (M1 := gset (gset (gset M 12 nh (nI d)) 1 3 (nI (nh + 1))) 11 d (M 11 d ||| 256)) (M2 := gset (gset (gset (gset (gset (gset (gset M 12 nh (nI d)) 1 3 (nI (nh + 1))) 11 d (M 11 d ||| 256)) 10 0 (gb v)) 9 0 0) 102 d 1) 9 2 (nI (nh + 1))) ?_ ?_ rfl rfl ?_
          · unfold f_L_holiday
            rw [e8, rc_ret]
            rcases hv with q | q
            · rw [q]
              rfl
            · rw [q]
              rfl
          · have k9h : ∀ M' : gM, M' 9 1 = nI t → M' 9 2 = nI nh → M' 102 = M 102 → f_X9_holiday M' (nI d) = rRet v (gset (gset (gset M' 9 0 0) 102 d 1) 9 2 (nI (nh + 1))) := by
              intro M' h1 h2 h3
              unfold f_X9_holiday
              rw [rg_ok (l := 0) (h := 1000) (by decide) (by decide) (by omega) d2 (by omega), rb_ret, if_neg i10, h1, if_neg (nI_ge (by omega) (by omega)), hg, hd, h3, z, if_pos rfl, h2, h30, if_neg (fun q => by
                have := (nI_eq (by omega) (by omega)).mp q
                omega)]
              unfold f_X9_holiday_b49
              rw [rf_0, rb_ret, if_pos rfl, k9 (gset M' 9 0 0) h3, rb_ret, z01_eq (Or.inr rfl), hg, hd]
              show (if (1 - v : Int32) = 0 then rRet 1 (gset (gset (gset M' 9 0 0) 102 d 1) 9 2 (M' 9 2 + 1)) else rRet 0 (gset (gset (gset M' 9 0 0) 102 d 1) 9 2 (M' 9 2 + 1))) = _
              rw [hvv, h2, nI_1]
            exact k9h _ b1 b2 rfl
          · obtain ⟨h1, h2, h3, h4, h5, h6, h7, h8, h9, h10, h11, h12, h13, h14⟩ := I
            exact ⟨t, nh + 1, nc, nk, ne, nr, nx, ns, ⟨⟨a1, rfl, a3, a4, a5, a6, a7, a8⟩, ⟨b1, rfl, b3, b4, b5, b6, b7⟩, l1, hc, l3, l4, l5, l6, l7, (Nat.le_succ_of_le l8)⟩, h2.add d2, h3, h4.hol, h5, h6, h7, h8, h9, h10, h11, h12, h13.up, h14⟩
        · have e30 : nh = 30 := by omega
          refine no2 ?_ ?_
          · unfold f_X8_holiday
            rw [if_neg (nI_pos (by omega)), hk, if_pos (nI_le d2 (by omega)), a1, if_neg (nI_ge (by omega) (by omega)), e8h, rb_ret, if_pos rfl, a2, h30, if_neg (nI_nlt (by omega) (by omega))]
          · unfold f_X9_holiday
            rw [rg_ok (l := 0) (h := 1000) (by decide) (by decide) (by omega) d2 (by omega), rb_ret, if_neg i10, b1, if_neg (nI_ge (by omega) (by omega)), hg, hd, z, if_pos rfl, b2, e30, if_pos (by decide)]
            unfold f_X9_holiday_b44
            rfl
      · obtain ⟨j, hj, hx⟩ := (g3 d d2).mp z
        refine no2 ?_ ?_
        · unfold f_X8_holiday
          rw [if_neg (nI_pos (by omega)), hk, if_pos (nI_le d2 (by omega)), a1, if_neg (nI_ge (by omega) (by omega)), (e_isHol (a := nI d) a2 l2).1 ⟨j, hj, hx⟩, rb_ret, if_neg i10]
        · unfold f_X9_holiday
          rw [rg_ok (l := 0) (h := 1000) (by decide) (by decide) (by omega) d2 (by omega), rb_ret, if_neg i10, b1, if_neg (nI_ge (by omega) (by omega)), hg, hd, z, if_neg i10]
          unfold f_X9_holiday_b44
          rfl
  · refine agB_no (k := 1) ?_ (by decide) (b := 0) ?_ (inv_no I)
    · unfold f_L_holiday f_X8_holiday
      rw [nI_0] at hb
      rcases hb with z | ⟨z, z2⟩
      · rw [if_pos z, rc_thr]
        rfl
      · rw [if_neg z, hk, if_neg (Int32.not_le.mpr z2), rc_thr]
        rfl
    · unfold f_X9_holiday
      rw [rg_no (l := 0) (h := 1000) (by decide) (by decide) hb, rb_ret, if_pos rfl]
      unfold f_X9_holiday_b49
      rw [rf_1, rb_ret, if_neg i10]
