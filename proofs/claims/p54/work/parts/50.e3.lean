theorem st_pass : St_pass Inv := by
  intro n M a hn hI
  obtain ⟨t, nh, nc, nk, ne, nr, nx, ns, I⟩ := hI
  obtain ⟨⟨a1, a2, a3, a4, a5, a6, a7, a8⟩, ⟨b1, b2, b3, b4, b5, b6, b7⟩, l1, l2, l3, l4, l5, l6, l7, l8⟩ := I.1
  rcases rng_cases a 1 60 (by omega) (by omega) with ⟨x, x1, x2, rfl⟩ | hb
  · by_cases hc : t + x ≤ 900
    · have e1 : f_X8_pass M (nI x) = rRet (nI (t + x)) (gset M 1 0 (nI (t + x))) := by
        unfold f_X8_pass
        rw [c8_Days x1 x2, rb_ret, a1, nI_add, show (900 : Int32) = nI 900 from by decide, if_pos (nI_le hc (by omega))]
        rfl
      refine agI_ok (v := nI (t + x)) (M1 := gset M 1 0 (nI (t + x))) (M2 := gset (gset (gset (gset M 1 0 (nI (t + x))) 10 0 (nI (t + x))) 9 0 0) 9 1 (nI (t + x))) ?_ ?_ rfl rfl ?_
      · unfold f_L_pass
        rw [e1, rc_ret]
      · unfold f_X9_pass
        rw [rg_ok (l := 1) (h := 60) (by decide) (by decide) x1 x2 (by omega), rb_ret, if_neg i10]
        show (if (M 9 1 + nI x) ≤ 900 then _ else _) = _
        rw [b1, nI_add, show (900 : Int32) = nI 900 from by decide, if_pos (nI_le hc (by omega))]
        unfold f_X9_pass_b32
        rw [rf_0, rb_ret, if_pos rfl]
        show bM (gset _ 9 1 (M 9 1 + nI x)) _ = _
        rw [b1, nI_add]
        rfl
      · obtain ⟨h1, h2, h3, ⟨s1, s2⟩, h5, h6, h7, h8, h9, ⟨q1, q2, q3⟩, ⟨g1, g2, g3⟩, ⟨d1, d2, d3, d4⟩, h13, h14⟩ := I
        refine ⟨t + x, nh, nc, nk, ne, nr, nx, ns, ⟨⟨rfl, a2, a3, a4, a5, a6, a7, a8⟩, ⟨rfl, b2, b3, b4, b5, b6, b7⟩, hc, l2, l3, l4, l5, l6, l7, (Nat.le_succ_of_le l8)⟩, h2, h3, ⟨s1, fun c hc => ?_⟩, h5, h6, h7, h8, h9, ⟨fun i hi => isIx_mono (q1 i hi) (by omega), q2, q3⟩, ⟨g1, fun e he => ?_, g3⟩, ⟨d1, d2, fun e he => ⟨(d3 e he).1, ?_⟩, d4⟩, h13.up, h14⟩
        · obtain ⟨tc, r1, r2, r3, r4⟩ := s2 c hc
          exact ⟨tc, r1, r2, fun k hk => (r3 k hk).imp fun y hy => ⟨by omega, hy.2⟩, r4⟩
        · obtain ⟨k, d, r1, r2, r3⟩ := g2 e he
          exact ⟨k, d, r1, by omega, r3⟩
        · rcases (d3 e he).2 with r | ⟨⟨d, r1, r2⟩, r3⟩
          · exact Or.inl r
          · exact Or.inr ⟨⟨d, by omega, r2⟩, r3⟩
    · refine agI_no (k := 2) ?_ (by decide) (b := 0) ?_ (inv_no I)
      · unfold f_L_pass f_X8_pass
        rw [c8_Days x1 x2, rb_ret, a1, nI_add, show (900 : Int32) = nI 900 from by decide, if_neg (nI_ge (by omega) (by omega)), rc_thr]
        rfl
      · unfold f_X9_pass
        rw [rg_ok (l := 1) (h := 60) (by decide) (by decide) x1 x2 (by omega), rb_ret, if_neg i10, b1, nI_add, show (900 : Int32) = nI 900 from by decide, if_neg (nI_ge (by omega) (by omega))]
        rfl
  · refine agI_no (k := 1) ?_ (by decide) (b := 0) ?_ (inv_no I)
    · unfold f_L_pass f_X8_pass
      rw [n8_Days hb, rb_thr, rc_thr]
      rfl
    · unfold f_X9_pass
      rw [rg_no (l := 1) (h := 60) (by decide) (by decide) hb, rb_ret]
      rfl
theorem st_setRule : St_setRule Inv := by
  intro n M a b c0 hn hI
  obtain ⟨t, nh, nc, nk, ne, nr, nx, ns, I⟩ := hI
  obtain ⟨⟨a1, a2, a3, a4, a5, a6, a7, a8⟩, ⟨b1, b2, b3, b4, b5, b6, b7⟩, l1, l2, l3, l4, l5, l6, l7, l8⟩ := I.1
  have hz := gb01 c0
  generalize gb c0 = c at hz ⊢
  have hzg : ∀ F : gR, gZ01 c F = F := fun F => z01_eq hz
  rcases idx_cases a 5 (by omega) with ⟨i, hi, rfl⟩ | hb0
  · have hc : (nI i).toNatClampNeg = i := nI_clamp (by omega)
    have hg : ∀ F : gR, gI (nI i) 5 F = F := fun F => gI_nI hi (by omega)
    have h5 : (5 : Int32) = nI 5 := by decide
    have h4 : (4 : Int32) = nI 5 - 1 := by decide
    rcases rng_cases b 1 60 (by omega) (by omega) with ⟨x, x1, x2, rfl⟩ | hb
    · refine agI_ok (v := M 13 i) (M1 := gset (gset M 13 i (nI x)) 14 i c) (M2 := gset (gset (gset (gset (gset (gset M 13 i (nI x)) 14 i c) 10 0 (M 13 i)) 9 0 0) 103 i (nI x)) 104 i c) ?_ ?_ rfl rfl ?_
      · unfold f_L_setRule f_X8_setRule
        rw [if_neg (nI_pos (by omega)), h5, if_pos (nI_lt hi (by omega)), c8_Days x1 x2, rb_ret, hg, hc]
        simp only [bV, bM, hg, hzg]
        rw [rc_ret]
      · unfold f_X9_setRule
        rw [h4, wit_ok hi (by omega), rb_ret, if_neg i10, rg_ok (l := 1) (h := 60) (by decide) (by decide) x1 x2 (by omega), rb_ret, if_neg i10]
        unfold f_X9_setRule_b29
        rw [rf_0, rb_ret, if_pos rfl, hg, hc]
        simp only [bV, bM, hg, hzg]
        show rRet (M 103 i) _ = _
        rw [I.2.2.1.1]
      · obtain ⟨h1, h2, ⟨r1, r2, r3⟩, h4, h5, h6, h7, h8, h9, h10, h11, h12, h13, h14⟩ := I
        refine ⟨t, nh, nc, nk, ne, nr, nx, ns, h1.up, h2, ⟨?_, ?_, fun j hj => ?_⟩, h4, h5, h6, h7, h8, h9, h10, h11, h12, h13.up, h14⟩
        · show upd (M 103) i (nI x) = upd (M 13) i (nI x)
          rw [r1]
        · show upd (M 104) i c = upd (M 14) i c
          rw [r2]
        · show (∃ y, 1 ≤ y ∧ y ≤ 60 ∧ upd (M 13) i (nI x) j = nI y) ∧ z01 (upd (M 14) i c j)
          rw [upd_at, upd_at]
          by_cases e : j = i
          · rw [if_pos e, if_pos e]
            exact ⟨⟨x, x1, x2, rfl⟩, hz⟩
          · rw [if_neg e, if_neg e]
            exact r3 j hj
    · refine agI_no (k := 2) ?_ (by decide) (b := 0) ?_ (inv_no I)
      · unfold f_L_setRule f_X8_setRule
        rw [if_neg (nI_pos (by omega)), h5, if_pos (nI_lt hi (by omega)), n8_Days hb, rb_thr, rc_thr]
        rfl
      · unfold f_X9_setRule
        rw [h4, wit_ok hi (by omega), rb_ret, if_neg i10, rg_no (l := 1) (h := 60) (by decide) (by decide) hb, rb_ret]
        rfl
  · refine agI_no (k := 1) ?_ (by decide) (b := 0) ?_ (inv_no I)
    · unfold f_L_setRule f_X8_setRule
      have h5 : (5 : Int32) = nI 5 := by decide
      rcases hb0 with h | ⟨h, h2⟩
      · rw [if_pos h, rc_thr]
        rfl
      · rw [if_neg h, h5, if_neg h2, rc_thr]
        rfl
    · unfold f_X9_setRule
      rw [show (4 : Int32) = nI 5 - 1 from by decide, wit_no (by omega) hb0, rb_ret]
      rfl
