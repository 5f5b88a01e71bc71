theorem st_today : St_today Inv := by
  intro n M hn hI
  obtain ⟨t, nh, nc, nk, ne, nr, nx, ns, I⟩ := hI
  obtain ⟨⟨a1, a2, a3, a4, a5, a6, a7, a8⟩, ⟨b1, b2⟩, -⟩ := I.1
  refine ⟨nI t, M, gset M 9 0 0, ?_, ?_, inv_no I⟩
  · show rRet (M 1 0) M = _
    rw [a1]
  · show rRet (M 9 1) (gset M 9 0 0) = _
    rw [b1]
theorem st_entries : St_entries Inv := by
  intro n M hn hI
  obtain ⟨t, nh, nc, nk, ne, nr, nx, ns, I⟩ := hI
  obtain ⟨⟨a1, a2, a3, a4, a5, a6, a7, a8⟩, ⟨b1, b2, b3, b4, b5, b6, b7⟩, -⟩ := I.1
  refine ⟨nI ne, M, gset M 9 0 0, ?_, ?_, inv_no I⟩
  · show rRet (M 4 0) M = _
    rw [a5]
  · show rRet (M 9 23) (gset M 9 0 0) = _
    rw [b5]
theorem st_stateOf : St_stateOf Inv := by
  intro n M a hn hI
  obtain ⟨t, nh, nc, nk, ne, nr, nx, ns, I⟩ := hI
  obtain ⟨⟨a1, a2, a3, a4, a5, a6, a7, a8⟩, ⟨b1, b2, b3, b4, b5, b6, b7⟩, l1, l2, l3, l4, l5, l6, l7, l8⟩ := I.1
  obtain ⟨⟨-, -, -, e112, -⟩, -⟩ := I.2.2.2.2.2.1
  rcases idx_cases a nk (by omega) with ⟨i, hi, rfl⟩ | hb
  · have hc : (nI i).toNatClampNeg = i := nI_clamp (by omega)
    refine agI_ok (v := M 51 i) (M1 := M) (M2 := gset (gset M 10 0 (M 51 i)) 9 0 0) ?_ ?_ rfl rfl (inv_rd I)
    · unfold f_L_stateOf f_X8_stateOf
      rw [c8_Claim a4 hi (by omega), rb_ret, gI_nI (show i < 24 by omega) (by omega), rc_ret, hc]
    · unfold f_X9_stateOf
      rw [c9_Claim (M := gset M 10 0 (M 51 i)) b4 hi (by omega), rb_ret]
      show f_X9_stateOf_b14 _ _ 0 = _
      unfold f_X9_stateOf_b14
      rw [rf_0, rb_ret]
      show gI _ 24 _ = _
      rw [gI_nI (show i < 24 by omega) (by omega), hc]
      show rRet (M 112 i) _ = _
      rw [e112]
  · refine agI_no (k := 1) ?_ (by decide) (b := 0) ?_ (inv_no I)
    · unfold f_L_stateOf f_X8_stateOf
      rw [n8_Claim a4 hb, rb_thr, rc_thr]
      rfl
    · unfold f_X9_stateOf
      rw [n9_Claim b4 (by omega) hb, rb_ret]
      rfl
