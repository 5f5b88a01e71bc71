theorem nI_mul (a b : Nat) : nI a * nI b = nI (a * b) := (Int32.ofNat_mul a b).symm
theorem ix2 (i s : Nat) : (2 : Int32) * nI i + nI s = nI (2 * i + s) := by
  rw [show (2 : Int32) = nI 2 from by decide, nI_mul, nI_add]
theorem st_object : St_object Inv := by
  intro n M a b hn hI
  obtain ⟨t, nh, nc, nk, ne, nr, nx, ns, I⟩ := hI
  obtain ⟨⟨a1, a2, a3, a4, a5, a6, a7, a8⟩, ⟨b1, b2, b3, b4, b5, b6, b7⟩, l1, l2, l3, l4, l5, l6, l7, l8⟩ := I.1
  rcases idx_cases a nx (by omega) with ⟨i, hi, rfl⟩ | hb
  · rcases idx_cases b 2 (by omega) with ⟨s, hs, rfl⟩ | hb
    · have hc : (nI i).toNatClampNeg = i := nI_clamp (by omega)
      have hd : (nI s).toNatClampNeg = s := nI_clamp (by omega)
      have he : (nI (2 * i + s)).toNatClampNeg = 2 * i + s := nI_clamp (by omega)
      have hg : ∀ F : gR, gI (nI i) 12 F = F := fun F => gI_nI (by omega) (by omega)
      have hh : ∀ F : gR, gI (nI s) 2 F = F := fun F => gI_nI (by omega) (by omega)
      have hk : ∀ F : gR, gI (nI (2 * i + s)) 24 F = F := fun F => gI_nI (by omega) (by omega)
      have hm : i * 2 + s = 2 * i + s := by omega
      have e9 : ∀ M' : gM, M' 9 48 = nI nx → f_X9_object M' (nI i) (nI s) = (if M' 145 (2 * i + s) = 0 then f_X9_object_b50 M' (nI i) (nI s) 0 else f_X9_object_b50 M' (nI i) (nI s) 2) := by
        intro M' h48
        simp only [f_X9_object, c9_Exhibit h48 hi (show nx ≤ 12 by omega), rb_ret, if_neg i10, w9_Side hs, f_X9_object_b22, ix2, hk, he]
      have e145 := I.2.2.2.2.2.2.2.1.2.2.1
      by_cases hz : M 86 (2 * i + s) = 0
      · refine agV_ok (M1 := gset M 86 (2 * i + s) 1) (M2 := gset (gset (gset M 86 (2 * i + s) 1) 9 0 0) 145 (2 * i + s) 1) ?_ ?_ rfl ?_
        · simp only [f_L_object, f_X8_object, c8_Exhibit a7 hi (show nx ≤ 12 by omega), rb_ret, c8_Side hs, hg, hh, hc, hd, hm, hz, if_true, bM, rc_ret]
        · refine Eq.trans (e9 _ ?_) ?_
          · exact b7
          show (if M 145 (2 * i + s) = 0 then _ else _) = _
          rw [e145, if_pos hz]
          simp only [f_X9_object_b50, rf_0, rb_ret, if_true, ix2, hk, he, bM]
        · obtain ⟨h1, h2, h3, h4, h5, h6, h7, ⟨x1, x2, x3, x4, x5⟩, h9, h10, h11, h12, h13, h14⟩ := I
          refine ⟨t, nh, nc, nk, ne, nr, nx, ns, h1.up, h2, h3, h4, h5, h6, h7, ⟨x1, x2, ?_, x4, fun j => ?_⟩, h9, h10, h11, h12, h13.up, h14⟩
          · show upd (M 145) (2 * i + s) 1 = upd (M 86) (2 * i + s) 1
            rw [x3]
          · show isIx 4 (upd (M 86) (2 * i + s) 1 j)
            rw [upd_at]
            by_cases e : j = 2 * i + s
            · rw [if_pos e]
              exact ⟨1, by omega, by decide⟩
            · rw [if_neg e]
              exact x5 j
      · refine agV_no (k := 2) ?_ ?_ (inv_no I)
        · simp only [f_L_object, f_X8_object, c8_Exhibit a7 hi (show nx ≤ 12 by omega), rb_ret, c8_Side hs, hg, hh, hc, hd, hm, if_neg hz, rc_thr]
          rfl
        · rw [e9 _ b7, e145, if_neg hz]
          rfl
    · refine agV_no (k := 1) ?_ ?_ (inv_no I)
      · simp only [f_L_object, f_X8_object, c8_Exhibit a7 hi (show nx ≤ 12 by omega), rb_ret, n8_Side hb, rb_thr, rc_thr]
        rfl
      · simp only [f_X9_object, c9_Exhibit b7 hi (show nx ≤ 12 by omega), rb_ret, if_neg i10, v9_Side hb]
        rfl
  · refine agV_no (k := 1) ?_ ?_ (inv_no I)
    · simp only [f_L_object, f_X8_object, n8_Exhibit a7 hb, rb_thr, rc_thr]
      rfl
    · simp only [f_X9_object, n9_Exhibit b7 (show nx ≤ 12 by omega) hb, rb_ret]
      rfl
theorem st_sustain : St_sustain Inv := by
  intro n M a b c0 hn hI
  obtain ⟨t, nh, nc, nk, ne, nr, nx, ns, I⟩ := hI
  obtain ⟨⟨a1, a2, a3, a4, a5, a6, a7, a8⟩, ⟨b1, b2, b3, b4, b5, b6, b7⟩, l1, l2, l3, l4, l5, l6, l7, l8⟩ := I.1
  generalize gb c0 = c
  rcases idx_cases a nx (by omega) with ⟨i, hi, rfl⟩ | hb
  · rcases idx_cases b 2 (by omega) with ⟨s, hs, rfl⟩ | hb
    · have hc : (nI i).toNatClampNeg = i := nI_clamp (by omega)
      have hd : (nI s).toNatClampNeg = s := nI_clamp (by omega)
      have he : (nI (2 * i + s)).toNatClampNeg = 2 * i + s := nI_clamp (by omega)
      have hg : ∀ F : gR, gI (nI i) 12 F = F := fun F => gI_nI (by omega) (by omega)
      have hh : ∀ F : gR, gI (nI s) 2 F = F := fun F => gI_nI (by omega) (by omega)
      have hk : ∀ F : gR, gI (nI (2 * i + s)) 24 F = F := fun F => gI_nI (by omega) (by omega)
      have hm : i * 2 + s = 2 * i + s := by omega
      have e9 : ∀ M' : gM, M' 9 48 = nI nx → f_X9_sustain M' (nI i) (nI s) c = (if M' 145 (2 * i + s) = 1 then f_X9_sustain_b53 M' (nI i) (nI s) c 0 else f_X9_sustain_b53 M' (nI i) (nI s) c 2) := by
        intro M' h48
        simp only [f_X9_sustain, c9_Exhibit h48 hi (show nx ≤ 12 by omega), rb_ret, if_neg i10, w9_Side hs, f_X9_sustain_b22, ix2, hk, he]
      have e145 := I.2.2.2.2.2.2.2.1.2.2.1
      by_cases hz : M 86 (2 * i + s) = 1
      · obtain ⟨v, hv, hvc⟩ : ∃ v : Int32, isIx 4 v ∧ (if c = 0 then (3 : Int32) else 2) = v := by
          refine ⟨_, ?_, rfl⟩
          by_cases h : c = 0
          · rw [if_pos h]; exact ⟨3, by omega, by decide⟩
          · rw [if_neg h]; exact ⟨2, by omega, by decide⟩
        refine agV_ok (M1 := gset M 86 (2 * i + s) v) (M2 := gset (gset (gset M 86 (2 * i + s) v) 9 0 0) 145 (2 * i + s) v) ?_ ?_ rfl ?_
        · by_cases h : c = 0
          · rw [if_pos h] at hvc
            subst hvc
            simp only [f_L_sustain, f_X8_sustain, c8_Exhibit a7 hi (show nx ≤ 12 by omega), rb_ret, c8_Side hs, hg, hh, hc, hd, hm, hz, if_true, bM, rc_ret, if_pos h]
          · rw [if_neg h] at hvc
            subst hvc
            simp only [f_L_sustain, f_X8_sustain, c8_Exhibit a7 hi (show nx ≤ 12 by omega), rb_ret, c8_Side hs, hg, hh, hc, hd, hm, hz, if_true, bM, rc_ret, if_neg h]
        · refine Eq.trans (e9 _ ?_) ?_
          · exact b7
          show (if M 145 (2 * i + s) = 1 then _ else _) = _
          rw [e145, if_pos hz]
          by_cases h : c = 0
          · rw [if_pos h] at hvc
            subst hvc
            simp only [f_X9_sustain_b53, rf_0, rb_ret, if_true, ix2, hk, he, bM, if_pos h]
          · rw [if_neg h] at hvc
            subst hvc
            simp only [f_X9_sustain_b53, rf_0, rb_ret, if_true, ix2, hk, he, bM, if_neg h]
        · obtain ⟨h1, h2, h3, h4, h5, h6, h7, ⟨x1, x2, x3, x4, x5⟩, h9, h10, h11, h12, h13, h14⟩ := I
          refine ⟨t, nh, nc, nk, ne, nr, nx, ns, h1.up, h2, h3, h4, h5, h6, h7, ⟨x1, x2, ?_, x4, fun j => ?_⟩, h9, h10, h11, h12, h13.up, h14⟩
          · show upd (M 145) (2 * i + s) v = upd (M 86) (2 * i + s) v
            rw [x3]
          · show isIx 4 (upd (M 86) (2 * i + s) v j)
            rw [upd_at]
            by_cases e : j = 2 * i + s
            · rw [if_pos e]
              exact hv
            · rw [if_neg e]
              exact x5 j
      · refine agV_no (k := 2) ?_ ?_ (inv_no I)
        · simp only [f_L_sustain, f_X8_sustain, c8_Exhibit a7 hi (show nx ≤ 12 by omega), rb_ret, c8_Side hs, hg, hh, hc, hd, hm, if_neg hz, rc_thr]
          rfl
        · rw [e9 _ b7, e145, if_neg hz]
          rfl
    · refine agV_no (k := 1) ?_ ?_ (inv_no I)
      · simp only [f_L_sustain, f_X8_sustain, c8_Exhibit a7 hi (show nx ≤ 12 by omega), rb_ret, n8_Side hb, rb_thr, rc_thr]
        rfl
      · simp only [f_X9_sustain, c9_Exhibit b7 hi (show nx ≤ 12 by omega), rb_ret, if_neg i10, v9_Side hb]
        rfl
  · refine agV_no (k := 1) ?_ ?_ (inv_no I)
    · simp only [f_L_sustain, f_X8_sustain, n8_Exhibit a7 hb, rb_thr, rc_thr]
      rfl
    · simp only [f_X9_sustain, n9_Exhibit b7 (show nx ≤ 12 by omega) hb, rb_ret]
      rfl
