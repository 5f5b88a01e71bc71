theorem e_fr8 {t nh nc nk ne nr nx ns n : Nat} {M : gM} (I : InvP t nh nc nk ne nr nx ns n M) {d : Nat} (hd : d ≤ 1400) : f_X0_isFree M (nI d) = rRet (if FBv M d then 1 else 0) M := by
  have k := e_free8 (M := M) hd (I.2.1.2.2.2 d hd)
  by_cases q : free (M 102) d
  · rw [FBv_t q]; exact k.1 q
  · rw [FBv_f q]; exact k.2 q
theorem e_fr9 {t nh nc nk ne nr nx ns n : Nat} {M' M : gM} (I : InvP t nh nc nk ne nr nx ns n M) (R : Rf M' M) {d : Nat} (hd : d ≤ 1400) : f_X9_isFree M' (nI d) = rRet (if FBv M d then 1 else 0) M' := by
  have k := e_free9 (M := M') (d := d) (by omega) (by rw [R.2 102 (by omega)]; exact I.2.1.1)
  rw [R.2 102 (by omega)] at k
  by_cases q : free (M 102) d
  · rw [FBv_t q]; exact k.1 q
  · rw [FBv_f q]; exact k.2 q
theorem n9_hea {M : gM} {a b c w : Int32} (h : w = 1 ∨ w = 2 ∨ w = 3) : f_X9_hearing_b98 M a b c w = rRet 0 (gset M 9 0 w) := by
  unfold f_X9_hearing_b98
  rcases h with h | h | h
  · rw [h, rf_1, rb_ret, if_neg i10]
  · rw [h, rf_2, rb_ret, if_neg i10]
  · rw [h, rf_3, rb_ret, if_neg i10]
theorem st_hearing : St_hearing Inv := by
  intro n M a b c' hn hI
  obtain ⟨t, nh, nc, nk, ne, nr, nx, ns, I⟩ := hI
  obtain ⟨⟨a1, a2, a3, a4, a5, a6, a7, a8⟩, ⟨b1, b2, b3, b4, b5, b6, b7⟩, l1, l2, l3, l4, l5, l6, l7, l8⟩ := I.1
  obtain ⟨⟨e137, e138, e139⟩, hr⟩ := I.2.2.2.2.2.2.1
  have i3 : (3 : Int32) = nI 4 - 1 := by decide
  have i4 : (4 : Int32) = nI 4 := by decide
  have n21 : ∀ M', f_X9_hearing_b21 M' a b c' = rRet 0 (gset M' 9 0 1) := by
    intro M'
    unfold f_X9_hearing_b21 f_X9_hearing_b22 f_X9_hearing_b43 f_X9_hearing_b44
    rw [if_pos rfl, if_pos rfl, n9_hea (Or.inl rfl), ite_self, ite_self]
  rcases idx_cases a nc (by omega) with ⟨c, hc, rfl⟩ | hb
  · rcases idx_cases c' 4 (by omega) with ⟨s, hs, rfl⟩ | hb
    · have w9 : ∀ M', f_X9_within M' (nI s) 0 3 = rRet 1 M' := by
        intro M'
        rw [i3]
        exact wit_ok hs (by omega)
      have fair : ¬ b ≤ nI t ∧ b ≤ 990 → ∃ d, t < d ∧ d ≤ 990 ∧ b = nI d := by
        rintro ⟨h1, h2⟩
        have h0 : ¬ b < 0 := fun q => h1 (Int32.le_of_lt (Int32.lt_of_lt_of_le q (nI_pos' (by omega))))
        obtain ⟨d, d1, rfl⟩ := nI_of h0
        refine ⟨d, ?_, ?_, rfl⟩
        · rcases Nat.lt_or_ge t d with q | q
          · exact q
          · exact absurd (nI_le q (by omega)) h1
        · rw [show (990 : Int32) = nI 990 from by decide] at h2
          exact (nI_leI d1 (by omega)).mp h2
      by_cases fa : ¬ b ≤ nI t ∧ b ≤ 990
      · obtain ⟨d, d1, d2, rfl⟩ := fair fa
        have k8 : f_X8_hearing M (nI c) (nI d) (nI s) = if FBv M d = false ∧ nr < 40 ∧ mtB M nr (-1) c (nI d) (nI s) = false then rb (f_X5_add M (nI c) (nI d) (nI s)) (fun x8 M7 => rRet x8 M7) else rThr 2 M := by
          unfold f_X8_hearing
          rw [c8_Case a3 hc (by omega), rb_ret, if_neg (nI_pos (by omega)), i4, if_pos (nI_lt hs (by omega)), a1, if_neg fa.1, if_pos fa.2, e_fr8 I (by omega), rb_ret, a6, show (40 : Int32) = nI 40 from by decide, e_mt8 I hc, rb_ret]
          cases q1 : FBv M d with
          | true => simp
          | false =>
            by_cases q2 : nr < 40
            · rw [if_neg (nI_ge q2 (by omega))]
              cases q3 : mtB M nr (-1) c (nI d) (nI s) with
              | true => simp
              | false => simp [q2]
            · rw [if_pos (nI_le (by omega) (by omega))]
              simp [q2]
        have k9 : ∀ M', Rf M' M → f_X9_hearing M' (nI c) (nI d) (nI s) = if FBv M d = false ∧ nr < 40 ∧ mtB M nr (-1) c (nI d) (nI s) = false then f_X9_hearing_b98 M' (nI c) (nI d) (nI s) 0 else rRet 0 (gset M' 9 0 3) := by
          intro M' R
          unfold f_X9_hearing
          rw [c9_Case ((R.1 6 (by omega)).trans b3) hc (by omega), rb_ret, if_neg i10, w9, rb_ret, if_neg i10]
          unfold f_X9_hearing_b22
          rw [R.1 1 (by omega), b1, if_neg fa.1, if_neg (Int32.not_lt.mpr fa.2)]
          unfold f_X9_hearing_b44 f_X9_hearing_b93
          rw [if_neg i10, if_neg i10, e_fr9 I R (by omega), rb_ret, R.1 41 (by omega), b6, e_mt9 I R hc, rb_ret, n9_hea (Or.inr (Or.inr rfl))]
          have e40 := nI_eq (a := nr) (b := 40) (by omega) (by omega)
          rw [show nI 40 = (40 : Int32) from by decide] at e40
          cases q1 : FBv M d with
          | true => simp
          | false =>
            by_cases q2 : nr < 40
            · rw [if_neg (c := nI nr = 40) (fun h => by have := e40.mp h; omega)]
              cases q3 : mtB M nr (-1) c (nI d) (nI s) with
              | true => simp
              | false => simp [q2]
            · rw [if_pos (c := nI nr = 40) (e40.mpr (by omega))]
              simp [q2]
        by_cases ok : FBv M d = false ∧ nr < 40 ∧ mtB M nr (-1) c (nI d) (nI s) = false
        · have h40 := ok.2.1
          have hg : ∀ F : gR, gI (nI nr) 40 F = F := fun F => gI_nI h40 (by omega)
          have hcr : (nI nr).toNatClampNeg = nr := nI_clamp (by omega)
          refine agI_ok (v := nI nr) (M1 := gset (gset (gset (gset M 69 nr (nI c)) 70 nr (nI d)) 71 nr (nI s)) 5 0 (nI (nr + 1))) (M2 := gset (gset (gset (gset (gset (gset (gset (gset (gset (gset M 69 nr (nI c)) 70 nr (nI d)) 71 nr (nI s)) 5 0 (nI (nr + 1))) 10 0 (nI nr)) 9 0 0) 137 nr (nI c)) 138 nr (nI d)) 139 nr (nI s)) 9 41 (nI (nr + 1))) ?_ ?_ rfl rfl ?_
          · have : f_X5_add M (nI c) (nI d) (nI s) = rRet (nI nr) (gset (gset (gset (gset M 69 nr (nI c)) 70 nr (nI d)) 71 nr (nI s)) 5 0 (nI (nr + 1))) := by
              unfold f_X5_add
              rw [a6]
              simp only [bV, bM]
              rw [hg, hg, hg, hcr]
              show rRet (nI nr) (gset _ 5 0 (M 5 0 + 1)) = _
              rw [a6, nI_1]
            unfold f_L_hearing
            rw [k8, if_pos ok, this, rb_ret, rc_ret]
          · have R : Rf (gset (gset (gset (gset (gset M 69 nr (nI c)) 70 nr (nI d)) 71 nr (nI s)) 5 0 (nI (nr + 1))) 10 0 (nI nr)) M := (((((Rf.rfl M).s (by omega) (by omega) _ _).s (by omega) (by omega) _ _).s (by omega) (by omega) _ _).s (by omega) (by omega) _ _).o _
            show f_X9_hearing _ (nI c) (nI d) (nI s) = _
            rw [k9 _ R, if_pos ok]
            unfold f_X9_hearing_b98
            rw [rf_0, rb_ret, if_pos rfl]
            show gI (M 9 41) 40 (bM (gset _ 137 (M 9 41).toNatClampNeg (nI c)) _) = _
            rw [b6, hg, hcr]
            simp only [bM]
            show gI (M 9 41) 40 (gI (M 9 41) 40 (rRet (upd (upd (M 9) 0 0) 41 (M 9 41 + 1) 41 - 1) (gset (gset (gset _ 138 (M 9 41).toNatClampNeg (nI d)) 139 (M 9 41).toNatClampNeg (nI s)) 9 41 (M 9 41 + 1)))) = _
            rw [b6, hg, hg, hcr, nI_1, upd_eq, nI_pred]
          · obtain ⟨g1, g2, g3, g4, g5, g6, g7, g8, g9, g10, g11, g12, g13, g14⟩ := I
            refine ⟨t, nh, nc, nk, ne, nr + 1, nx, ns, ⟨⟨a1, a2, a3, a4, a5, rfl, a7, a8⟩, ⟨b1, b2, b3, b4, b5, rfl, b7⟩, l1, l2, l3, l4, l5, h40, l7, (Nat.le_succ_of_le l8)⟩, g2, g3, g4, g5, g6, ⟨⟨?_, ?_, ?_⟩, fun r hr1 => ?_⟩, g8, g9, g10, g11, g12, g13.up, g14⟩
            · show upd (M 137) nr (nI c) = upd (M 69) nr (nI c)
              rw [e137]
            · show upd (M 138) nr (nI d) = upd (M 70) nr (nI d)
              rw [e138]
            · show upd (M 139) nr (nI s) = upd (M 71) nr (nI s)
              rw [e139]
            · show isIx nc (upd (M 69) nr (nI c) r) ∧ isIx 1001 (upd (M 70) nr (nI d) r) ∧ isIx 4 (upd (M 71) nr (nI s) r)
              rcases lt_sx hr1 with h | h
              · rw [upd_lt h, upd_lt h, upd_lt h]
                exact hr r h
              · rw [h, upd_eq, upd_eq, upd_eq]
                exact ⟨⟨c, hc, rfl⟩, ⟨d, by omega, rfl⟩, ⟨s, hs, rfl⟩⟩
        · refine agI_no (k := 3) ?_ (by decide) (b := 0) ?_ (inv_no I)
          · unfold f_L_hearing
            rw [k8, if_neg ok, rc_thr]
            rfl
          · show f_X9_hearing M (nI c) (nI d) (nI s) = _
            rw [k9 M (Rf.rfl M), if_neg ok]
      · refine agI_no (k := 2) ?_ (by decide) (b := 0) ?_ (inv_no I)
        · have : f_X8_hearing M (nI c) b (nI s) = rThr 1 M := by
            unfold f_X8_hearing
            rw [c8_Case a3 hc (by omega), rb_ret, if_neg (nI_pos (by omega)), i4, if_pos (nI_lt hs (by omega)), a1]
            by_cases q1 : b ≤ nI t
            · rw [if_pos q1]
            · rw [if_neg q1, if_neg (fun q2 => fa ⟨q1, q2⟩)]
          unfold f_L_hearing
          rw [this, rc_thr]
          rfl
        · show f_X9_hearing M (nI c) b (nI s) = _
          unfold f_X9_hearing
          rw [c9_Case b3 hc (by omega), rb_ret, if_neg i10, w9, rb_ret, if_neg i10]
          have n43 : f_X9_hearing_b43 M (nI c) b (nI s) 1 = rRet 0 (gset M 9 0 2) := by
            unfold f_X9_hearing_b43 f_X9_hearing_b44
            rw [if_neg i10, if_pos rfl, n9_hea (Or.inr (Or.inl rfl))]
          unfold f_X9_hearing_b22
          rw [b1, n43]
          by_cases q1 : b ≤ nI t
          · rw [if_pos q1]
          · rw [if_neg q1, if_pos (Int32.not_le.mp (fun q2 => fa ⟨q1, q2⟩))]
    · refine agI_no (k := 1) ?_ (by decide) (b := 0) ?_ (inv_no I)
      · have : f_X8_hearing M (nI c) b c' = rThr 0 M := by
          unfold f_X8_hearing
          rw [c8_Case a3 hc (by omega), rb_ret]
          rcases hb with h | ⟨h, h2⟩
          · rw [if_pos h]
          · rw [if_neg h, i4, if_neg h2]
        unfold f_L_hearing
        rw [this, rc_thr]
        rfl
      · show f_X9_hearing M (nI c) b c' = _
        have : f_X9_within M c' 0 3 = rRet 0 M := by
          rw [i3]
          exact wit_no (by omega) hb
        unfold f_X9_hearing
        rw [c9_Case b3 hc (by omega), rb_ret, if_neg i10, this, rb_ret, if_pos rfl]
        exact n21 M
  · refine agI_no (k := 1) ?_ (by decide) (b := 0) ?_ (inv_no I)
    · unfold f_L_hearing f_X8_hearing
      rw [n8_Case a3 hb, rb_thr, rc_thr]
      rfl
    · unfold f_X9_hearing
      rw [n9_Case b3 (by omega) hb, rb_ret, if_pos rfl]
      exact n21 M
