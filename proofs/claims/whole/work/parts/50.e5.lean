theorem bad_no {i n : Nat} (h : i < n) (hn : n < 2 ^ 31) : ¬ bad (nI i) n := by
  intro q
  rcases q with q | ⟨-, q⟩
  · exact nI_pos (by omega) q
  · exact q (nI_lt h hn)
theorem st_hand : St_hand Inv := by
  intro n M a b c hn hI
  obtain ⟨t, nh, nc, nk, ne, nr, nx, ns, I⟩ := hI
  obtain ⟨⟨a1, a2, a3, a4, a5, a6, a7, a8⟩, ⟨b1, b2, b3, b4, b5, b6, b7⟩, l1, l2, l3, l4, l5, l6, l7, l8⟩ := I.1
  rcases idx_cases a nx (by omega) with ⟨i, hi, rfl⟩ | hb
  · rcases idx_cases b 16 (by omega) with ⟨p, hp, rfl⟩ | hb
    · rcases idx_cases c 16 (by omega) with ⟨q, hq, rfl⟩ | hb
      · have hc : (nI i).toNatClampNeg = i := nI_clamp (by omega)
        have hg : ∀ F : gR, gI (nI i) 12 F = F := fun F => gI_nI (by omega) (by omega)
        obtain ⟨h1, h2, h3, h4, h5, h6, h7, ⟨x1, x2, x3, x4, x5⟩, h9, h10, h11, h12, h13, h14⟩ := I
        have hz1 : ∀ F : gR, gZ01 1 F = F := fun F => z01_eq (Or.inr rfl)
        have hz0 : ∀ F : gR, gZ01 0 F = F := fun F => z01_eq (Or.inl rfl)
        have e9 : ∀ M' : gM, M' 9 48 = nI nx → f_X9_hand M' (nI i) (nI p) (nI q) = f_X9_hand_b28 M' (nI i) (nI p) (nI q) 0 := by
          intro M' h48
          unfold f_X9_hand
          rw [c9_Exhibit h48 hi (by omega), rb_ret, if_neg i10, c9_Person hp, rb_ret, if_neg i10, c9_Person hq, rb_ret, if_neg i10]
        have e8 : f_X8_hand M (nI i) (nI p) (nI q) = (if M 84 i = nI p then f_X8_hand_b38 M (nI i) (nI q) else f_X8_hand_b38 (gset M 85 i 1) (nI i) (nI q)) := by
          unfold f_X8_hand
          rw [c8_Exhibit a7 hi (by omega), rb_ret, c8_Person hp, rb_ret, c8_Person hq, rb_ret, hg, hc, hz1, hg]
          rfl
        by_cases hf : M 84 i = nI p
        · rcases x4 i with z | z
          · refine agB_ok (v := 1) (M1 := gset M 84 i (nI q)) (M2 := gset (gset (gset (gset (gset M 84 i (nI q)) 10 0 1) 9 0 0) 144 i 0) 143 i (nI q)) ?_ ?_ rfl rfl ?_
            · unfold f_L_hand
              rw [e8, if_pos hf]
              unfold f_X8_hand_b38
              rw [hg, hc]
              show rc (gI _ _ (if M 85 i = 0 then _ else _)) _ _ = _
              rw [hg, z, if_pos rfl, rc_ret]
              rfl
            · refine Eq.trans (e9 _ ?_) ?_
              · exact b7
              unfold f_X9_hand_b28
              rw [rf_0, rb_ret, if_pos rfl, hg, hc]
              show (if M 144 i = 0 then gI _ _ (if M 143 i = nI p then _ else _) else _) = _
              rw [x2, x1, z, if_pos rfl, hg, if_pos hf]
              unfold f_X9_hand_b65
              rw [hz0, hg, hc]
              show gI _ _ (bM _ _) = _
              rw [hg]
              show gI _ _ (if upd (M 144) i 0 i = 0 then _ else _) = _
              rw [hg, upd_at, if_pos rfl, if_pos rfl]
              rfl
            · refine ⟨t, nh, nc, nk, ne, nr, nx, ns, h1.up, h2, h3, h4, h5, h6, h7, ⟨?_, ?_, x3, x4, x5⟩, h9, h10, h11, h12, h13.up, h14⟩
              · show upd (M 143) i (nI q) = upd (M 84) i (nI q)
                rw [x1]
              · show upd (M 144) i 0 = M 85
                rw [x2, ← z, upd_id]
          · refine agB_ok (v := 0) (M1 := gset M 84 i (nI q)) (M2 := gset (gset (gset (gset (gset M 84 i (nI q)) 10 0 0) 9 0 0) 144 i 1) 143 i (nI q)) ?_ ?_ rfl rfl ?_
            · unfold f_L_hand
              rw [e8, if_pos hf]
              unfold f_X8_hand_b38
              rw [hg, hc]
              show rc (gI _ _ (if M 85 i = 0 then _ else _)) _ _ = _
              rw [hg, z, if_neg i10, rc_ret]
              rfl
            · refine Eq.trans (e9 _ ?_) ?_
              · exact b7
              unfold f_X9_hand_b28
              rw [rf_0, rb_ret, if_pos rfl, hg, hc]
              show (if M 144 i = 0 then gI _ _ (if M 143 i = nI p then _ else _) else _) = _
              rw [x2, z, if_neg i10]
              unfold f_X9_hand_b60 f_X9_hand_b65
              rw [hz1, hg, hc]
              show gI _ _ (bM _ _) = _
              rw [hg]
              show gI _ _ (if upd (M 144) i 1 i = 0 then _ else _) = _
              rw [hg, upd_at, if_pos rfl, if_neg i10]
              rfl
            · refine ⟨t, nh, nc, nk, ne, nr, nx, ns, h1.up, h2, h3, h4, h5, h6, h7, ⟨?_, ?_, x3, x4, x5⟩, h9, h10, h11, h12, h13.up, h14⟩
              · show upd (M 143) i (nI q) = upd (M 84) i (nI q)
                rw [x1]
              · show upd (M 144) i 1 = M 85
                rw [x2, ← z, upd_id]
        · refine agB_ok (v := 0) (M1 := gset (gset M 85 i 1) 84 i (nI q)) (M2 := gset (gset (gset (gset (gset (gset M 85 i 1) 84 i (nI q)) 10 0 0) 9 0 0) 144 i 1) 143 i (nI q)) ?_ ?_ rfl rfl ?_
          · unfold f_L_hand
            rw [e8, if_neg hf]
            unfold f_X8_hand_b38
            rw [hg, hc]
            show rc (gI _ _ (if upd (M 85) i 1 i = 0 then _ else _)) _ _ = _
            rw [hg, upd_at, if_pos rfl, if_neg i10, rc_ret]
            rfl
          · refine Eq.trans (e9 _ ?_) ?_
            · exact b7
            unfold f_X9_hand_b28
            rw [rf_0, rb_ret, if_pos rfl, hg, hc]
            show (if M 144 i = 0 then gI _ _ (if M 143 i = nI p then _ else _) else _) = _
            rw [x1, hg, if_neg hf]
            have e60 : ∀ M' : gM, f_X9_hand_b60 M' (nI i) (nI q) (nI i) = rRet 0 (gset (gset M' 144 i 1) 143 i (nI q)) := by
              intro M'
              unfold f_X9_hand_b60 f_X9_hand_b65
              rw [hz1, hg, hc]
              show gI _ _ (bM _ _) = _
              rw [hg]
              show gI _ _ (if upd (M' 144) i 1 i = 0 then _ else _) = _
              rw [hg, upd_at, if_pos rfl, if_neg i10]
            rw [e60]
            by_cases z : M 144 i = 0
            · rw [if_pos z]
              rfl
            · rw [if_neg z]
              rfl
          · refine ⟨t, nh, nc, nk, ne, nr, nx, ns, h1.up, h2, h3, h4, h5, h6, h7, ⟨?_, ?_, x3, fun x => ?_, x5⟩, h9, h10, h11, h12, h13.up, h14⟩
            · show upd (M 143) i (nI q) = upd (M 84) i (nI q)
              rw [x1]
            · show upd (M 144) i 1 = upd (M 85) i 1
              rw [x2]
            · show z01 (upd (M 85) i 1 x)
              rw [upd_at]
              by_cases e : x = i
              · rw [if_pos e]
                exact Or.inr rfl
              · rw [if_neg e]
                exact x4 x
      · refine agB_no (k := 1) ?_ (by decide) (b := 0) ?_ (inv_no I)
        · simp only [f_L_hand, f_X8_hand, c8_Exhibit a7 hi (show nx ≤ 12 by omega), rb_ret, c8_Person hp, n8_Person hb, rb_thr, rc_thr]
          rfl
        · simp only [f_X9_hand, c9_Exhibit b7 hi (show nx ≤ 12 by omega), rb_ret, if_neg i10, c9_Person hp, n9_Person hb]
          rfl
    · refine agB_no (k := 1) ?_ (by decide) (b := 0) ?_ (inv_no I)
      · simp only [f_L_hand, f_X8_hand, c8_Exhibit a7 hi (show nx ≤ 12 by omega), rb_ret, n8_Person hb, rb_thr, rc_thr]
        rfl
      · simp only [f_X9_hand, c9_Exhibit b7 hi (show nx ≤ 12 by omega), rb_ret, if_neg i10, n9_Person hb]
        rfl
  · refine agB_no (k := 1) ?_ (by decide) (b := 0) ?_ (inv_no I)
    · simp only [f_L_hand, f_X8_hand, n8_Exhibit a7 hb, rb_thr, rc_thr]
      rfl
    · simp only [f_X9_hand, n9_Exhibit b7 (show nx ≤ 12 by omega) hb, rb_ret]
      rfl
