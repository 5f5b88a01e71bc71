theorem l9_due {M1 : gM} {s a v : Int32} (h1 : f_X9_isOfSort M1 s a = rRet 1 M1) (h2 : f_X9_dueOf (gset M1 9 0 0) s a = rRet v (gset M1 9 0 0)) : f_X9_due M1 s a = rRet v (gset M1 9 0 0) := by
  unfold f_X9_due
  rw [h1, rb_ret, if_neg i10]
  unfold f_X9_due_b15
  rw [rf_0, rb_ret, if_pos rfl, h2, rb_ret]
theorem n9_due {M1 : gM} {s a : Int32} (h1 : f_X9_isOfSort M1 s a = rRet 0 M1) : f_X9_due M1 s a = rRet 0 (gset M1 9 0 1) := by
  unfold f_X9_due
  rw [h1, rb_ret, if_pos rfl]
  unfold f_X9_due_b15
  rw [rf_1, rb_ret, if_neg i10]
theorem st_due : St_due Inv := by
  intro n M s a hn hI
  obtain ⟨t, nh, nc, nk, ne, nr, nx, ns, I⟩ := hI
  obtain ⟨⟨a1, a2, a3, a4, a5, a6, a7, a8⟩, ⟨b1, b2, b3, b4, b5, b6, b7⟩, l1, l2, l3, l4, l5, l6, l7, l8⟩ := I.1
  rcases due_all I (by omega) s a with ⟨h1, h2⟩ | ⟨st, v, h1, h2, h3, h4, h5, h6⟩
  · refine agI_no (k := 1) ?_ (by decide) (n9_due (h2 M (Rf.rfl M))) (inv_no I)
    unfold f_L_due f_X8_due
    rw [h1, rb_thr, rc_thr]
    rfl
  · refine agI_ok (v := v) (M1 := M) (M2 := gset (gset M 10 0 v) 9 0 0) ?_ (l9_due (h3 _ ((Rf.rfl M).o v)) (h4 _ (((Rf.rfl M).o v).r 0))) rfl rfl (inv_rd I)
    have k : f_X8_due M s a = rRet v M := by
      unfold f_X8_due
      rw [h1, rb_ret, h2, rb_ret]
      rcases h5 with ⟨rfl, rfl⟩ | ⟨e, e1, rfl, ⟨e2, e3, rfl⟩ | ⟨e2, e3, rfl⟩⟩
      · rw [if_pos rfl]
      · rw [if_neg (m1_ne (by omega)), if_neg e2, e_due8 I (by omega) e1 e3, rb_ret]
      · rw [if_neg (m1_ne (by omega)), if_pos e2, e_cure8 I e1 e3, rb_ret]
    unfold f_L_due
    rw [k, rc_ret]
theorem st_dueByDays : St_dueByDays Inv := by
  intro n M s a hn hI
  obtain ⟨t, nh, nc, nk, ne, nr, nx, ns, I⟩ := hI
  obtain ⟨⟨a1, a2, a3, a4, a5, a6, a7, a8⟩, ⟨b1, b2, b3, b4, b5, b6, b7⟩, l1, l2, l3, l4, l5, l6, l7, l8⟩ := I.1
  rcases due_all I (by omega) s a with ⟨h1, h2⟩ | ⟨st, v, h1, h2, h3, h4, h5, h6⟩
  · refine agI_no (k := 1) (b := 0) ?_ (by decide) ?_ (inv_no I)
    · unfold f_L_dueByDays f_X8_dueByDays
      rw [h1, rb_thr, rc_thr]
      rfl
    · unfold f_X9_dueByDays
      rw [n9_due (h2 M (Rf.rfl M)), rb_ret]
  · refine agI_ok (v := v) (M1 := M) (M2 := gset (gset M 10 0 v) 9 0 0) ?_ ?_ rfl rfl (inv_rd I)
    · have k : f_X8_dueByDays M s a = rRet v M := by
        unfold f_X8_dueByDays
        rw [h1, rb_ret, h2, rb_ret]
        rcases h5 with ⟨rfl, rfl⟩ | ⟨e, e1, rfl, e2⟩
        · rw [if_pos rfl]
        · have hg : ∀ F : gR, gI (nI e) 160 F = F := fun F => gI_nI (by omega) (by omega)
          have hc : (nI e).toNatClampNeg = e := nI_clamp (by omega)
          have go : ∀ (k c : Nat) (F : Int32 → Int32 → gR), k < nk → c < nc → M 57 e = nI k → M 47 k = nI c → gI (nI e) 160 (gI (M 57 (nI e).toNatClampNeg) 24 (bV (M 47 (M 57 (nI e).toNatClampNeg).toNatClampNeg) (fun x5 => gI x5 8 (bV (M 26 x5.toNatClampNeg) (fun x6 => F x5 x6))))) = F (nI c) (M 26 c) := by
            intro k c F k1 c1 q1 q2
            rw [hg, hc, q1, gI_nI (show k < 24 by omega) (by omega), nI_clamp (show k < 2 ^ 31 by omega), q2]
            simp only [bV]
            rw [gI_nI (show c < 8 by omega) (by omega), nI_clamp (show c < 2 ^ 31 by omega)]
          rw [if_neg (m1_ne (by omega))]
          rcases e2 with ⟨e2, e3, rfl⟩ | ⟨e2, e3, rfl⟩
          · obtain ⟨k, c, d, k1, c1, d1, e57, e47, e56⟩ := I.ent e1 (kdD_lt e3)
            obtain ⟨⟨x, x1, x2, x3⟩, -⟩ := I.2.2.2.2.2.2.2.2.2.2.2.2.1.1 e e1 e3
            rw [go k c _ k1 c1 e57 e47, if_neg e2, hg, hg, hg, hc, e56, x3, e_byD I l3 l5 l2 c1 (by omega) (by omega), rb_ret]
            unfold duV clC
            rw [e57, nI_clamp (show k < 2 ^ 31 by omega), e47, e56, x3, nI_clamp (show c < 2 ^ 31 by omega), nI_clamp (show d < 2 ^ 31 by omega), nI_clamp (show x < 2 ^ 31 by omega)]
          · rcases (I.2.2.2.2.2.2.2.2.2.2.2.1.2.2.1 e e1).2 with q | ⟨⟨b, b1, b2⟩, b3, x, x1, x2, x3⟩
            · exact absurd q e3
            · obtain ⟨k, c, d, k1, c1, d1, e57, e47, e56⟩ := I.ent e1 (by rcases b3 with h | h | h <;> rw [h] <;> decide)
              rw [go k c _ k1 c1 e57 e47, if_pos e2, hg, hg, hg, hc, b2, x3, e_byD I l3 l5 l2 c1 (by omega) (by omega), rb_ret]
              unfold cuV clC
              rw [e57, nI_clamp (show k < 2 ^ 31 by omega), e47, b2, x3, nI_clamp (show c < 2 ^ 31 by omega), nI_clamp (show b < 2 ^ 31 by omega), nI_clamp (show x < 2 ^ 31 by omega)]
      unfold f_L_dueByDays
      rw [k, rc_ret]
    · unfold f_X9_dueByDays
      rw [l9_due (h3 _ ((Rf.rfl M).o v)) (h4 _ (((Rf.rfl M).o v).r 0)), rb_ret]
theorem st_cure : St_cure Inv := by
  intro n M a hn hI
  obtain ⟨t, nh, nc, nk, ne, nr, nx, ns, I⟩ := hI
  obtain ⟨⟨a1, a2, a3, a4, a5, a6, a7, a8⟩, ⟨b1, b2, b3, b4, b5, b6, b7⟩, l1, l2, l3, l4, l5, l6, l7, l8⟩ := I.1
  rcases idx_cases a ne (by omega) with ⟨i, hi, rfl⟩ | hb
  · have hg : ∀ F : gR, gI (nI i) 160 F = F := fun F => gI_nI (by omega) (by omega)
    have hc : (nI i).toNatClampNeg = i := nI_clamp (by omega)
    obtain ⟨⟨v1, v2, v3⟩, v4, v5, v6⟩ := I.2.2.2.2.2.2.2.2.2.2.2.1
    have h0 : M 132 i = 0 ↔ M 65 i = -1 := by
      rw [(v5 i hi).1]
      rcases (v5 i hi).2 with q | ⟨⟨b, b1, b2⟩, -⟩
      · rw [q]; exact ⟨fun _ => rfl, fun _ => by decide⟩
      · rw [b2, nI_1]
        exact ⟨fun q => absurd q (nI_ne0 (by omega) (by omega)), fun q => absurd q (m1_ne (by omega))⟩
    have no : f_X8_cure M (nI i) = rThr 2 M → f_X9_cure M (nI i) = f_X9_cure_b45 M (nI i) → AgB (f_L_cure M (nI i)) (fun M1 => f_X9_cure M1 (nI i)) (Inv (n + 1)) := by
      intro h8 h9
      refine agB_no (k := 2) ?_ (by decide) (b := 0) ?_ (inv_no I)
      · unfold f_L_cure
        rw [h8, rc_thr]
        rfl
      · refine h9.trans ?_
        unfold f_X9_cure_b45 f_X9_cure_b50
        rw [rf_2, rb_ret, if_neg i10]
    by_cases c1 : M 65 i = -1
    · refine no ?_ ?_
      · unfold f_X8_cure
        rw [c8_Entry a5 hi (by omega), rb_ret, e_hasD (by omega), rb_ret, if_pos c1, if_pos rfl]
      · unfold f_X9_cure
        rw [c9_Entry b5 hi (by omega), rb_ret, if_neg i10, hg, hc, if_pos (h0.mpr c1)]
    · have c1' : ¬ M 132 i = 0 := fun q => c1 (h0.mp q)
      by_cases c2 : M 68 i = 0
      · by_cases c3 : paV t (cuV M ne i) = 0
        · refine agB_ok (v := 1) (M1 := gset M 68 i 1) (M2 := gset (gset (gset (gset M 68 i 1) 10 0 1) 9 0 0) 135 i 1) ?_ ?_ rfl rfl ?_
          · unfold f_L_cure f_X8_cure
            rw [c8_Entry a5 hi (by omega), rb_ret, e_hasD (by omega), rb_ret, if_neg c1, if_neg i10, hg, hc, if_pos c2, e_cure8 I hi c1, rb_ret, e_past8 a1, rb_ret, if_pos c3, z01_eq (Or.inr rfl), hg]
            rfl
          · have R : Rf (gset (gset M 68 i 1) 10 0 (gb 1)) M := ((Rf.rfl M).s (by omega) (by omega) _ _).o _
            unfold f_X9_cure
            rw [c9_Entry (M := gset (gset M 68 i 1) 10 0 (gb 1)) b5 hi (by omega), rb_ret, if_neg i10, hg, hg, hc, R.2 132 (by omega), if_neg c1', R.2 135 (by omega), v3, if_pos c2, e_cure9 I R hi, rb_ret, if_neg c1, e_past9 (M := gset (gset M 68 i 1) 10 0 (gb 1)) b1, rb_ret, if_pos c3]
            unfold f_X9_cure_b50
            rw [rf_0, rb_ret, if_pos rfl, z01_eq (Or.inr rfl), hg, hc]
            rfl
          · obtain ⟨h1, h2, h3, h4, h5, h6, h7, h8, h9, h10, h11, h12, h13, h14⟩ := I
            refine ⟨t, nh, nc, nk, ne, nr, nx, ns, h1.up, h2, h3, h4, h5, h6, h7, h8, h9, h10, h11, ⟨⟨v1, v2, ?_⟩, fun e => ⟨(v4 e).1, ?_⟩, v5, fun e he => ⟨(v6 e he).1, ?_⟩⟩, h13.up, h14⟩
            · show upd (M 135) i 1 = upd (M 68) i 1
              rw [v3]
            · show z01 (upd (M 68) i 1 e)
              rw [upd_at]
              by_cases q : e = i
              · rw [if_pos q]; exact Or.inr rfl
              · rw [if_neg q]; exact (v4 e).2
            · show upd (M 68) i 1 e = 0
              rw [upd_at, if_neg (by omega)]
              exact (v6 e he).2
        · refine no ?_ ?_
          · unfold f_X8_cure
            rw [c8_Entry a5 hi (by omega), rb_ret, e_hasD (by omega), rb_ret, if_neg c1, if_neg i10, hg, hc, if_pos c2, e_cure8 I hi c1, rb_ret, e_past8 a1, rb_ret, if_neg c3]
          · unfold f_X9_cure
            rw [c9_Entry b5 hi (by omega), rb_ret, if_neg i10, hg, hg, hc, if_neg c1', v3, if_pos c2, e_cure9 I (Rf.rfl M) hi, rb_ret, if_neg c1, e_past9 b1, rb_ret, if_neg c3]
      · refine no ?_ ?_
        · unfold f_X8_cure
          rw [c8_Entry a5 hi (by omega), rb_ret, e_hasD (by omega), rb_ret, if_neg c1, if_neg i10, hg, hc, if_neg c2]
        · unfold f_X9_cure
          rw [c9_Entry b5 hi (by omega), rb_ret, if_neg i10, hg, hg, hc, if_neg c1', v3, if_neg c2]
  · refine agB_no (k := 1) ?_ (by decide) (b := 0) ?_ (inv_no I)
    · unfold f_L_cure f_X8_cure
      rw [n8_Entry a5 hb, rb_thr, rc_thr]
      rfl
    · unfold f_X9_cure
      rw [n9_Entry b5 (by omega) hb, rb_ret, if_pos rfl]
      unfold f_X9_cure_b50
      rw [rf_1, rb_ret, if_neg i10]
theorem st_defect : St_defect Inv := by
  intro n M a hn hI
  obtain ⟨t, nh, nc, nk, ne, nr, nx, ns, I⟩ := hI
  obtain ⟨⟨a1, a2, a3, a4, a5, a6, a7, a8⟩, ⟨b1, b2, b3, b4, b5, b6, b7⟩, l1, l2, l3, l4, l5, l6, l7, l8⟩ := I.1
  rcases idx_cases a ne (by omega) with ⟨i, hi, rfl⟩ | hb
  · have hg : ∀ F : gR, gI (nI i) 160 F = F := fun F => gI_nI (by omega) (by omega)
    have hc : (nI i).toNatClampNeg = i := nI_clamp (by omega)
    have h45 : ∀ F : gR, gI 4 5 F = F := fun F => gI_nI (i := 4) (by omega) (by omega)
    have e4 : (4 : Int32).toNatClampNeg = 4 := by decide
    obtain ⟨⟨v1, v2, v3⟩, v4, v5, v6⟩ := I.2.2.2.2.2.2.2.2.2.2.2.1
    have e120 : M 120 = M 55 := I.2.2.2.2.2.2.2.2.2.2.1.1.1
    obtain ⟨kk, d, k13, d2, k55, e56, -⟩ := I.2.2.2.2.2.2.2.2.2.2.1.2.1 i hi
    have h0 : M 132 i = 0 ↔ M 65 i = -1 := by
      rw [(v5 i hi).1]
      rcases (v5 i hi).2 with q | ⟨⟨b, b1, b2⟩, -⟩
      · rw [q]; exact ⟨fun _ => rfl, fun _ => by decide⟩
      · rw [b2, nI_1]
        exact ⟨fun q => absurd q (nI_ne0 (by omega) (by omega)), fun q => absurd q (m1_ne (by omega))⟩
    have no : f_X8_defect M (nI i) = rThr 2 M → f_X9_defect M (nI i) = f_X9_defect_b38 M (nI i) → AgI (f_L_defect M (nI i)) (fun M1 => f_X9_defect M1 (nI i)) (Inv (n + 1)) := by
      intro h8 h9
      refine agI_no (k := 2) ?_ (by decide) (b := 0) ?_ (inv_no I)
      · unfold f_L_defect
        rw [h8, rc_thr]
        rfl
      · refine h9.trans ?_
        unfold f_X9_defect_b38 f_X9_defect_b43
        rw [rf_2, rb_ret, if_neg i10]
    by_cases ck : M 55 i = 1 ∨ M 55 i = 2 ∨ M 55 i = 3
    · have k8 : f_X8_defect M (nI i) = f_X8_defect_b30 M (nI i) := by
        unfold f_X8_defect
        rw [c8_Entry a5 hi (by omega), rb_ret, hg, hc]
        simp only [bV]
        by_cases q1 : M 55 i = 1
        · rw [if_pos q1]
        · rw [if_neg q1]
          by_cases q2 : M 55 i = 2
          · rw [if_pos q2]
          · rw [if_neg q2, if_pos (ck.resolve_left q1 |>.resolve_left q2)]
      have k9 : ∀ M' : gM, M' 9 23 = nI ne → M' 120 = M 55 → f_X9_defect M' (nI i) = if M' 132 i = 0 then f_X9_defect_b43 M' (nI i) 0 else f_X9_defect_b38 M' (nI i) := by
        intro M' q1 q2
        unfold f_X9_defect
        rw [c9_Entry q1 hi (by omega), rb_ret, if_neg i10, hg, hc, q2, wit_eq, rb_ret, hg]
        have : ¬ ((if M 55 i < 1 then (0 : Int32) else if 3 < M 55 i then 0 else 1) = 0) := by
          rcases ck with q | q | q <;> rw [q] <;> decide
        rw [if_neg this]
      by_cases c1 : M 65 i = -1
      · obtain ⟨-, -, gr⟩ := I.2.2.1
        obtain ⟨⟨x, x1, x2, x3⟩, xz⟩ := gr 4 (by omega)
        have g1 : M 103 = M 13 := I.2.2.1.1
        have g2 : M 104 = M 14 := I.2.2.1.2.1
        -- the memory behind, out and refusal aside
        have I3 : InvP t nh nc nk ne nr nx ns (n + 1) (gset (gset (gset (gset (gset (gset M 65 i (nI t)) 66 i (M 13 4)) 67 i (M 14 4)) 132 i (nI t + 1)) 133 i (M 103 4)) 134 i (M 104 4)) := by
          obtain ⟨h1, h2, h3, h4, h5, h6, h7, h8, h9, h10, h11, h12, h13, h14⟩ := I
          refine ⟨h1.up, h2, h3, h4, h5, h6, h7, h8, h9, h10, h11, ⟨⟨?_, ?_, v3⟩, fun e => ⟨?_, (v4 e).2⟩, fun e he => ?_, fun e he => ⟨?_, (v6 e he).2⟩⟩, h13.up, h14⟩
          · show upd (M 133) i (M 103 4) = upd (M 66) i (M 13 4)
            rw [v1, g1]
          · show upd (M 134) i (M 104 4) = upd (M 67) i (M 14 4)
            rw [v2, g2]
          · show z01 (upd (M 67) i (M 14 4) e)
            rw [upd_at]
            by_cases q : e = i
            · rw [if_pos q]; exact xz
            · rw [if_neg q]; exact (v4 e).1
          · show upd (M 132) i (nI t + 1) e = upd (M 65) i (nI t) e + 1 ∧ (upd (M 65) i (nI t) e = -1 ∨ ((∃ d, d ≤ t ∧ upd (M 65) i (nI t) e = nI d) ∧ (M 55 e = 1 ∨ M 55 e = 2 ∨ M 55 e = 3) ∧ ∃ x, 1 ≤ x ∧ x ≤ 60 ∧ upd (M 66) i (M 13 4) e = nI x))
            rw [upd_at, upd_at, upd_at]
            by_cases q : e = i
            · rw [if_pos q, if_pos q, if_pos q]
              exact ⟨rfl, Or.inr ⟨⟨t, by omega, rfl⟩, q ▸ ck, x, x1, x2, x3⟩⟩
            · rw [if_neg q, if_neg q, if_neg q]
              exact v5 e he
          · show upd (M 132) i (nI t + 1) e = 0
            rw [upd_at, if_neg (by omega)]
            exact (v6 e he).1
        generalize hX : gset (gset (gset (gset (gset (gset M 65 i (nI t)) 66 i (M 13 4)) 67 i (M 14 4)) 132 i (nI t + 1)) 133 i (M 103 4)) 134 i (M 104 4) = X at I3
        have hX65 : X 65 i = nI t := by
          rw [← hX]
          show upd (M 65) i (nI t) i = nI t
          rw [upd_at, if_pos rfl]
        have nX : ¬ X 65 i = -1 := by rw [hX65]; exact m1_ne (by omega)
        refine agI_ok (v := cuV X ne i) (M1 := gset (gset (gset M 65 i (nI t)) 66 i (M 13 4)) 67 i (M 14 4)) (M2 := gset (gset (gset (gset (gset (gset (gset (gset M 65 i (nI t)) 66 i (M 13 4)) 67 i (M 14 4)) 10 0 (cuV X ne i)) 9 0 0) 132 i (nI t + 1)) 133 i (M 103 4)) 134 i (M 104 4)) ?_ ?_ rfl rfl ?_
        · have K : Kf (gset (gset (gset M 65 i (nI t)) 66 i (M 13 4)) 67 i (M 14 4)) X := by
            rw [← hX]
            exact (((Kf.rfl _).m (by omega) _ _).m (by omega) _ _).m (by omega) _ _
          unfold f_L_defect
          rw [k8]
          unfold f_X8_defect_b30 f_X8_defect_b35
          rw [if_neg i10, e_hasD (by omega), rb_ret, if_pos c1, if_pos rfl, hg, hc, a1]
          simp only [bM]
          rw [h45, hg, h45]
          show rc (gZ01 (M 14 4) _) _ _ = _
          rw [z01_eq (show z01 (M 14 4) from xz), hg]
          show rc (rb (f_X8_cureDue (gset (gset (gset M 65 i (nI t)) 66 i (M 13 4)) 67 i (M 14 4)) (nI i)) _) _ _ = _
          rw [e_cure8k I3 K hi nX, rb_ret, rc_ret]
        · refine Eq.trans (k9 _ b5 e120) ?_
          show (if M 132 i = 0 then _ else _) = _
          rw [if_pos (h0.mpr c1)]
          unfold f_X9_defect_b43
          rw [rf_0, rb_ret, if_pos rfl, hg, hc]
          show bM (gset _ 132 i (M 9 1 + 1)) _ = _
          rw [b1]
          simp only [bM]
          rw [h45, hg, h45]
          show gZ01 (M 104 4) _ = _
          rw [z01_eq (show z01 (M 104 4) from by rw [g2]; exact xz), hg]
          show rb (f_X9_cureOf (gset (gset (gset (gset (gset (gset (gset (gset M 65 i (nI t)) 66 i (M 13 4)) 67 i (M 14 4)) 10 0 (cuV X ne i)) 9 0 0) 132 i (nI t + 1)) 133 i (M 103 4)) 134 i (M 104 4)) (nI i)) _ = _
          have R : Rf (gset (gset (gset (gset (gset (gset (gset (gset M 65 i (nI t)) 66 i (M 13 4)) 67 i (M 14 4)) 10 0 (cuV X ne i)) 9 0 0) 132 i (nI t + 1)) 133 i (M 103 4)) 134 i (M 104 4)) X := by
            have := (((((Rf.rfl (gset (gset (gset M 65 i (nI t)) 66 i (M 13 4)) 67 i (M 14 4))).o (cuV X ne i)).r 0).b 132 i (nI t + 1)).b 133 i (M 103 4)).b 134 i (M 104 4)
            rw [hX] at this
            exact this
          rw [e_cure9 I3 R hi, rb_ret, if_neg nX]
        · exact ⟨t, nh, nc, nk, ne, nr, nx, ns, by subst hX; exact I3⟩
      · refine no ?_ ?_
        · rw [k8]
          unfold f_X8_defect_b30 f_X8_defect_b35
          rw [if_neg i10, e_hasD (by omega), rb_ret, if_neg c1, if_neg i10]
        · rw [k9 M b5 e120, if_neg (fun q => c1 (h0.mp q))]
    · refine no ?_ ?_
      · unfold f_X8_defect
        rw [c8_Entry a5 hi (by omega), rb_ret, hg, hc]
        simp only [bV]
        rw [if_neg (fun q => ck (Or.inl q)), if_neg (fun q => ck (Or.inr (Or.inl q))), if_neg (fun q => ck (Or.inr (Or.inr q)))]
        rfl
      · unfold f_X9_defect
        rw [c9_Entry b5 hi (by omega), rb_ret, if_neg i10, hg, hc, e120, wit_eq, rb_ret]
        have : (if M 55 i < 1 then (0 : Int32) else if 3 < M 55 i then 0 else 1) = 0 := by
          rw [k55] at ck ⊢
          revert ck
          match kk, k13 with
          | 0, _ => decide +kernel
          | 1, _ => decide +kernel
          | 2, _ => decide +kernel
          | 3, _ => decide +kernel
          | 4, _ => decide +kernel
          | 5, _ => decide +kernel
          | 6, _ => decide +kernel
          | 7, _ => decide +kernel
          | 8, _ => decide +kernel
          | 9, _ => decide +kernel
          | 10, _ => decide +kernel
          | 11, _ => decide +kernel
          | 12, _ => decide +kernel
          | n + 13, h => omega
        rw [if_pos this]
  · refine agI_no (k := 1) ?_ (by decide) (b := 0) ?_ (inv_no I)
    · unfold f_L_defect f_X8_defect
      rw [n8_Entry a5 hb, rb_thr, rc_thr]
      rfl
    · unfold f_X9_defect
      rw [n9_Entry b5 (by omega) hb, rb_ret, if_pos rfl]
      unfold f_X9_defect_b43
      rw [rf_1, rb_ret, if_neg i10]
