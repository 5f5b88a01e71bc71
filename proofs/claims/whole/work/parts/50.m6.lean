/-! ===== dismiss ===== -/
theorem n9_dis {M : gM} {a x y w : Int32} (h : w = 1 ∨ w = 2) : f_X9_dismiss_b113 M a x y w = rRet 0 (gset M 9 0 w) := by
  unfold f_X9_dismiss_b113
  rcases h with h | h
  · rw [h, rf_1, rb_ret, if_neg i10]
  · rw [h, rf_2, rb_ret, if_neg i10]
/-- where a juror sits, told by the reference's row -/
def plV (M : gM) (c : Nat) (a : Int32) : Int32 := lastP (fun s => decide (M 142 (8 * c + s) = a)) 6
theorem e_pl9 {M : gM} {c : Nat} {a : Int32} (hc : c < 8) : f_X9_dismiss_l30 5000 M (nI c) a 1 (-1) 0 = f_X9_dismiss_b72 M (nI c) 1 (plV M c a) := by
  have q := lp_fd0 (L := fun f s i => f_X9_dismiss_l30 f M (nI c) a 1 s i) (st := fun e s => if decide (M 142 (8 * c + e) = a) then nI e else s) (s0 := (-1 : Int32)) (F := fun s => f_X9_dismiss_b72 M (nI c) 1 s) (n := 6) ?_ ?_ (by omega)
  · refine Eq.trans q ?_
    show f_X9_dismiss_b72 M (nI c) 1 (fold (fun e s => if decide (M 142 (8 * c + e) = a) then nI e else s) (-1) 6) = _
    rw [fold_last1 (p := fun e => decide (M 142 (8 * c + e) = a)) (by omega)]
    rfl
  · intro g i hi
    show f_X9_dismiss_lb30 _ M (nI c) a 1 (fold _ (-1) i) (nI i) = f_X9_dismiss_l30 g M (nI c) a 1 (if decide (M 142 (8 * c + i) = a) then nI i else fold _ (-1) i) (nI (i + 1))
    generalize fold _ (-1 : Int32) i = s
    unfold f_X9_dismiss_lb30
    rw [show (6 : Int32) = nI 6 from by decide, if_neg (nI_ge hi (by omega)), if_neg i10, ix8, gI_nI (show 8 * c + i < 64 by omega) (by omega), nI_clamp (show 8 * c + i < 2 ^ 31 by omega)]
    simp only [bV]
    rw [nI_1]
    by_cases z : M 142 (8 * c + i) = a
    · rw [if_pos z, decide_eq_true z]; rfl
    · rw [if_neg z, decide_eq_false z]; rfl
  · intro g
    show f_X9_dismiss_lb30 _ M (nI c) a 1 (fold _ (-1) 6) (nI 6) = _
    unfold f_X9_dismiss_lb30
    rw [if_pos (by decide)]
theorem e_pl8 {M : gM} (G : Gjury (M 72) (M 73) (M 74) (M 83) (M 140) (M 141) (M 142)) {c : Nat} {a : Int32} (hc : c < 8) (hu : ∀ s r, s < 6 → r < 6 → M 142 (8 * c + s) = a → M 142 (8 * c + r) = a → s = r) : f_X6_placeOf M (nI c) a = rRet (plV M c a) M := by
  have stp : ∀ g i, i < 6 → f_X6_placeOf_l2 (g + 1) M (nI c) a (nI i) = if M 142 (8 * c + i) = a then rRet (nI i) M else f_X6_placeOf_l2 g M (nI c) a (nI (i + 1)) := by
    intro g i hi
    show f_X6_placeOf_lb2 _ M (nI c) a (nI i) = _
    unfold f_X6_placeOf_lb2
    rw [show (6 : Int32) = nI 6 from by decide, if_neg (nI_ge hi (by omega)), e_inSeat G hc hi, rb_ret]
    simp only [bV]
    rw [nI_1]
  have fin : ∀ g, f_X6_placeOf_l2 (g + 1) M (nI c) a (nI 6) = rRet (-1) M := by
    intro g
    show f_X6_placeOf_lb2 _ M (nI c) a (nI 6) = _
    unfold f_X6_placeOf_lb2
    rw [if_pos (by decide)]
  rcases lastP_cases (fun s => decide (M 142 (8 * c + s) = a)) 6 with ⟨h1, h2⟩ | ⟨e, h1, h2, h3, h4⟩
  · have k := lp_ex (L := fun f i => f_X6_placeOf_l2 f M (nI c) a i) (p := fun s => M 142 (8 * c + s) = a) (r0 := rRet (-1) M) (r1 := rRet (-1) M) (n := 6) (fun g i hi hp => by
      have z := h2 i hi
      rw [decide_eq_true hp] at z
      cases z) (fun g i hi hp => by
      show f_X6_placeOf_l2 (g + 2) M (nI c) a (nI i) = _
      rw [stp (g + 1) i hi, if_neg hp]) (fun g => fin g) 6 0 5000 (by omega) (by omega)
    rw [nI_0] at k
    unfold plV
    rw [h1]
    exact k.2 (fun j _ hj hp => by
      have z := h2 j hj
      rw [decide_eq_true hp] at z
      cases z)
  · have he : M 142 (8 * c + e) = a := of_decide_eq_true h3
    have k := lp_ex (L := fun f i => f_X6_placeOf_l2 f M (nI c) a i) (p := fun s => M 142 (8 * c + s) = a) (r0 := rRet (-1) M) (r1 := rRet (nI e) M) (n := 6) (fun g i hi hp => by
      show f_X6_placeOf_l2 (g + 2) M (nI c) a (nI i) = _
      rw [stp (g + 1) i hi, if_pos hp, hu i e hi h1 hp he]) (fun g i hi hp => by
      show f_X6_placeOf_l2 (g + 2) M (nI c) a (nI i) = _
      rw [stp (g + 1) i hi, if_neg hp]) (fun g => fin g) 6 0 5000 (by omega) (by omega)
    rw [nI_0] at k
    unfold plV
    rw [h2]
    exact k.1 ⟨e, by omega, h1, he⟩
theorem st_dismiss : St_dismiss Inv := by
  intro n M a d hn hI
  obtain ⟨t, nh, nc, nk, ne, nr, nx, ns, I⟩ := hI
  obtain ⟨⟨a1, a2, a3, a4, a5, a6, a7, a8⟩, ⟨b1, b2, b3, b4, b5, b6, b7⟩, l1, l2, l3, l4, l5, l6, l7, l8⟩ := I.1
  have G := I.2.2.2.2.2.2.2.2.1
  have bad9 : ∀ M', f_X9_dismiss_b22 M' a d = rRet 0 (gset M' 9 0 1) := by
    intro M'
    unfold f_X9_dismiss_b22 f_X9_dismiss_b23
    show f_X9_dismiss_lb30 _ M' a d 0 (-1) 0 = _
    unfold f_X9_dismiss_lb30
    rw [if_neg (by decide), if_pos rfl]
    unfold f_X9_dismiss_b72 f_X9_dismiss_b85
    rw [if_pos rfl, if_pos rfl]
    exact n9_dis (Or.inl rfl)
  rcases idx_cases a nc (by omega) with ⟨c, hc, rfl⟩ | hb
  · have hg8 : ∀ F : gR, gI (nI c) 8 F = F := fun F => gI_nI (by omega) (by omega)
    have hcc : (nI c).toNatClampNeg = c := nI_clamp (by omega)
    rcases idx_cases d 14 (by omega) with ⟨j, hj, rfl⟩ | hb
    · obtain ⟨k, hk6, h72, hk, hbt, hlt, heq⟩ := G.2.2 c (by omega)
      have hu : ∀ s r, s < 6 → r < 6 → M 142 (8 * c + s) = nI j → M 142 (8 * c + r) = nI j → s = r := by
        intro s r hs hr w1 w2
        by_cases q : k < 6
        · rw [(hlt q).1 s (by omega)] at w1
          exact absurd w1.symm (m1_ne (by omega))
        · obtain ⟨g, g1, g2, g3, g4, g5, g6⟩ := heq (by omega)
          refine g6 s r (by omega) (by omega) (Or.inl hs) (Or.inl hr) ?_
          rw [← g3 s (by omega) (Or.inl hs), ← g3 r (by omega) (Or.inl hr), w1, w2]
      have k8 : f_X8_dismiss M (nI c) (nI j) = rb (f_X6_nextAlternate M (nI c)) (fun x8 M7 => if plV M c (nI j) = -1 then rThr 2 M7 else if x8 = -1 then rThr 2 M7 else rb (f_X6_reseat M7 (nI c) (plV M c (nI j)) x8) (fun _ M9 => rRet x8 M9)) := by
        unfold f_X8_dismiss
        rw [c8_Case a3 hc (by omega), rb_ret, c8_Juror hj, rb_ret, e_pl8 G (by omega) hu, rb_ret]
      have k9 : ∀ M', Rf M' M → f_X9_dismiss M' (nI c) (nI j) = rb (f_X9_alternate M' (nI c)) (fun x6 M5 => f_X9_dismiss_b85 M5 (nI c) 1 (plV M c (nI j)) x6) := by
        intro M' R
        have e : plV M' c (nI j) = plV M c (nI j) := by
          unfold plV
          rw [R.2 142 (by omega)]
        unfold f_X9_dismiss
        rw [c9_Case ((R.1 6 (by omega)).trans b3) hc (by omega), rb_ret, if_neg i10, w9_Juror hj, rb_ret, if_neg i10]
        unfold f_X9_dismiss_b23
        rw [e_pl9 (by omega), e]
        unfold f_X9_dismiss_b72
        rw [if_neg i10]
      have no9 : ∀ y : Int32, plV M c (nI j) = -1 ∨ y = -1 → f_X9_dismiss_b85 M (nI c) 1 (plV M c (nI j)) y = rRet 0 (gset M 9 0 2) := by
        intro y hy
        unfold f_X9_dismiss_b85 f_X9_dismiss_b108
        rw [if_neg i10, n9_dis (Or.inr rfl)]
        by_cases q : plV M c (nI j) = -1
        · rw [if_pos q]
        · rw [if_neg q, if_pos (hy.resolve_left q)]
      have no : f_X8_dismiss M (nI c) (nI j) = rThr 2 M → f_X9_dismiss M (nI c) (nI j) = rRet 0 (gset M 9 0 2) → AgI (f_L_dismiss M (nI c) (nI j)) (fun M1 => f_X9_dismiss M1 (nI c) (nI j)) (Inv (n + 1)) := by
        intro h8 h9
        refine agI_no (k := 2) ?_ (by decide) (b := 0) h9 (inv_no I)
        unfold f_L_dismiss
        rw [h8, rc_thr]
        rfl
      rcases e_next G (show c < 8 by omega) with ⟨x1, x2, x3⟩ | ⟨g, hg2, h726, h83, xn, xne, xl⟩
      · refine no ?_ ?_
        · rw [k8, x1, rb_ret, if_pos rfl, ite_self]
        · rw [k9 M (Rf.rfl M), e_alt9 (by omega), if_pos x2, if_pos x3, rb_ret]
          exact no9 (-1) (Or.inr rfl)
      · have alt9 : ∀ M', Rf M' M → f_X9_alternate M' (nI c) = rRet (nI (6 + g)) M' := by
          intro M' R
          rw [e_alt9 (by omega), R.2 142 (by omega)]
          have : g = 0 ∨ g = 1 := by omega
          rcases this with h | h
          · subst h
            rw [if_neg xne]; rfl
          · subst h
            rw [if_pos (xl 6 (by omega) (by omega)), if_neg xne]; rfl
        rcases lastP_cases (fun s => decide (M 142 (8 * c + s) = nI j)) 6 with ⟨h1, -⟩ | ⟨p, hp, h2, h3, -⟩
        · have h1' : plV M c (nI j) = -1 := h1
          refine no ?_ ?_
          · rw [k8, xn, rb_ret, if_pos h1']
          · rw [k9 M (Rf.rfl M), alt9 M (Rf.rfl M), rb_ret]
            exact no9 _ (Or.inl h1')
        · have h2' : plV M c (nI j) = nI p := h2
          have hpj : M 142 (8 * c + p) = nI j := of_decide_eq_true h3
          have k6 : k = 6 := (nI_eq (by omega) (by omega)).mp (h72.symm.trans h726)
          obtain ⟨g', q1, q2, q3, q4, q5, q6⟩ := heq k6
          have : g' = g := (nI_eq (by omega) (by omega)).mp (q2.symm.trans h83)
          subst this
          have m74 : M 142 (8 * c + (6 + g')) = M 74 (c * 8 + (6 + g')) := q3 (6 + g') (by omega) (Or.inr (Nat.le_refl _))
          -- who is seated instead
          generalize hv : M 142 (8 * c + (6 + g')) = v at *
          refine agI_ok (v := v) (M1 := gset (gset M 74 (c * 8 + p) v) 83 c (nI (g' + 1))) (M2 := gset (gset (gset (gset (gset (gset M 74 (c * 8 + p) v) 83 c (nI (g' + 1))) 10 0 v) 9 0 0) 142 (8 * c + p) v) 142 (8 * c + (6 + g')) (-1)) ?_ ?_ rfl rfl ?_
          · have : f_X6_reseat M (nI c) (nI p) v = rRet 0 (gset (gset M 74 (c * 8 + p) v) 83 c (nI (g' + 1))) := by
              unfold f_X6_reseat
              simp only [bM]
              rw [hg8, gI_nI (show p < 8 by omega) (by omega), hg8, hg8, hcc, nI_clamp (show p < 2 ^ 31 by omega), gset_ne (show (83 : Nat) ≠ 74 by omega), h83, nI_1]
            unfold f_L_dismiss
            rw [k8, xn, rb_ret, h2', if_neg (m1_ne (by omega)), if_neg xne, this, rb_ret, rc_ret]
          · have R : Rf (gset (gset (gset M 74 (c * 8 + p) v) 83 c (nI (g' + 1))) 10 0 v) M := (((Rf.rfl M).s (by omega) (by omega) _ _).s (by omega) (by omega) _ _).o _
            show f_X9_dismiss _ (nI c) (nI j) = _
            rw [k9 _ R, alt9 _ R, rb_ret, h2']
            unfold f_X9_dismiss_b85
            rw [if_neg i10, if_neg (m1_ne (by omega)), if_neg (m1_ne (by omega))]
            unfold f_X9_dismiss_b113
            rw [rf_0, rb_ret, if_pos rfl, ix8, ix8, gI_nI (show 8 * c + (6 + g') < 64 by omega) (by omega), gI_nI (show 8 * c + p < 64 by omega) (by omega), nI_clamp (show 8 * c + (6 + g') < 2 ^ 31 by omega), nI_clamp (show 8 * c + p < 2 ^ 31 by omega)]
            simp only [bM]
            rw [gI_nI (show 8 * c + (6 + g') < 64 by omega) (by omega), gI_nI (show 8 * c + p < 64 by omega) (by omega)]
            show rRet (upd (upd (M 142) (8 * c + p) (M 142 (8 * c + (6 + g')))) (8 * c + (6 + g')) (-1) (8 * c + p)) (gset (gset _ 142 (8 * c + p) (M 142 (8 * c + (6 + g')))) 142 (8 * c + (6 + g')) (-1)) = _
            rw [upd_nx (by omega), upd_eq, hv]
          · obtain ⟨z1, z2, z3⟩ := G
            have GG : Gjury (M 72) (M 73) (upd (M 74) (c * 8 + p) v) (upd (M 83) c (nI (g' + 1))) (M 140) (M 141) (upd (upd (M 142) (8 * c + p) v) (8 * c + (6 + g')) (-1)) := by
              refine ⟨z1, z2, fun c2 hc2 => ?_⟩
              by_cases y : c2 = c
              · subst y
                refine ⟨k, hk6, h72, hk, hbt, fun h => by omega, fun _ => ⟨g' + 1, by omega, upd_eq, fun s hs h => ?_, fun s s1 s2 => ?_, fun s hs => ?_, fun s r hs hr h1 h2 w => ?_⟩⟩
                · rw [upd_nx (by omega), upd_at, upd_at]
                  by_cases e : s = p
                  · rw [if_pos (by omega), if_pos (by omega)]
                  · rw [if_neg (by omega), if_neg (by omega)]
                    exact q3 s hs (by omega)
                · rw [upd_at]
                  by_cases e : s = 6 + g'
                  · rw [if_pos (by omega)]
                  · rw [if_neg (by omega), upd_nx (by omega)]
                    exact q4 s s1 (by omega)
                · rw [upd_at]
                  by_cases e : s = p
                  · rw [if_pos (by omega), m74]
                    exact q5 (6 + g') (by omega)
                  · rw [if_neg (by omega)]
                    exact q5 s hs
                · rw [upd_at, upd_at] at w
                  by_cases e : s = p
                  · by_cases e2 : r = p
                    · omega
                    · rw [if_pos (by omega), if_neg (by omega), m74] at w
                      have := q6 (6 + g') r (by omega) hr (Or.inr (Nat.le_refl _)) (by omega) w
                      omega
                  · by_cases e2 : r = p
                    · rw [if_neg (by omega), if_pos (by omega), m74] at w
                      have := q6 s (6 + g') hs (by omega) (by omega) (Or.inr (Nat.le_refl _)) w
                      omega
                    · rw [if_neg (by omega), if_neg (by omega)] at w
                      exact q6 s r hs hr (by omega) (by omega) w
              · obtain ⟨k2, w1, w2, w3, w4, w5, w6⟩ := z3 c2 hc2
                have r142 : ∀ s, s < 8 → upd (upd (M 142) (8 * c + p) v) (8 * c + (6 + g')) (-1) (8 * c2 + s) = M 142 (8 * c2 + s) := fun s hs => by rw [upd_nx (by omega), upd_nx (by omega)]
                have r74 : ∀ s, s < 8 → upd (M 74) (c * 8 + p) v (c2 * 8 + s) = M 74 (c2 * 8 + s) := fun s hs => by rw [upd_nx (by omega)]
                refine ⟨k2, w1, w2, w3, w4, fun h => ⟨fun s hs => by rw [r142 s hs]; exact (w5 h).1 s hs, by rw [upd_nx y]; exact (w5 h).2⟩, fun h => ?_⟩
                obtain ⟨g2, y1, y2, y3, y4, y5, y6⟩ := w6 h
                refine ⟨g2, y1, by rw [upd_nx y]; exact y2, fun s hs h => by rw [r142 s hs, r74 s hs]; exact y3 s hs h, fun s h1 h2 => by rw [r142 s (by omega)]; exact y4 s h1 h2, fun s hs => by rw [r74 s hs]; exact y5 s hs, fun s r hs hr h1 h2 w => ?_⟩
                rw [r74 s hs, r74 r hr] at w
                exact y6 s r hs hr h1 h2 w
            obtain ⟨g1, g2, g3, g4, g5, g6, g7, g8, g9, g10, g11, g12, g13, g14⟩ := I
            exact ⟨t, nh, nc, nk, ne, nr, nx, ns, g1.up, g2, g3, g4, g5, g6, g7, g8, GG, g10, g11, g12, g13.up, g14⟩
    · refine agI_no (k := 1) ?_ (by decide) (b := 0) ?_ (inv_no I)
      · unfold f_L_dismiss f_X8_dismiss
        rw [c8_Case a3 hc (by omega), rb_ret, n8_Juror hb, rb_thr, rc_thr]
        rfl
      · unfold f_X9_dismiss
        rw [c9_Case b3 hc (by omega), rb_ret, if_neg i10, v9_Juror hb, rb_ret, if_pos rfl]
        exact bad9 M
  · refine agI_no (k := 1) ?_ (by decide) (b := 0) ?_ (inv_no I)
    · unfold f_L_dismiss f_X8_dismiss
      rw [n8_Case a3 hb, rb_thr, rc_thr]
      rfl
    · unfold f_X9_dismiss
      rw [n9_Case b3 (by omega) hb, rb_ret, if_pos rfl]
      exact bad9 M
