theorem gput_id (M : gM) (a : Nat) : gput M a (M a) = M := by
  funext b
  unfold gput
  by_cases c : b = a
  · rw [if_pos c, c]
  · rw [if_neg c]
/-- the juries behind a strike -/
theorem Gjury.strike {m72 m73 m74 m83 m140 m141 m142 : Nat → Int32} (h : Gjury m72 m73 m74 m83 m140 m141 m142) {c j k : Nat} (hc : c < 8) (hj : j < 14) (h72 : m72 c = nI k) (k6 : k < 6) (hn : ¬ m141 (14 * c + j) = 1) {m74' m142' : Nat → Int32} {u : Nat → Bool} (hu : ∀ x, x < 14 → (u x = true ↔ ¬ upd m141 (14 * c + j) 1 (14 * c + x) = 1))
    (e : (k + 1 < 6 ∧ m74' = m74 ∧ m142' = m142) ∨ (k + 1 = 6 ∧ m74' = flR m74 (c * 8) u 14 ∧ m142' = flR m142 (8 * c) u 14)) :
    plN u 14 + (k + 1) = 14 ∧ (∀ x, x < 14 → (bt (m73 c ||| (1 <<< (nI j &&& 31))) x = false ↔ u x = true)) ∧ Gjury (upd m72 c (nI (k + 1))) (upd m73 c (m73 c ||| (1 <<< (nI j &&& 31)))) m74' m83 (upd m140 c (nI (k + 1))) (upd m141 (14 * c + j) 1) m142' := by
  obtain ⟨e1, e2, e3⟩ := h
  obtain ⟨k', q1, q2, q3, q4, q5, q6⟩ := e3 c hc
  have : k' = k := (nI_eq (by omega) (by omega)).mp (q2.symm.trans h72)
  subst this
  obtain ⟨v1, v2⟩ := q5 k6
  have hcS : cntS (upd m141 (14 * c + j) 1) c 14 = k' + 1 := by
    rw [cntS_up hj hn 14 (by omega), if_pos hj, ← q3]
  have hpl : plN u 14 + (k' + 1) = 14 := by
    have := pl_cnt (m141 := upd m141 (14 * c + j) 1) (c := c) (u := u) 14 hu
    rw [hcS] at this
    exact this
  have hbits : ∀ x, x < 14 → (bt (m73 c ||| (1 <<< (nI j &&& 31))) x = true ↔ upd m141 (14 * c + j) 1 (14 * c + x) = 1) := by
    intro x hx
    rw [b_or, b_one j (by omega) x (by omega)]
    by_cases z : x = j
    · rw [z, upd_eq, decide_eq_true rfl, Bool.or_true]
      exact ⟨fun _ => rfl, fun _ => rfl⟩
    · rw [upd_nx (by omega), decide_eq_false z, Bool.or_false]
      exact q4 x hx
  refine ⟨hpl, fun x hx => ?_, by rw [e1], fun i => ?_, fun c2 hc2 => ?_⟩
  · rw [hu x hx, ← hbits x hx]
    cases bt (m73 c ||| (1 <<< (nI j &&& 31))) x with
    | true => exact ⟨fun h => (by cases h), fun h => absurd rfl h⟩
    | false => exact ⟨fun _ h => (by cases h), fun _ => rfl⟩
  · exact z01_upd (Or.inr rfl) (e2 i)
  · by_cases y : c2 = c
    · subst y
      refine ⟨k' + 1, by omega, upd_eq, hcS.symm, fun x hx => by rw [upd_eq]; exact hbits x hx, fun hk => ?_, fun hk => ?_⟩
      · rcases e with ⟨-, f1, f2⟩ | ⟨f0, -, -⟩
        · rw [f2]
          exact ⟨v1, v2⟩
        · omega
      · rcases e with ⟨f0, -, -⟩ | ⟨f0, f1, f2⟩
        · omega
        · have p8 : plN u 14 = 8 := by omega
          have r74 : ∀ s, s < 8 → m74' (c2 * 8 + s) = veN u s 14 := by
            intro s hs
            rw [f1]
            unfold flR
            rw [if_pos (by omega), show c2 * 8 + s - c2 * 8 = s by omega]
          have r142 : ∀ s, s < 8 → m142' (8 * c2 + s) = veN u s 14 := by
            intro s hs
            rw [f2]
            unfold flR
            rw [if_pos (by omega), show 8 * c2 + s - 8 * c2 = s by omega]
          refine ⟨0, by omega, v2, fun s hs _ => ?_, fun s h1 h2 => by omega, fun s hs => ?_, fun s r hs hr _ _ w => ?_⟩
          · rw [r142 s hs, r74 s hs]
          · obtain ⟨x, x1, x2, -⟩ := ve_ok (u := u) (s := s) 14 (by omega)
            rw [r74 s hs, x2]
            exact ⟨x, x1, rfl⟩
          · obtain ⟨x, x1, x2, x3⟩ := ve_ok (u := u) (s := s) 14 (by omega)
            obtain ⟨x', y1, y2, y3⟩ := ve_ok (u := u) (s := r) 14 (by omega)
            rw [r74 s hs, r74 r hr, x2, y2] at w
            have := (nI_eq (by omega) (by omega)).mp w
            rw [← x3, ← y3, this]
    · obtain ⟨k2, w1, w2, w3, w4, w5, w6⟩ := e3 c2 hc2
      have r74 : ∀ s, s < 8 → m74' (c2 * 8 + s) = m74 (c2 * 8 + s) := by
        intro s hs
        rcases e with ⟨-, f1, -⟩ | ⟨f0, f1, -⟩
        · rw [f1]
        · rw [f1]
          unfold flR
          rw [if_neg (by omega)]
      have r142 : ∀ s, s < 8 → m142' (8 * c2 + s) = m142 (8 * c2 + s) := by
        intro s hs
        rcases e with ⟨-, -, f1⟩ | ⟨f0, -, f1⟩
        · rw [f1]
        · rw [f1]
          unfold flR
          rw [if_neg (by omega)]
      refine ⟨k2, w1, by rw [upd_nx y]; exact w2, by rw [cntS_ne hj y 14 (by omega)]; exact w3, fun x hx => by rw [upd_nx y, upd_nx (by omega)]; exact w4 x hx, fun hk => ?_, fun hk => ?_⟩
      · exact ⟨fun s hs => by rw [r142 s hs]; exact (w5 hk).1 s hs, (w5 hk).2⟩
      · obtain ⟨g, g1, g2, g3, g4, g5, g6⟩ := w6 hk
        refine ⟨g, g1, g2, fun s hs h => by rw [r142 s hs, r74 s hs]; exact g3 s hs h, fun s h1 h2 => by rw [r142 s (by omega)]; exact g4 s h1 h2, fun s hs => by rw [r74 s hs]; exact g5 s hs, fun s r hs hr h1 h2 w => ?_⟩
        rw [r74 s hs, r74 r hr] at w
        exact g6 s r hs hr h1 h2 w
theorem n9_str {M : gM} {a b w : Int32} (h : w = 1 ∨ w = 2) : f_X9_strike_b86 M a b w = rRet 0 (gset M 9 0 w) := by
  unfold f_X9_strike_b86
  rcases h with h | h
  · rw [h, rf_1, rb_ret, if_neg i10]
  · rw [h, rf_2, rb_ret, if_neg i10]
theorem st_strike : St_strike Inv := by
  intro n M a b d hn hI
  obtain ⟨t, nh, nc, nk, ne, nr, nx, ns, I⟩ := hI
  obtain ⟨⟨a1, a2, a3, a4, a5, a6, a7, a8⟩, ⟨b1, b2, b3, b4, b5, b6, b7⟩, l1, l2, l3, l4, l5, l6, l7, l8⟩ := I.1
  have G := I.2.2.2.2.2.2.2.2.1
  have bad9 : ∀ M', f_X9_strike_b31 M' a b d = rRet 0 (gset M' 9 0 1) := by
    intro M'
    unfold f_X9_strike_b31 f_X9_strike_b32
    rw [if_pos rfl]
    exact n9_str (Or.inl rfl)
  rcases idx_cases a nc (by omega) with ⟨c, hc, rfl⟩ | hb
  · have hg8 : ∀ F : gR, gI (nI c) 8 F = F := fun F => gI_nI (by omega) (by omega)
    have hcc : (nI c).toNatClampNeg = c := nI_clamp (by omega)
    rcases idx_cases b 2 (by omega) with ⟨σ, hσ, rfl⟩ | hb
    · rcases idx_cases d 14 (by omega) with ⟨j, hj, rfl⟩ | hb
      · obtain ⟨k, hk6, h72, hk, hbt, hlt, heq⟩ := G.2.2 c (by omega)
        have e140 : M 140 = M 72 := G.1
        have i2 : (2 : Int32) = nI 2 := by decide
        have i6 : (6 : Int32) = nI 6 := by decide
        have k8 : f_X8_strike M (nI c) (nI σ) (nI j) = if k < 6 ∧ k % 2 = σ ∧ ¬ M 141 (14 * c + j) = 1 then rb (f_X6_addStrike M (nI c) (nI j)) (fun _ M13 => gI (nI c) 8 (rRet (M13 72 (nI c).toNatClampNeg) M13)) else rThr 2 M := by
          unfold f_X8_strike
          rw [c8_Case a3 hc (by omega), rb_ret, c8_Side hσ, rb_ret, c8_Juror hj, rb_ret]
          have e2 := nI_eq (show k % 2 < 2 ^ 31 by omega) (show σ < 2 ^ 31 by omega)
          have tst := b_test j (by omega) (M 73 c)
          have kd : f_X6_isDone M (nI c) = rRet (if k < 6 then 0 else 1) M := by
            unfold f_X6_isDone
            rw [hg8, hcc, h72, i6]
            by_cases q1 : k < 6
            · rw [if_pos (nI_lt q1 (by omega)), if_pos q1]
            · rw [if_neg (nI_nlt (by omega) (by omega)), if_neg q1]
          have kt : f_X6_turn M (nI c) = rRet (nI (k % 2)) M := by
            unfold f_X6_turn gNz
            rw [hg8, hcc, h72, if_neg (c := (2 : Int32) = 0) (by decide), i2, pk_rem (show k < 2 ^ 31 by omega) (by omega) (by omega)]
          have ks : f_X6_isStruck M (nI c) (nI j) = rRet (if M 141 (14 * c + j) = 1 then 1 else 0) M := by
            unfold f_X6_isStruck
            rw [hg8, hcc]
            by_cases q3 : M 141 (14 * c + j) = 1
            · rw [if_pos (tst.mpr ((hbt j hj).mpr q3)), if_pos q3]
            · rw [if_neg (fun h => q3 ((hbt j hj).mp (tst.mp h))), if_neg q3]
          rw [kd, rb_ret, kt, rb_ret, ks, rb_ret]
          by_cases q1 : k < 6
          · rw [if_pos q1, if_pos rfl]
            by_cases q2 : k % 2 = σ
            · rw [if_pos (e2.mpr q2)]
              by_cases q3 : M 141 (14 * c + j) = 1
              · rw [if_pos q3, if_neg i10, if_neg (fun h => h.2.2 q3)]
              · rw [if_neg q3, if_pos rfl, if_pos ⟨q1, q2, q3⟩]
            · rw [if_neg (fun h => q2 (e2.mp h)), if_neg (fun h => q2 h.2.1)]
          · rw [if_neg q1, if_neg i10, if_neg (fun h => q1 h.1)]
        have k9 : ∀ M', Rf M' M → f_X9_strike M' (nI c) (nI σ) (nI j) = if k < 6 ∧ k % 2 = σ ∧ ¬ M 141 (14 * c + j) = 1 then f_X9_strike_b86 M' (nI c) (nI j) 0 else rRet 0 (gset M' 9 0 2) := by
          intro M' R
          unfold f_X9_strike
          rw [c9_Case ((R.1 6 (by omega)).trans b3) hc (by omega), rb_ret, if_neg i10, w9_Side hσ, rb_ret, if_neg i10, w9_Juror hj, rb_ret, if_neg i10]
          unfold f_X9_strike_b32 f_X9_strike_b81 gNz
          rw [if_neg i10, hg8, hg8, hcc, R.2 140 (by omega), e140, h72, R.2 141 (by omega), n9_str (Or.inr rfl), if_neg (c := (2 : Int32) = 0) (by decide), show nI k - nI k / 2 * 2 = nI (k % 2) from pk_rem (d := 2) (show k < 2 ^ 31 by omega) (by omega) (by omega), ix14, gI_nI (show 14 * c + j < 112 by omega) (by omega), nI_clamp (show 14 * c + j < 2 ^ 31 by omega)]
          have e2 := nI_eq (show k % 2 < 2 ^ 31 by omega) (show σ < 2 ^ 31 by omega)
          have e6 := nI_eq (show k < 2 ^ 31 by omega) (show 6 < 2 ^ 31 by omega)
          by_cases q1 : k < 6
          · rw [if_neg (show ¬ nI k = 6 from fun h => by have := e6.mp h; omega)]
            by_cases q2 : k % 2 = σ
            · rw [if_pos (e2.mpr q2)]
              by_cases q3 : M 141 (14 * c + j) = 1
              · rw [if_neg (by rw [q3]; exact i10), if_neg (fun h => h.2.2 q3)]
              · rw [if_pos ((G.2.1 (14 * c + j)).resolve_right q3), if_pos ⟨q1, q2, q3⟩]
            · rw [if_neg (fun h => q2 (e2.mp h)), if_neg (fun h => q2 h.2.1)]
          · rw [if_pos (show nI k = 6 from e6.mpr (by omega)), if_neg (fun h => q1 h.1)]
        by_cases ok : k < 6 ∧ k % 2 = σ ∧ ¬ M 141 (14 * c + j) = 1
        · obtain ⟨q1, q2, q3⟩ := ok
          have z141 := fun x => z01_upd (f := M 141) (j := 14 * c + j) (e := x) (v := 1) (Or.inr rfl) (G.2.1 x)
          have hu : ∀ x, x < 14 → ((fun y => decide (¬ upd (M 141) (14 * c + j) 1 (14 * c + y) = 1)) x = true ↔ ¬ upd (M 141) (14 * c + j) 1 (14 * c + x) = 1) := fun x hx => ⟨fun h => of_decide_eq_true h, fun h => decide_eq_true h⟩
          generalize hud : (fun y => decide (¬ upd (M 141) (14 * c + j) 1 (14 * c + y) = 1)) = u at hu
          have add8 : f_X6_addStrike M (nI c) (nI j) = if k + 1 < 6 then rRet 0 (gset (gset M 73 c (M 73 c ||| (1 <<< (nI j &&& 31)))) 72 c (nI (k + 1))) else rb (f_X6_fillPlaces (gset (gset M 73 c (M 73 c ||| (1 <<< (nI j &&& 31)))) 72 c (nI (k + 1))) (nI c)) (fun _ M5 => rRet 0 M5) := by
            unfold f_X6_addStrike f_X6_isDone
            simp only [bM, hg8, hcc]
            rw [show (gset M 73 c (M 73 c ||| (1 <<< (nI j &&& 31)))) 72 c = nI k from h72, nI_1]
            rw [show (gset (gset M 73 c (M 73 c ||| (1 <<< (nI j &&& 31)))) 72 c (nI (k + 1))) 72 c = nI (k + 1) from by rw [gset_self, upd_eq], i6]
            by_cases z : k + 1 < 6
            · rw [if_pos (nI_lt z (by omega)), if_pos z, rb_ret, if_pos rfl]
            · rw [if_neg (nI_nlt (by omega) (by omega)), if_neg z, rb_ret, if_neg i10]
          have R0 : ∀ N v, Rf N M → Rf (gset N 10 0 v) M := fun N v h => h.o v
          have hm : ∀ N : gM, N 140 c = nI k → N 141 = M 141 → f_X9_strike_b86 N (nI c) (nI j) 0 = if k + 1 = 6 then f_X9_strike_l133 5000 (gset (gset (gset N 9 0 0) 141 (14 * c + j) 1) 140 c (nI (k + 1))) (nI c) 0 0 else rRet (nI (k + 1)) (gset (gset (gset N 9 0 0) 141 (14 * c + j) 1) 140 c (nI (k + 1))) := by
            intro N h1 h2
            unfold f_X9_strike_b86 f_X9_strike_b178
            rw [rf_0, rb_ret, if_pos rfl, z01_eq (Or.inr rfl), ix14, gI_nI (show 14 * c + j < 112 by omega) (by omega), nI_clamp (show 14 * c + j < 2 ^ 31 by omega)]
            simp only [bM]
            rw [hg8, hg8, hcc, show (gset (gset N 9 0 0) 141 (14 * c + j) 1) 140 c = nI k from h1, nI_1, hg8, hg8]
            rw [show (gset (gset (gset N 9 0 0) 141 (14 * c + j) 1) 140 c (nI (k + 1))) 140 c = nI (k + 1) from by rw [gset_self, upd_eq]]
            have e6 := nI_eq (show k + 1 < 2 ^ 31 by omega) (show 6 < 2 ^ 31 by omega)
            by_cases z : k + 1 = 6
            · rw [if_pos (show nI (k + 1) = 6 from e6.mpr z), if_pos z]
            · rw [if_neg (show ¬ nI (k + 1) = 6 from fun h => z (e6.mp h)), if_neg z]
          by_cases z : k + 1 = 6
          · obtain ⟨hpl, hb8, GG⟩ := G.strike (u := u) (m74' := flR (M 74) (c * 8) u 14) (m142' := flR (M 142) (8 * c) u 14) (by omega) hj h72 q1 q3 hu (Or.inr ⟨z, rfl, rfl⟩)
            have p8 : plN u 14 = 8 := by omega
            have fill8 : f_X6_fillPlaces (gset (gset M 73 c (M 73 c ||| (1 <<< (nI j &&& 31)))) 72 c (nI (k + 1))) (nI c) = rRet 0 (gput (gset (gset M 73 c (M 73 c ||| (1 <<< (nI j &&& 31)))) 72 c (nI (k + 1))) 74 (flR (M 74) (c * 8) u 14)) := by
              have q := l_fill8 (M := gset (gset M 73 c (M 73 c ||| (1 <<< (nI j &&& 31)))) 72 c (nI (k + 1))) (c := c) (u := u) (by omega) (fun x hx => by
                rw [gset_ne (by omega), gset_self, upd_eq]
                exact (hb8 x hx).symm) p8 14 0 5000 (by omega) (by omega)
              rw [flR_0, gput_id, nI_0] at q
              exact q
            have fill9 : ∀ N : gM, N 141 = M 141 → N 142 = M 142 → f_X9_strike_l133 5000 (gset (gset (gset N 9 0 0) 141 (14 * c + j) 1) 140 c (nI (k + 1))) (nI c) 0 0 = rRet (nI (k + 1)) (gput (gset (gset (gset N 9 0 0) 141 (14 * c + j) 1) 140 c (nI (k + 1))) 142 (flR (M 142) (8 * c) u 14)) := by
              intro N h1 h2
              have q := l_fill9 (M := gset (gset (gset N 9 0 0) 141 (14 * c + j) 1) 140 c (nI (k + 1))) (c := c) (u := u) (by omega) (fun x hx => by
                rw [gset_ne (by omega), gset_self, gset_ne (by omega), h1, hu x hx]
                exact z01_n (z141 (14 * c + x))) p8 14 0 5000 (by omega) (by omega)
              rw [flR_0, gput_id, nI_0, show (gset (gset (gset N 9 0 0) 141 (14 * c + j) 1) 140 c (nI (k + 1))) 140 c = nI (k + 1) from by rw [gset_self, upd_eq], show (gset (gset (gset N 9 0 0) 141 (14 * c + j) 1) 140 c (nI (k + 1))) 142 = M 142 from h2] at q
              exact q
            refine agI_ok (v := nI (k + 1)) (M1 := gput (gset (gset M 73 c (M 73 c ||| (1 <<< (nI j &&& 31)))) 72 c (nI (k + 1))) 74 (flR (M 74) (c * 8) u 14)) (M2 := gput (gset (gset (gset (gset (gput (gset (gset M 73 c (M 73 c ||| (1 <<< (nI j &&& 31)))) 72 c (nI (k + 1))) 74 (flR (M 74) (c * 8) u 14)) 10 0 (nI (k + 1))) 9 0 0) 141 (14 * c + j) 1) 140 c (nI (k + 1))) 142 (flR (M 142) (8 * c) u 14)) ?_ ?_ rfl rfl ?_
            · unfold f_L_strike
              rw [k8, if_pos ⟨q1, q2, q3⟩, add8, if_neg (show ¬ k + 1 < 6 by omega), fill8, rb_ret, rb_ret, hg8, hcc, gput_ne (by omega), gset_self, upd_eq, rc_ret]
            · have R : Rf (gset (gput (gset (gset M 73 c (M 73 c ||| (1 <<< (nI j &&& 31)))) 72 c (nI (k + 1))) 74 (flR (M 74) (c * 8) u 14)) 10 0 (nI (k + 1))) M := by
                refine Rf.o ?_ _
                have R0 : Rf (gset (gset M 73 c (M 73 c ||| (1 <<< (nI j &&& 31)))) 72 c (nI (k + 1))) M := ((Rf.rfl M).s (by omega) (by omega) _ _).s (by omega) (by omega) _ _
                exact ⟨fun i hi => by rw [gput_ne (by omega)]; exact R0.1 i hi, fun e he => by rw [gput_ne (by omega)]; exact R0.2 e he⟩
              show f_X9_strike _ (nI c) (nI σ) (nI j) = _
              rw [k9 _ R, if_pos ⟨q1, q2, q3⟩]
              refine Eq.trans (hm _ (show M 140 c = nI k by rw [e140]; exact h72) rfl) ?_
              rw [if_pos z]
              exact fill9 _ rfl rfl
            · obtain ⟨g1, g2, g3, g4, g5, g6, g7, g8, g9, g10, g11, g12, g13, g14⟩ := I
              exact ⟨t, nh, nc, nk, ne, nr, nx, ns, g1.up, g2, g3, g4, g5, g6, g7, g8, GG, g10, g11, g12, g13.up, g14⟩
          · obtain ⟨-, -, GG⟩ := G.strike (u := u) (m74' := M 74) (m142' := M 142) (by omega) hj h72 q1 q3 hu (Or.inl ⟨by omega, rfl, rfl⟩)
            refine agI_ok (v := nI (k + 1)) (M1 := gset (gset M 73 c (M 73 c ||| (1 <<< (nI j &&& 31)))) 72 c (nI (k + 1))) (M2 := gset (gset (gset (gset (gset (gset M 73 c (M 73 c ||| (1 <<< (nI j &&& 31)))) 72 c (nI (k + 1))) 10 0 (nI (k + 1))) 9 0 0) 141 (14 * c + j) 1) 140 c (nI (k + 1))) ?_ ?_ rfl rfl ?_
            · unfold f_L_strike
              rw [k8, if_pos ⟨q1, q2, q3⟩, add8, if_pos (show k + 1 < 6 by omega), rb_ret, hg8, hcc, gset_self, upd_eq, rc_ret]
            · have R : Rf (gset (gset (gset M 73 c (M 73 c ||| (1 <<< (nI j &&& 31)))) 72 c (nI (k + 1))) 10 0 (nI (k + 1))) M := (((Rf.rfl M).s (by omega) (by omega) _ _).s (by omega) (by omega) _ _).o _
              show f_X9_strike _ (nI c) (nI σ) (nI j) = _
              rw [k9 _ R, if_pos ⟨q1, q2, q3⟩]
              refine Eq.trans (hm _ (show M 140 c = nI k by rw [e140]; exact h72) rfl) ?_
              rw [if_neg z]
            · obtain ⟨g1, g2, g3, g4, g5, g6, g7, g8, g9, g10, g11, g12, g13, g14⟩ := I
              exact ⟨t, nh, nc, nk, ne, nr, nx, ns, g1.up, g2, g3, g4, g5, g6, g7, g8, GG, g10, g11, g12, g13.up, g14⟩
        · refine agI_no (k := 2) ?_ (by decide) (b := 0) ?_ (inv_no I)
          · unfold f_L_strike
            rw [k8, if_neg ok, rc_thr]
            rfl
          · show f_X9_strike M (nI c) (nI σ) (nI j) = _
            rw [k9 M (Rf.rfl M), if_neg ok]
      · refine agI_no (k := 1) ?_ (by decide) (b := 0) ?_ (inv_no I)
        · unfold f_L_strike f_X8_strike
          rw [c8_Case a3 hc (by omega), rb_ret, c8_Side hσ, rb_ret, n8_Juror hb, rb_thr, rc_thr]
          rfl
        · unfold f_X9_strike
          rw [c9_Case b3 hc (by omega), rb_ret, if_neg i10, w9_Side hσ, rb_ret, if_neg i10, v9_Juror hb, rb_ret, if_pos rfl]
          exact bad9 M
    · refine agI_no (k := 1) ?_ (by decide) (b := 0) ?_ (inv_no I)
      · unfold f_L_strike f_X8_strike
        rw [c8_Case a3 hc (by omega), rb_ret, n8_Side hb, rb_thr, rc_thr]
        rfl
      · unfold f_X9_strike
        rw [c9_Case b3 hc (by omega), rb_ret, if_neg i10, v9_Side hb, rb_ret, if_pos rfl]
        exact bad9 M
  · refine agI_no (k := 1) ?_ (by decide) (b := 0) ?_ (inv_no I)
    · unfold f_L_strike f_X8_strike
      rw [n8_Case a3 hb, rb_thr, rc_thr]
      rfl
    · unfold f_X9_strike
      rw [n9_Case b3 (by omega) hb, rb_ret, if_pos rfl]
      exact bad9 M
