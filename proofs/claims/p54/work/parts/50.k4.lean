theorem w3_cases {w : Nat} (h : w < 3) : (w = 0 ∧ gWays w = 0) ∨ (w = 1 ∧ gWays w = 3) ∨ (w = 2 ∧ gWays w = 7) := by
  match w, h with
  | 0, _ => exact Or.inl ⟨rfl, rfl⟩
  | 1, _ => exact Or.inr (Or.inl ⟨rfl, rfl⟩)
  | 2, _ => exact Or.inr (Or.inr ⟨rfl, rfl⟩)
  | n + 3, h => omega
def seB (M : gM) (ne k : Nat) : Bool := decide (M 51 k = 0) && decide (lsV M ne 0 (nI k) = -1)
theorem ls_none {M : gM} {ne : Nat} {K k : Int32} (hne : ne < 1000) (h : lsV M ne K k = -1) : ∀ s, s < ne → M 55 s = K → M 57 s ≠ k := by
  intro s h1 h2 h3
  rcases lastP_cases (fun e => decide (M 55 e = K) && decide (M 57 e = k)) ne with ⟨-, w⟩ | ⟨e, w1, w2, -⟩
  · have w := w s h1
    rw [decide_eq_true h2, decide_eq_true h3] at w
    cases w
  · exact m1_ne (by omega) (w2.symm.trans h)
theorem st_serve : St_serve Inv := by
  intro n M a b hn hI
  obtain ⟨t, nh, nc, nk, ne, nr, nx, ns, I⟩ := hI
  obtain ⟨⟨a1, a2, a3, a4, a5, a6, a7, a8⟩, ⟨b1, b2, b3, b4, b5, b6, b7⟩, l1, l2, l3, l4, l5, l6, l7, l8⟩ := I.1
  have gr := I.2.2.1.2.2
  have e104 : M 104 = M 14 := I.2.2.1.2.1
  have e103 : M 103 = M 13 := I.2.2.1.1
  have e112 : M 112 = M 51 := I.2.2.2.2.2.1.1.2.2.2.1
  obtain ⟨⟨x, x1, x2, x3⟩, -⟩ := gr 0 (by omega)
  have i2 : (2 : Int32) = nI 3 - 1 := by decide
  have i3 : (3 : Int32) = nI 3 := by decide
  rcases idx_cases a nk (by omega) with ⟨k, hk, rfl⟩ | hb
  · have hg24 : ∀ F : gR, gI (nI k) 24 F = F := fun F => gI_nI (by omega) (by omega)
    have hck : (nI k).toNatClampNeg = k := nI_clamp (by omega)
    rcases idx_cases b 3 (by omega) with ⟨w, hw, rfl⟩ | hb
    · have k8 : f_X8_serve M (nI k) (nI w) = if seB M ne k then f_X8_serve_b50 M (nI k) (nI w) 1 else f_X8_serve_b50 M (nI k) (nI w) 0 := by
        unfold f_X8_serve f_X8_serve_b49 seB
        rw [c8_Claim a4 hk (by omega), rb_ret, if_neg (nI_pos (by omega)), i3, if_pos (nI_lt hw (by omega)), hg24, hck, e_served a5 l5, rb_ret]
        by_cases c1 : M 51 k = 0
        · rw [if_pos c1, decide_eq_true c1]
          by_cases c2 : lsV M ne 0 (nI k) = -1
          · rw [if_pos c2, if_pos rfl, decide_eq_true c2]; rfl
          · rw [if_neg c2, if_neg i10, decide_eq_false c2]; rfl
        · rw [if_neg c1, decide_eq_false c1]; rfl
      have k9 : ∀ M', Rf M' M → f_X9_serve M' (nI k) (nI w) = if ne < 160 then (if seB M ne k then f_X9_serve_b79 M' (nI k) (nI w) 0 else f_X9_serve_b79 M' (nI k) (nI w) 2) else f_X9_serve_b79 M' (nI k) (nI w) 2 := by
        intro M' R
        unfold f_X9_serve
        rw [c9_Claim ((R.1 11 (by omega)).trans b4) hk (by omega), rb_ret, if_neg i10, show f_X9_within M' (nI w) 0 2 = rRet 1 M' from by rw [i2]; exact wit_ok hw (by omega), rb_ret, if_neg i10]
        unfold f_X9_serve_b22 f_X9_serve_b57 f_X9_serve_b58 seB
        rw [if_neg i10, e_room ((R.1 23 (by omega)).trans b5) (by omega), rb_ret, hg24, hck, R.2 112 (by omega), e112, e_last9 I R, lv_ls I (by decide) (by decide), rb_ret]
        by_cases c0 : ne < 160
        · rw [if_pos c0, if_neg i10, if_pos c0]
          by_cases c1 : M 51 k = 0
          · rw [if_pos c1, decide_eq_true c1]
            by_cases c2 : lsV M ne 0 (nI k) = -1
            · rw [if_pos c2, decide_eq_true c2]; rfl
            · rw [if_neg c2, decide_eq_false c2]; rfl
          · rw [if_neg c1, decide_eq_false c1]; rfl
        · rw [if_neg c0, if_pos rfl, if_neg c0, if_neg i10, if_pos rfl]
      have no : (ne < 160 → seB M ne k = false) → AgI (f_L_serve M (nI k) (nI w)) (fun M1 => f_X9_serve M1 (nI k) (nI w)) (Inv (n + 1)) := by
        intro h
        refine agI_no (k := 2) ?_ (by decide) (b := 0) ?_ (inv_no I)
        · have : f_X8_serve M (nI k) (nI w) = rThr 2 M := by
            rw [k8]
            unfold f_X8_serve_b50
            by_cases c : ne < 160
            · rw [h c, if_neg (by decide), e_allow0, rb_thr]
            · rw [e_allowF a5 c (by omega), e_allowF a5 c (by omega), rb_thr, ite_self]
          unfold f_L_serve
          rw [this, rc_thr]
          rfl
        · show f_X9_serve M (nI k) (nI w) = _
          have : f_X9_serve M (nI k) (nI w) = f_X9_serve_b79 M (nI k) (nI w) 2 := by
            rw [k9 M (Rf.rfl M)]
            by_cases c : ne < 160
            · rw [if_pos c, h c]; rfl
            · rw [if_neg c]
          rw [this]
          unfold f_X9_serve_b79
          rw [rf_2, rb_ret, if_neg i10]
      by_cases c0 : ne < 160
      · cases cc : seB M ne k with
        | false => exact no (fun _ => cc)
        | true =>
          have ⟨h51, hls⟩ : M 51 k = 0 ∧ lsV M ne 0 (nI k) = -1 := by
            unfold seB at cc
            rw [Bool.and_eq_true] at cc
            exact ⟨of_decide_eq_true cc.1, of_decide_eq_true cc.2⟩
          refine agI_ok (v := nI ne) (M1 := gset (gset (gset (en8 M ne t 0 (nI k) (nI w) 0) 63 ne (M 13 0)) 64 ne (M 14 0)) 63 ne (M 13 0 + gWays w)) (M2 := gset (gset (gset (gset (en9 (gset (gset (gset (gset (gset (en8 M ne t 0 (nI k) (nI w) 0) 63 ne (M 13 0)) 64 ne (M 14 0)) 63 ne (M 13 0 + gWays w)) 10 0 (nI ne)) 9 0 0) ne t 0 (nI k) (nI w) 0 0) 127 ne (M 112 k)) 128 ne (M 113 k)) 129 ne (M 114 k)) 9 23 (nI (ne + 1))) ?_ ?_ rfl rfl ?_
          · unfold f_L_serve
            rw [k8, cc, if_pos rfl]
            unfold f_X8_serve_b50
            rw [e_allow a5 c0, rb_ret, e_en8r (r := 0) a5 a1 c0 _ _ _ (by decide) (by decide) (fun N => rfl) (by omega) (gr 0 (by omega)).2, rb_ret, gI_nI c0 (by omega), gI_nI hw (by omega), gI_nI c0 (by omega), nI_clamp (show ne < 2 ^ 31 by omega), nI_clamp (show w < 2 ^ 31 by omega)]
            show rc (rRet (nI ne) (gset _ 63 ne (upd (M 63) ne (M 13 0) ne + gWays w))) _ _ = _
            rw [upd_eq, rc_ret]
          · have R : Rf (gset (gset (gset (gset (en8 M ne t 0 (nI k) (nI w) 0) 63 ne (M 13 0)) 64 ne (M 14 0)) 63 ne (M 13 0 + gWays w)) 10 0 (nI ne)) M := (((((((((((Rf.rfl M).s (by omega) (by omega) _ _).s (by omega) (by omega) _ _).s (by omega) (by omega) _ _).s (by omega) (by omega) _ _).s (by omega) (by omega) _ _).s (by omega) (by omega) _ _).s (by omega) (by omega) _ _).s (by omega) (by omega) _ _).s (by omega) (by omega) _ _).s (by omega) (by omega) _ _).o _
            show f_X9_serve _ (nI k) (nI w) = _
            rw [k9 _ R, if_pos c0, cc, if_pos rfl]
            unfold f_X9_serve_b79
            rw [rf_0, rb_ret, if_pos rfl, e_en9 (K := 0) (M := gset (gset (gset (gset (gset (en8 M ne t 0 (nI k) (nI w) 0) 63 ne (M 13 0)) 64 ne (M 14 0)) 63 ne (M 13 0 + gWays w)) 10 0 (nI ne)) 9 0 0) b5 b1 c0 (show k < 24 by omega) _ _ (by decide) (show z01 (M 104 0) by rw [e104]; exact (gr 0 (by omega)).2), rb_ret]
            rfl
          · have z6 := I.z61
            obtain ⟨g1, g2, g3, g4, g5, g6, g7, g8, g9, g10, g11, g12, g13, g14⟩ := I
            exact ⟨t, nh, nc, nk, ne + 1, nr, nx, ns, ⟨⟨a1, a2, a3, a4, rfl, a6, a7, a8⟩, ⟨b1, b2, b3, b4, rfl, b6, b7⟩, l1, l2, l3, l4, c0, l6, l7, (Nat.le_succ_of_le l8)⟩, g2, g3, g4.add (by decide), g5, g6.ent0 (by decide), g7, g8, g9, g10,
              g11.ent (by omega) ⟨0, by omega, rfl, fun h => absurd h (by omega), fun _ => ⟨k, hk, rfl⟩⟩ (fun _ => ⟨⟨w, hw, rfl⟩, ls_none (by omega) hls⟩) (fun h => absurd h (by decide)) (fun h => absurd h (by decide)) (fun _ => rfl) (fun h => absurd h (by decide)) (fun _ => rfl) (fun h => absurd h (by decide)) g11.1.2.2.2.2.2,
              g12.ent _, g13.ent (m63' := upd (upd (M 63) ne (M 13 0)) ne (M 13 0 + gWays w)) (m64' := upd (M 64) ne (M 14 0)) (R := M 103 0) (W := M 104 0) (by omega) (fun e he => by rw [upd_lt he, upd_lt he]) (fun e he => upd_lt he) (fun e => z01_upd (gr 0 (by omega)).2 (g13.2.1 e).1) (show z01 (M 104 0) by rw [e104]; exact (gr 0 (by omega)).2) (fun _ => ⟨by
                rw [upd_eq, x3]
                rcases w3_cases hw with ⟨-, q⟩ | ⟨-, q⟩ | ⟨-, q⟩
                · rw [q]; exact ⟨x, x1, by omega, Int32.add_zero _⟩
                · rw [q]; exact ⟨x + 3, by omega, by omega, nI_add x 3⟩
                · rw [q]; exact ⟨x + 7, by omega, by omega, nI_add x 7⟩, by rw [upd_eq, e104]⟩) (fun h => absurd h (by decide)) (fun _ => by
                rw [upd_eq, e103, if_pos rfl]
                rcases w3_cases hw with ⟨p, q⟩ | ⟨p, q⟩ | ⟨p, q⟩
                · rw [q, p]; rfl
                · rw [q, p]; rfl
                · rw [q, p]; rfl) (fun h => absurd h (by decide)) z6,
              g14.keep (by omega) l4 hk rfl (Or.inl rfl)⟩
      · exact no (fun h => absurd h c0)
    · refine agI_no (k := 1) ?_ (by decide) (b := 0) ?_ (inv_no I)
      · unfold f_L_serve f_X8_serve
        rw [c8_Claim a4 hk (by omega), rb_ret]
        rcases hb with h | ⟨h, h2⟩
        · rw [if_pos h, rc_thr]
          rfl
        · rw [if_neg h, i3, if_neg h2, rc_thr]
          rfl
      · unfold f_X9_serve
        rw [c9_Claim b4 hk (by omega), rb_ret, if_neg i10, i2, wit_no (by omega) hb, rb_ret, if_pos rfl]
        unfold f_X9_serve_b21 f_X9_serve_b22 f_X9_serve_b57 f_X9_serve_b58 f_X9_serve_b79
        rw [if_pos rfl, if_pos rfl, rf_1, rb_ret, if_neg i10]
  · refine agI_no (k := 1) ?_ (by decide) (b := 0) ?_ (inv_no I)
    · unfold f_L_serve f_X8_serve
      rw [n8_Claim a4 hb, rb_thr, rc_thr]
      rfl
    · unfold f_X9_serve
      rw [n9_Claim b4 (by omega) hb, rb_ret, if_pos rfl]
      unfold f_X9_serve_b21 f_X9_serve_b22 f_X9_serve_b57 f_X9_serve_b58 f_X9_serve_b79
      rw [if_pos rfl, if_pos rfl, rf_1, rb_ret, if_neg i10]
