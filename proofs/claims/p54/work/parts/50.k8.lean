/-- what a decision leaves -/
def deS (o : Nat) : Int32 := if o = 0 then 2 else if o = 1 then 1 else 0
theorem Gclaim.am {nc nk ne : Nat} {m47 m48 m49 m50 m51 m52 m53 m54 m107 m109 m110 m111 m112 m113 m114 m115 m120 m122 m123 : Nat → Int32} (h : Gclaim nc nk ne m47 m48 m49 m50 m51 m52 m53 m54 m107 m109 m110 m111 m112 m113 m114 m115 m120 m122 m123) {K A T v a c : Int32} {k : Nat} (hk : k < nk) (hv : isIx 6 v) (hK : K ≠ 10) :
    Gclaim nc nk (ne + 1) m47 m48 m49 (upd m50 k a) (upd m51 k v) (upd m52 k c) m53 m54 m107 m109 m110 m111 (upd m112 k v) (upd m113 k a) (upd m114 k c) m115 (upd m120 ne K) (upd m122 ne A) (upd m123 ne T) :=
  h.ent (by rw [h.1.2.2.2.1]) (by rw [h.1.2.2.2.2.1]) (by rw [h.1.2.2.2.2.2.1]) (fun j hj => isIx_upd hv (h.2.2.1 j hj).1) (fun j hj => ⟨by rw [upd_nx (by omega)]; exact (h.2.2.2.1 j hj).1, (h.2.2.2.1 j hj).2.1⟩) (fun k _ => by rw [if_neg hK])
theorem st_decide : St_decide Inv := by
  intro n M a b c hn hI
  obtain ⟨t, nh, nc, nk, ne, nr, nx, ns, I⟩ := hI
  obtain ⟨⟨a1, a2, a3, a4, a5, a6, a7, a8⟩, ⟨b1, b2, b3, b4, b5, b6, b7⟩, l1, l2, l3, l4, l5, l6, l7, l8⟩ := I.1
  have gr := I.2.2.1.2.2
  have e104 : M 104 = M 14 := I.2.2.1.2.1
  have e103 : M 103 = M 13 := I.2.2.1.1
  have e112 : M 112 = M 51 := I.2.2.2.2.2.1.1.2.2.2.1
  have e113 : M 113 = M 50 := I.2.2.2.2.2.1.1.2.2.2.2.1
  obtain ⟨⟨x, x1, x2, x3⟩, -⟩ := gr 2 (by omega)
  have i2 : (2 : Int32) = nI 3 - 1 := by decide
  have i2' : (2 : Int32) = nI 2 := by decide
  rcases idx_cases a nk (by omega) with ⟨k, hk, rfl⟩ | hb
  · have hg24 : ∀ F : gR, gI (nI k) 24 F = F := fun F => gI_nI (by omega) (by omega)
    have hck : (nI k).toNatClampNeg = k := nI_clamp (by omega)
    have unfair : f_X8_decide M (nI k) b c = rThr 1 M → f_X9_decide M (nI k) b c = f_X9_decide_b44 M (nI k) b c 1 → AgI (f_L_decide M (nI k) b c) (fun M1 => f_X9_decide M1 (nI k) b c) (Inv (n + 1)) := by
      intro h8 h9
      refine agI_no (k := 2) ?_ (by decide) (b := 0) ?_ (inv_no I)
      · unfold f_L_decide
        rw [h8, rc_thr]
        rfl
      · show f_X9_decide M (nI k) b c = _
        rw [h9]
        have e105 : f_X9_decide_b105 M (nI k) b c 2 = rRet 0 (gset M 9 0 2) := by
          unfold f_X9_decide_b105
          rw [rf_2, rb_ret, if_neg i10]
        unfold f_X9_decide_b44 f_X9_decide_b45 f_X9_decide_b73 f_X9_decide_b74
        rw [if_neg i10, e_room b5 (by omega), rb_ret, hg24]
        rw [if_neg i10, if_pos rfl, e105, if_neg i10, if_pos rfl, ite_self, ite_self]
    rcases idx_cases b 3 (by omega) with ⟨o, ho, rfl⟩ | hb
    · have w9 : ∀ M', f_X9_within M' (nI o) 0 2 = rRet 1 M' := by
        intro M'
        rw [i2]
        exact wit_ok ho (by omega)
      have o2 : nI o = 2 ↔ o = 2 := by
        rw [i2']
        exact nI_eq (by omega) (by omega)
      by_cases fair : o = 2 → ¬ (c < 0) ∧ c ≤ M 50 k
      · have k8 : f_X8_decide M (nI k) (nI o) c = if M 51 k = 3 then f_X8_decide_b77 M (nI k) (nI o) c 1 else f_X8_decide_b77 M (nI k) (nI o) c 0 := by
          unfold f_X8_decide f_X8_decide_b58
          rw [c8_Claim a4 hk (by omega), rb_ret, if_neg (nI_pos (by omega)), if_pos (show nI o ≤ 2 by rw [i2']; exact nI_le (by omega) (by omega)), hg24, hg24, hck]
          by_cases q : o = 2
          · rw [if_pos (o2.mpr q), if_neg (fair q).1, if_pos (fair q).2]
          · rw [if_neg (fun h => q (o2.mp h))]
        have k9 : ∀ M', Rf M' M → f_X9_decide M' (nI k) (nI o) c = if ne < 160 then (if M 51 k = 3 then f_X9_decide_b105 M' (nI k) (nI o) c 0 else f_X9_decide_b105 M' (nI k) (nI o) c 3) else f_X9_decide_b105 M' (nI k) (nI o) c 3 := by
          intro M' R
          have k40 : f_X9_decide M' (nI k) (nI o) c = f_X9_decide_b40 M' (nI k) (nI o) c 1 := by
            unfold f_X9_decide
            rw [c9_Claim ((R.1 11 (by omega)).trans b4) hk (by omega), rb_ret, if_neg i10, w9, rb_ret, if_neg i10, hg24, hck, R.2 113 (by omega), e113, wit_eq, rb_ret]
            by_cases q : o = 2
            · rw [if_neg (show ¬ nI o < 2 by rw [i2']; exact nI_nlt (by omega) (by omega)), if_neg (c := c < 0) (fair q).1, if_neg (c := M 50 k < c) (Int32.not_lt.mpr (fair q).2), if_neg i10]
            · rw [if_pos (show nI o < 2 by rw [i2']; exact nI_lt (by omega) (by omega))]
          rw [k40]
          unfold f_X9_decide_b40 f_X9_decide_b45 f_X9_decide_b73 f_X9_decide_b74
          rw [if_neg i10, e_room ((R.1 23 (by omega)).trans b5) (by omega), rb_ret, hg24, hck, R.2 112 (by omega), e112]
          by_cases c0 : ne < 160
          · rw [if_pos c0, if_neg i10, if_pos c0, if_neg i10, if_neg i10, if_neg i10, if_neg i10, if_neg i10, if_pos rfl]
          · rw [if_neg c0, if_pos rfl, if_neg c0, if_neg i10, if_neg i10, if_pos rfl]
        have no : (ne < 160 → ¬ M 51 k = 3) → AgI (f_L_decide M (nI k) (nI o) c) (fun M1 => f_X9_decide M1 (nI k) (nI o) c) (Inv (n + 1)) := by
          intro h
          refine agI_no (k := 3) ?_ (by decide) (b := 0) ?_ (inv_no I)
          · have : f_X8_decide M (nI k) (nI o) c = rThr 2 M := by
              rw [k8]
              unfold f_X8_decide_b77
              by_cases q : ne < 160
              · rw [if_neg (h q), e_allow0, rb_thr]
              · rw [e_allowF a5 q (by omega), e_allowF a5 q (by omega), rb_thr, ite_self]
            unfold f_L_decide
            rw [this, rc_thr]
            rfl
          · show f_X9_decide M (nI k) (nI o) c = _
            have : f_X9_decide M (nI k) (nI o) c = f_X9_decide_b105 M (nI k) (nI o) c 3 := by
              rw [k9 M (Rf.rfl M)]
              by_cases q : ne < 160
              · rw [if_pos q, if_neg (h q)]
              · rw [if_neg q]
            rw [this]
            unfold f_X9_decide_b105
            rw [rf_3, rb_ret, if_neg i10]
        by_cases c0 : ne < 160
        · by_cases h51 : M 51 k = 3
          · obtain ⟨j, j1, j2, j3, j4, j5, j6, -⟩ := lv_J I hk (Or.inr h51)
            have hz2 : z01 (M 104 2) := by rw [e104]; exact (gr 2 (by omega)).2
            have rfch : ∀ N, Rf N M → ∀ (q v : Int32), Rf (gset (gset (gset (gset (gset (gset (gset (gset (gset (gset N 55 ne 8) 56 ne (nI t)) 57 ne (nI k)) 65 ne (-1)) 4 0 (nI (ne + 1))) 58 ne (nI o)) 59 ne q) 63 ne (M 13 2)) 64 ne (M 14 2)) 51 k v) M := by
              intro N hN q v
              exact (((((((((hN.s (by omega) (by omega) _ _).s (by omega) (by omega) _ _).s (by omega) (by omega) _ _).s (by omega) (by omega) _ _).s (by omega) (by omega) _ _).s (by omega) (by omega) _ _).s (by omega) (by omega) _ _).s (by omega) (by omega) _ _).s (by omega) (by omega) _ _).s (by omega) (by omega) _ _
            by_cases q : o = 2
            · subst q
              have fr := fair rfl
              refine agI_ok (v := nI ne) (M1 := gset (gset (gset (gset (gset (en8 M ne t 8 (nI k) (nI 2) c) 63 ne (M 13 2)) 64 ne (M 14 2)) 51 k 0) 52 k c) 50 k (M 60 j)) (M2 := gset (gset (gset (gset (gset (gset (gset (en9 (gset (gset (gset (gset (gset (gset (gset (en8 M ne t 8 (nI k) (nI 2) c) 63 ne (M 13 2)) 64 ne (M 14 2)) 51 k 0) 52 k c) 50 k (M 60 j)) 10 0 (nI ne)) 9 0 0) ne t 8 (nI k) (nI 2) c 2) 127 ne (M 112 k)) 128 ne (M 113 k)) 129 ne (M 114 k)) 9 23 (nI (ne + 1))) 112 k 0) 114 k c) 113 k (M 60 j)) ?_ ?_ rfl rfl ?_
              · unfold f_L_decide
                rw [k8, if_pos h51]
                unfold f_X8_decide_b77
                rw [e_allow a5 c0, rb_ret, e_last8 a5 l5, rb_ret, if_pos (o2.mpr rfl)]
                unfold f_X8_decide_b106
                rw [e_en8r (r := 2) a5 a1 c0 _ _ _ (by decide) (by decide) (fun N => rfl) (by omega) (gr 2 (by omega)).2, rb_ret]
                show rc (rb (rRet 0 _) _) _ _ = _
                rw [rb_ret, hg24, hck, j5]
                simp only [bM]
                rw [if_pos (o2.mpr rfl), hg24, if_neg (m1_ne (by omega)), gI_nI (show j < 160 by omega) (by omega), hg24, nI_clamp (show j < 2 ^ 31 by omega)]
                rfl
              · have R : Rf (gset (gset (gset (gset (gset (gset (en8 M ne t 8 (nI k) (nI 2) c) 63 ne (M 13 2)) 64 ne (M 14 2)) 51 k 0) 52 k c) 50 k (M 60 j)) 10 0 (nI ne)) M := (((rfch M (Rf.rfl M) c 0).s (by omega) (by omega) _ _).s (by omega) (by omega) _ _).o _
                show f_X9_decide _ (nI k) (nI 2) c = _
                rw [k9 _ R, if_pos c0, if_pos h51]
                unfold f_X9_decide_b105
                rw [rf_0, rb_ret, if_pos rfl, e_last9 I (R.r 0), rb_ret, if_pos (o2.mpr rfl), j6]
                unfold f_X9_decide_b136
                rw [e_en9 (K := 8) (M := gset (gset (gset (gset (gset (gset (gset (en8 M ne t 8 (nI k) (nI 2) c) 63 ne (M 13 2)) 64 ne (M 14 2)) 51 k 0) 52 k c) 50 k (M 60 j)) 10 0 (nI ne)) 9 0 0) b5 b1 c0 (show k < 24 by omega) _ _ (by decide) hz2, rb_ret, if_neg (show ¬ nI 2 = 0 by decide), if_neg (show ¬ nI 2 = 1 by decide)]
                unfold f_X9_decide_b164
                rw [hg24, hck]
                simp only [bM]
                rw [if_pos (o2.mpr rfl), hg24]
                rw [gI_nI (show j < 160 by omega) (by omega), hg24, nI_clamp (show j < 2 ^ 31 by omega)]
                show rRet (nI ne) (gset _ 113 k (upd (M 128) ne (M 113 k) j)) = _
                rw [upd_lt j1, (I.2.2.2.2.2.2.2.2.2.2.2.2.2.2.2.1 j j1 (Or.inr j2)).2]
                rfl
              · have z6 := I.z61
                obtain ⟨g1, g2, g3, g4, g5, g6, g7, g8, g9, g10, g11, g12, g13, g14⟩ := I
                exact ⟨t, nh, nc, nk, ne + 1, nr, nx, ns, ⟨⟨a1, a2, a3, a4, rfl, a6, a7, a8⟩, ⟨b1, b2, b3, b4, rfl, b6, b7⟩, l1, l2, l3, l4, c0, l6, l7, (Nat.le_succ_of_le l8)⟩, g2, g3, g4.add (by decide), g5, g6.am hk ⟨0, by omega, rfl⟩ (by decide), g7, g8, g9, g10,
                  g11.ent (by omega) ⟨8, by omega, rfl, fun h => absurd h (by omega), fun _ => ⟨k, hk, rfl⟩⟩ (fun h => absurd h (by decide)) (fun h => absurd h (by decide)) (fun h => absurd h (by decide)) (fun _ => rfl) (fun h => absurd h (by decide)) (fun _ => rfl) (fun h => absurd h (by decide)) g11.1.2.2.2.2.2,
                  g12.ent _, g13.ent (m63' := upd (M 63) ne (M 13 2)) (m64' := upd (M 64) ne (M 14 2)) (R := M 103 2) (W := M 104 2) (by omega) (fun e he => upd_lt he) (fun e he => upd_lt he) (fun e => z01_upd (gr 2 (by omega)).2 (g13.2.1 e).1) hz2 (fun _ => ⟨⟨x, x1, by omega, by rw [upd_eq]; exact x3⟩, by rw [upd_eq, e104]⟩) (fun h => absurd h (by decide)) (fun h => absurd h (by decide)) (fun _ => by rw [upd_eq, e103]) z6,
                  g14.ent (m50' := upd (M 50) k (M 60 j)) (m51' := upd (M 51) k 0) (m52' := upd (M 52) k c) (m53' := M 53) (m60' := M 60) (m61' := M 61) (c := k) (by omega) l4 hk rfl (fun j hj => ⟨upd_nx hj, upd_nx hj, upd_nx hj, rfl⟩) ⟨upd_eq.symm, (g14.1 k (by omega)).2⟩ (fun _ _ _ => rfl) (fun w => by rw [upd_eq] at w; exact absurd w (by decide)) (fun e he => ⟨rfl, upd_lt he, upd_lt he, upd_lt he⟩) (fun w => absurd w (by decide)) (fun w => absurd rfl w)⟩
            · have o01 : (o = 0 ∧ deS o = 2) ∨ (o = 1 ∧ deS o = 1) := by
                have : o = 0 ∨ o = 1 := by omega
                rcases this with h | h
                · subst h; exact Or.inl ⟨rfl, rfl⟩
                · subst h; exact Or.inr ⟨rfl, rfl⟩
              have o2' : ¬ nI o = 2 := fun h => q (o2.mp h)
              refine agI_ok (v := nI ne) (M1 := gset (gset (gset (en8 M ne t 8 (nI k) (nI o) 0) 63 ne (M 13 2)) 64 ne (M 14 2)) 51 k (deS o)) (M2 := gset (gset (gset (gset (gset (en9 (gset (gset (gset (gset (gset (en8 M ne t 8 (nI k) (nI o) 0) 63 ne (M 13 2)) 64 ne (M 14 2)) 51 k (deS o)) 10 0 (nI ne)) 9 0 0) ne t 8 (nI k) (nI o) 0 2) 127 ne (M 112 k)) 128 ne (M 113 k)) 129 ne (M 114 k)) 9 23 (nI (ne + 1))) 112 k (deS o)) ?_ ?_ rfl rfl ?_
              · have sd : ∀ N, f_X8_stateByDecision N (nI o) = rRet (deS o) N := by
                  intro N
                  unfold f_X8_stateByDecision
                  rcases o01 with ⟨h, h2⟩ | ⟨h, h2⟩
                  · rw [h]; rfl
                  · rw [h]; rfl
                unfold f_L_decide
                rw [k8, if_pos h51]
                unfold f_X8_decide_b77
                rw [e_allow a5 c0, rb_ret, e_last8 a5 l5, rb_ret, if_neg o2']
                unfold f_X8_decide_b106
                rw [e_en8r (r := 2) a5 a1 c0 _ _ _ (by decide) (by decide) (fun N => rfl) (by omega) (gr 2 (by omega)).2, rb_ret, sd, rb_ret, hg24, hck]
                simp only [bM]
                rw [if_neg o2', rc_ret]
              · have R : Rf (gset (gset (gset (gset (en8 M ne t 8 (nI k) (nI o) 0) 63 ne (M 13 2)) 64 ne (M 14 2)) 51 k (deS o)) 10 0 (nI ne)) M := (rfch M (Rf.rfl M) 0 (deS o)).o _
                show f_X9_decide _ (nI k) (nI o) c = _
                rw [k9 _ R, if_pos c0, if_pos h51]
                unfold f_X9_decide_b105
                rw [rf_0, rb_ret, if_pos rfl, e_last9 I (R.r 0), rb_ret, if_neg o2', j6]
                unfold f_X9_decide_b136
                rw [e_en9 (K := 8) (M := gset (gset (gset (gset (gset (en8 M ne t 8 (nI k) (nI o) 0) 63 ne (M 13 2)) 64 ne (M 14 2)) 51 k (deS o)) 10 0 (nI ne)) 9 0 0) b5 b1 c0 (show k < 24 by omega) _ _ (by decide) hz2, rb_ret]
                unfold f_X9_decide_b164
                rw [hg24, hg24, hg24, hck]
                simp only [bM]
                rw [if_neg o2', if_neg o2', if_neg o2']
                rcases o01 with ⟨h, h2⟩ | ⟨h, h2⟩
                · subst h
                  rw [if_pos (show nI 0 = 0 by decide)]
                  rfl
                · subst h
                  rw [if_neg (show ¬ nI 1 = 0 by decide), if_pos (show nI 1 = 1 by decide)]
                  rfl
              · have z6 := I.z61
                have hde : isIx 6 (deS o) := by
                  rcases o01 with ⟨h, h2⟩ | ⟨h, h2⟩
                  · rw [h2]; exact ⟨2, by omega, rfl⟩
                  · rw [h2]; exact ⟨1, by omega, rfl⟩
                obtain ⟨g1, g2, g3, g4, g5, g6, g7, g8, g9, g10, g11, g12, g13, g14⟩ := I
                exact ⟨t, nh, nc, nk, ne + 1, nr, nx, ns, ⟨⟨a1, a2, a3, a4, rfl, a6, a7, a8⟩, ⟨b1, b2, b3, b4, rfl, b6, b7⟩, l1, l2, l3, l4, c0, l6, l7, (Nat.le_succ_of_le l8)⟩, g2, g3, g4.add (by decide), g5, g6.st hk hde (by decide), g7, g8, g9, g10,
                  g11.ent (by omega) ⟨8, by omega, rfl, fun h => absurd h (by omega), fun _ => ⟨k, hk, rfl⟩⟩ (fun h => absurd h (by decide)) (fun h => absurd h (by decide)) (fun h => absurd h (by decide)) (fun _ => rfl) (fun h => absurd h (by decide)) (fun _ => rfl) (fun h => absurd h (by decide)) g11.1.2.2.2.2.2,
                  g12.ent _, g13.ent (m63' := upd (M 63) ne (M 13 2)) (m64' := upd (M 64) ne (M 14 2)) (R := M 103 2) (W := M 104 2) (by omega) (fun e he => upd_lt he) (fun e he => upd_lt he) (fun e => z01_upd (gr 2 (by omega)).2 (g13.2.1 e).1) hz2 (fun _ => ⟨⟨x, x1, by omega, by rw [upd_eq]; exact x3⟩, by rw [upd_eq, e104]⟩) (fun h => absurd h (by decide)) (fun h => absurd h (by decide)) (fun _ => by rw [upd_eq, e103]) z6,
                  g14.ent (m50' := M 50) (m51' := upd (M 51) k (deS o)) (m52' := M 52) (m53' := M 53) (m60' := M 60) (m61' := M 61) (c := k) (by omega) l4 hk rfl (fun j hj => ⟨rfl, upd_nx hj, rfl, rfl⟩) ⟨by
                    rw [upd_eq]
                    rcases o01 with ⟨h, h2⟩ | ⟨h, h2⟩
                    · subst h; rfl
                    · subst h; rfl, (g14.1 k (by omega)).2⟩ (fun _ _ _ => rfl) (fun _ => Or.inl ⟨Or.inr h51, by decide, rfl, fun _ _ => rfl⟩) (fun e he => ⟨rfl, upd_lt he, upd_lt he, upd_lt he⟩) (fun w => absurd w (by decide)) (fun _ => rfl)⟩
          · exact no (fun _ => h51)
        · exact no (fun h => absurd h c0)
      · have q : o = 2 := by
          by_cases q : o = 2
          · exact q
          · exact absurd (fun h => absurd h q) fair
        have nf : ¬ (¬ (c < 0) ∧ c ≤ M 50 k) := fun h => fair (fun _ => h)
        refine unfair ?_ ?_
        · unfold f_X8_decide
          rw [c8_Claim a4 hk (by omega), rb_ret, if_neg (nI_pos (by omega)), if_pos (show nI o ≤ 2 by rw [i2']; exact nI_le (by omega) (by omega)), if_pos (o2.mpr q), hg24, hck]
          by_cases h : c < 0
          · rw [if_pos h]
          · rw [if_neg h, if_neg (fun h2 => nf ⟨h, h2⟩)]
        · unfold f_X9_decide
          rw [c9_Claim b4 hk (by omega), rb_ret, if_neg i10, w9, rb_ret, if_neg i10, hg24, hck, e113, wit_eq, rb_ret, if_neg (show ¬ nI o < 2 by rw [i2']; exact nI_nlt (by omega) (by omega))]
          by_cases h : c < 0
          · rw [if_pos (c := c < 0) h, if_pos rfl]
          · have : M 50 k < c := Int32.not_le.mp (fun h2 => nf ⟨h, h2⟩)
            rw [if_neg (c := c < 0) h, if_pos (c := M 50 k < c) this, if_pos rfl]
    · refine unfair ?_ ?_
      · unfold f_X8_decide
        rw [c8_Claim a4 hk (by omega), rb_ret]
        rcases hb with h | ⟨h, h2⟩
        · rw [if_pos h]
        · have : ¬ b ≤ 2 := by
            intro h3
            exact h2 (Int32.lt_of_le_of_lt h3 (by decide))
          rw [if_neg h, if_neg this]
      · unfold f_X9_decide
        have : f_X9_within M b 0 2 = rRet 0 M := by
          rw [i2]
          exact wit_no (by omega) hb
        rw [c9_Claim b4 hk (by omega), rb_ret, if_neg i10, this, rb_ret, if_pos rfl]
  · refine agI_no (k := 1) ?_ (by decide) (b := 0) ?_ (inv_no I)
    · unfold f_L_decide f_X8_decide
      rw [n8_Claim a4 hb, rb_thr, rc_thr]
      rfl
    · unfold f_X9_decide
      rw [n9_Claim b4 (by omega) hb, rb_ret, if_pos rfl]
      unfold f_X9_decide_b44 f_X9_decide_b45 f_X9_decide_b73 f_X9_decide_b74 f_X9_decide_b105
      rw [if_pos rfl, if_pos rfl, rf_1, rb_ret, if_neg i10]
