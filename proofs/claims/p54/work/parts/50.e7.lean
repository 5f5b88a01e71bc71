theorem Gclaim.nc {nc nk ne : Nat} {m47 m48 m49 m50 m51 m52 m53 m54 m107 m109 m110 m111 m112 m113 m114 m115 m120 m122 m123 : Nat → Int32} (h : Gclaim nc nk ne m47 m48 m49 m50 m51 m52 m53 m54 m107 m109 m110 m111 m112 m113 m114 m115 m120 m122 m123) : Gclaim (nc + 1) nk ne m47 m48 m49 m50 m51 m52 m53 m54 m107 m109 m110 m111 m112 m113 m114 m115 m120 m122 m123 := by
  obtain ⟨h1, h2, h3⟩ := h
  refine ⟨h1, fun k hk => ?_, h3⟩
  obtain ⟨c, p, q, a, b⟩ := h2 k hk
  exact ⟨c, p, q, by omega, b⟩
theorem Ghear.nc {nc nr : Nat} {m69 m70 m71 m137 m138 m139 : Nat → Int32} (h : Ghear nc nr m69 m70 m71 m137 m138 m139) : Ghear (nc + 1) nr m69 m70 m71 m137 m138 m139 :=
  ⟨h.1, fun r hr => ⟨isIx_mono (h.2 r hr).1 (by omega), (h.2 r hr).2⟩⟩
theorem Gd1.nc {t nc nk ne : Nat} {m55 m56 m57 m58 m59 m61 m62 m120 m121 m122 m123 m124 m130 : Nat → Int32} (h : Gd1 t nc nk ne m55 m56 m57 m58 m59 m61 m62 m120 m121 m122 m123 m124 m130) : Gd1 t (nc + 1) nk ne m55 m56 m57 m58 m59 m61 m62 m120 m121 m122 m123 m124 m130 := by
  obtain ⟨h1, h2, h3⟩ := h
  refine ⟨h1, fun e he => ?_, h3⟩
  obtain ⟨k, d, a, b, c, f, g, i⟩ := h2 e he
  exact ⟨k, d, a, b, c, f, fun hk => isIx_mono (g hk) (by omega), i⟩
theorem e_add8 {M : gM} {nc : Nat} {a : Int32} (h : M 2 0 = nI nc) (h8 : nc < 8) : f_X1_add M a = rRet (nI nc) (gset (gset (gset M 25 nc a) 26 nc (-1)) 2 0 (nI (nc + 1))) := by
  unfold f_X1_add
  rw [h]
  have hc : (nI nc).toNatClampNeg = nc := nI_clamp (by omega)
  simp only [bV, bM, gI_nI h8 (show 8 < 2 ^ 31 by omega), hc]
  show rRet _ (gset _ 2 0 (M 2 0 + 1)) = _
  rw [h, nI_1]
theorem e_new9 {M : gM} {nc : Nat} {a : Int32} (h : M 9 6 = nI nc) (h8 : nc < 8) : f_X9_newCase M a = rRet (nI nc) (gset (gset (gset M 105 nc a) 106 nc (-1)) 9 6 (nI (nc + 1))) := by
  have hc : (nI nc).toNatClampNeg = nc := nI_clamp (by omega)
  unfold f_X9_newCase
  rw [h, gI_nI h8 (by omega), hc]
  show gI (M 9 6) 8 (bM (gset _ 106 (M 9 6).toNatClampNeg (-1)) _) = _
  rw [h, gI_nI h8 (by omega), hc]
  show rRet (upd (M 9) 6 (M 9 6 + 1) 6 - 1) (gset _ 9 6 (M 9 6 + 1)) = _
  rw [h, nI_1]
  show rRet (nI (nc + 1) - 1) _ = _
  rw [nI_pred]
theorem st_open : St_open Inv := by
  intro n M a hn hI
  obtain ⟨t, nh, nc, nk, ne, nr, nx, ns, I⟩ := hI
  obtain ⟨⟨a1, a2, a3, a4, a5, a6, a7, a8⟩, ⟨b1, b2, b3, b4, b5, b6, b7⟩, l1, l2, l3, l4, l5, l6, l7, l8⟩ := I.1
  have h2 : (2 : Int32) = nI 3 - 1 := by decide
  have h3 : (3 : Int32) = nI 3 := by decide
  rcases idx_cases a 3 (by omega) with ⟨i, hi, rfl⟩ | hb
  · by_cases hx : nc < 8
    · have e8 : f_X8_open M (nI i) = rRet (nI nc) (gset (gset (gset M 25 nc (nI i)) 26 nc (-1)) 2 0 (nI (nc + 1))) := by
        unfold f_X8_open
        rw [if_neg (nI_pos (by omega)), h3, if_pos (nI_lt hi (by omega)), a3, show (8 : Int32) = nI 8 from by decide, if_pos (nI_lt hx (by omega)), e_add8 a3 hx, rb_ret]
      refine agI_ok (v := nI nc) (M1 := gset (gset (gset M 25 nc (nI i)) 26 nc (-1)) 2 0 (nI (nc + 1))) (M2 := gset (gset (gset (gset (gset (gset (gset (gset M 25 nc (nI i)) 26 nc (-1)) 2 0 (nI (nc + 1))) 10 0 (nI nc)) 9 0 0) 105 nc (nI i)) 106 nc (-1)) 9 6 (nI (nc + 1))) ?_ ?_ rfl rfl ?_
      · unfold f_L_open
        rw [e8, rc_ret]
      · unfold f_X9_open
        rw [h2, wit_ok hi (by omega), rb_ret, if_neg i10]
        show (if M 9 6 = 8 then _ else _) = _
        rw [b3, if_neg (fun h => by
          have := (nI_eq (a := nc) (b := 8) (by omega) (by omega)).mp (h.trans (by decide))
          omega)]
        unfold f_X9_open_b28
        rw [rf_0, rb_ret, if_pos rfl, e_new9 (h8 := hx), rb_ret]
        exact b3
      · obtain ⟨h1, h2, h3, h4, ⟨⟨c1, c2, c3⟩, c4, c5⟩, h6, h7, h8, h9, h10, h11, h12, h13, h14⟩ := I
        refine ⟨t, nh, nc + 1, nk, ne, nr, nx, ns, ⟨⟨a1, a2, rfl, a4, a5, a6, a7, a8⟩, ⟨b1, b2, rfl, b4, b5, b6, b7⟩, l1, l2, hx, l4, l5, l6, l7, (Nat.le_succ_of_le l8)⟩, h2, h3, h4, ⟨⟨?_, ?_, c3⟩, fun c hc => ?_, c5.1, c5.2.1, fun c hc => c5.2.2 c (by omega)⟩, h6.nc, h7.nc, h8, h9, h10, h11.nc, h12, h13.up, h14⟩
        · show upd (M 105) nc (nI i) = upd (M 25) nc (nI i)
          rw [c1]
        · show upd (M 106) nc (-1) = upd (M 26) nc (-1)
          rw [c2]
        · show upd (M 26) nc (-1) c = -1 ∨ isIx (nc + 1) (upd (M 26) nc (-1) c)
          rw [upd_at]
          by_cases e : c = nc
          · rw [if_pos e]
            exact Or.inl rfl
          · rw [if_neg e]
            exact (c4 c (by omega)).imp id (fun h => isIx_mono h (by omega))
    · have e12 : nc = 8 := by omega
      refine agI_no (k := 2) ?_ (by decide) (b := 0) ?_ (inv_no I)
      · unfold f_L_open f_X8_open
        rw [if_neg (nI_pos (by omega)), h3, if_pos (nI_lt hi (by omega)), a3, e12, if_neg (by decide), rc_thr]
        rfl
      · unfold f_X9_open
        rw [h2, wit_ok hi (by omega), rb_ret, if_neg i10, b3, e12, if_pos (by decide)]
        rfl
  · refine agI_no (k := 1) ?_ (by decide) (b := 0) ?_ (inv_no I)
    · unfold f_L_open f_X8_open
      rcases hb with h | ⟨h, h2⟩
      · rw [if_pos h, rc_thr]
        rfl
      · rw [if_neg h, h3, if_neg h2, rc_thr]
        rfl
    · unfold f_X9_open
      rw [h2, wit_no (by omega) hb, rb_ret]
      rfl
theorem st_certify : St_certify Inv := by
  intro n M a hn hI
  obtain ⟨t, nh, nc, nk, ne, nr, nx, ns, I⟩ := hI
  obtain ⟨⟨a1, a2, a3, a4, a5, a6, a7, a8⟩, ⟨b1, b2, b3, b4, b5, b6, b7⟩, l1, l2, l3, l4, l5, l6, l7, l8⟩ := I.1
  obtain ⟨⟨e109, e110, e111, e112, e113, e114, e115⟩, hp, -⟩ := I.2.2.2.2.2.1
  rcases idx_cases a nk (by omega) with ⟨i, hi, rfl⟩ | hb
  · have hc : (nI i).toNatClampNeg = i := nI_clamp (by omega)
    have hg : ∀ F : gR, gI (nI i) 24 F = F := fun F => gI_nI (by omega) (by omega)
    have no : f_X8_certify M (nI i) = rThr 2 M → f_X9_certify M (nI i) = f_X9_certify_b38 M (nI i) 2 → AgV (f_L_certify M (nI i)) (fun M1 => f_X9_certify M1 (nI i)) (Inv (n + 1)) := by
      intro h8 h9
      refine agV_no (k := 2) ?_ (h9.trans rfl) (inv_no I)
      unfold f_L_certify
      rw [h8, rc_thr]
      rfl
    by_cases h0 : M 54 i = 0
    · by_cases hs : M 51 i = 0
      · obtain ⟨c, p, q, hc9, hp9, hq9, hpq, r1, r2, r3, r4⟩ := hp i hi
        have hv : ∀ w, 16 ≤ w → bt ((1 : Int32) <<< (M 48 i &&& 31)) w = false := by
          intro w hw
          by_cases h32 : w < 32
          · rw [r2, b_one p (by omega) w h32]
            simp only [decide_eq_false_iff_not]
            omega
          · exact b_big (by omega)
        refine agV_ok (M1 := gset M 54 i (1 <<< (M 48 i &&& 31))) (M2 := gset (gset (gset M 54 i (1 <<< (M 48 i &&& 31))) 9 0 0) 115 i (1 <<< (M 48 i &&& 31))) ?_ ?_ rfl ?_
        · unfold f_L_certify f_X8_certify
          rw [c8_Claim a4 hi (by omega), rb_ret, hg, hc, if_pos h0, hg, if_pos hs, hg, hg]
          rfl
        · unfold f_X9_certify
          rw [c9_Claim (M := gset M 54 i (1 <<< (M 48 i &&& 31))) (n := nk) b4 hi (by omega), rb_ret, if_neg i10, hg, hc]
          show (if M 115 i = 0 then gI _ _ (if M 112 i = 0 then _ else _) else _) = _
          rw [e115, e112, if_pos h0, hg, if_pos hs]
          unfold f_X9_certify_b38
          rw [rf_0, rb_ret, if_pos rfl, hg, hg, hc]
          show rRet 0 (gset _ 115 i (1 <<< (M 110 i &&& 31))) = _
          rw [e110]
        · obtain ⟨h1, h2, h3, h4, h5, ⟨k1, k2, k3, k4, k5⟩, h7, h8, h9, h10, h11, h12, h13, h14⟩ := I
          obtain ⟨f1, f2, f3, f4, f5, f6, f7⟩ := k1
          refine ⟨t, nh, nc, nk, ne, nr, nx, ns, h1.up, h2, h3, h4, h5, ⟨⟨f1, f2, f3, f4, f5, f6, ?_⟩, k2, fun k hk => ⟨(k3 k hk).1, ?_⟩, fun k hk => ⟨(k4 k hk).1, (k4 k hk).2.1, ?_⟩, k5⟩, h7, h8, h9, h10, h11, h12, h13.up, h14⟩
          · show upd (M 115) i _ = upd (M 54) i _
            rw [f7]
          · show ∀ w, 16 ≤ w → bt (upd (M 54) i _ k) w = false
            rw [upd_at]
            by_cases e : k = i
            · rw [if_pos e]
              exact hv
            · rw [if_neg e]
              exact (k3 k hk).2
          · show upd (M 54) i _ k = 0
            rw [upd_at, if_neg (by omega)]
            exact (k4 k hk).2.2
      · refine no ?_ ?_
        · unfold f_X8_certify
          rw [c8_Claim a4 hi (by omega), rb_ret, hg, hc, if_pos h0, hg, if_neg hs]
        · unfold f_X9_certify
          rw [c9_Claim b4 hi (by omega), rb_ret, if_neg i10, hg, hc, e115, e112, if_pos h0, hg, if_neg hs]
          rfl
    · refine no ?_ ?_
      · unfold f_X8_certify
        rw [c8_Claim a4 hi (by omega), rb_ret, hg, hc, if_neg h0]
      · unfold f_X9_certify
        rw [c9_Claim b4 hi (by omega), rb_ret, if_neg i10, hg, hc, e115, if_neg h0]
        rfl
  · refine agV_no (k := 1) ?_ ?_ (inv_no I)
    · unfold f_L_certify f_X8_certify
      rw [n8_Claim a4 hb, rb_thr, rc_thr]
      rfl
    · unfold f_X9_certify
      rw [n9_Claim b4 (by omega) hb, rb_ret]
      rfl
