theorem e_last9r {M : gM} {ne : Nat} (h23 : M 9 23 = nI ne) (h5 : ne ≤ 160) (K k : Int32) : f_X9_latest M k K = rRet (lastP (fun e => decide (M 120 e = K) && decide (M 122 e = k) && decide (M 130 e = 0)) ne) M := by
  have q := lp_fd0 (L := fun f s i => f_X9_latest_l5 f M k K s i) (st := fun e s => if (decide (M 120 e = K) && decide (M 122 e = k) && decide (M 130 e = 0)) then nI e else s) (s0 := -1) (F := fun s => rRet s M) (n := ne) ?_ ?_ (by omega)
  · show f_X9_latest_l5 5000 M k K (-1) 0 = _
    refine Eq.trans q ?_
    show rRet (fold (fun e s => if (decide (M 120 e = K) && decide (M 122 e = k) && decide (M 130 e = 0)) then nI e else s) (-1) ne) M = _
    rw [fold_last1 (p := fun e => decide (M 120 e = K) && decide (M 122 e = k) && decide (M 130 e = 0)) (by omega)]
  · intro g i hi
    have hg : ∀ F : gR, gI (nI i) 160 F = F := fun F => gI_nI (by omega) (by omega)
    show f_X9_latest_lb5 _ M k K (fold _ (-1) i) (nI i) = f_X9_latest_l5 g M k K (if (decide (M 120 i = K) && decide (M 122 i = k) && decide (M 130 i = 0)) then nI i else fold _ (-1) i) (nI (i + 1))
    generalize fold _ (-1) i = s
    unfold f_X9_latest_lb5
    rw [h23, if_neg (nI_ge (by omega) (by omega)), hg, nI_clamp (show i < 2 ^ 31 by omega), hg, hg]
    simp only [bV]
    rw [nI_1]
    by_cases c1 : M 120 i = K
    · rw [if_pos c1, decide_eq_true c1]
      by_cases c2 : M 122 i = k
      · rw [if_pos c2, decide_eq_true c2]
        by_cases c3 : M 130 i = 0
        · rw [if_pos c3, decide_eq_true c3]; rfl
        · rw [if_neg c3, decide_eq_false c3]; rfl
      · rw [if_neg c2, decide_eq_false c2]; rfl
    · rw [if_neg c1, decide_eq_false c1]; rfl
  · intro g
    show f_X9_latest_lb5 _ M k K (fold _ (-1) ne) (nI ne) = _
    unfold f_X9_latest_lb5
    rw [h23, if_pos (nI_le (by omega) (by omega))]
theorem sub0 {a b : Int32} : a - b = 0 ↔ a = b := by
  constructor
  · intro h
    have := Int32.sub_add_cancel a b
    rw [h, Int32.zero_add] at this
    exact this.symm
  · intro h
    rw [h]
    exact Int32.sub_self b
/-- what is left after a payment -/
def leV (M : gM) (t k j : Nat) (x : Int32) : Int32 := M 50 k + M 50 k * ((nI t - M 56 j) / 30) / 100 - (M 53 k + x)
def leS (v : Int32) : Int32 := if v = 0 then 5 else 2
theorem st_pay : St_pay Inv := by
  intro n M a b hn hI
  obtain ⟨t, nh, nc, nk, ne, nr, nx, ns, I⟩ := hI
  obtain ⟨⟨a1, a2, a3, a4, a5, a6, a7, a8⟩, ⟨b1, b2, b3, b4, b5, b6, b7⟩, l1, l2, l3, l4, l5, l6, l7, l8⟩ := I.1
  have gr := I.2.2.1.2.2
  have e104 : M 104 = M 14 := I.2.2.1.2.1
  obtain ⟨⟨e109, e110, e111, e112, e113, e114, e115⟩, -, -, -, h53⟩ := I.2.2.2.2.2.1
  obtain ⟨e120, e121, e122, e123, -, e130⟩ := I.2.2.2.2.2.2.2.2.2.2.1.1
  have i1 : nI 1 = (1 : Int32) := by decide
  have i9 : nI 999999 = (999999 : Int32) := by decide
  rcases idx_cases a nk (by omega) with ⟨k, hk, rfl⟩ | hb
  · have hg24 : ∀ F : gR, gI (nI k) 24 F = F := fun F => gI_nI (by omega) (by omega)
    have hck : (nI k).toNatClampNeg = k := nI_clamp (by omega)
    have n77 : ∀ N (w : Int32), w = 1 ∨ w = 2 ∨ w = 3 → f_X9_pay_b77 N (nI k) b w = rRet 0 (gset N 9 0 w) := by
      intro N w hw
      unfold f_X9_pay_b77
      rcases hw with h | h | h
      · rw [h, rf_1, rb_ret, if_neg i10]
      · rw [h, rf_2, rb_ret, if_neg i10]
      · rw [h, rf_3, rb_ret, if_neg i10]
    have k9 : ∀ M', Rf M' M → f_X9_pay M' (nI k) b = if ne < 160 ∧ M 51 k = 2 ∧ ¬ blV M t ne k < b then f_X9_pay_b41 M' (nI k) b 1 1 else f_X9_pay_b41 M' (nI k) b 1 0 := by
      intro M' R
      unfold f_X9_pay f_X9_pay_b40
      rw [c9_Claim ((R.1 11 (by omega)).trans b4) hk (by omega), rb_ret, if_neg i10, e_room ((R.1 23 (by omega)).trans b5) (by omega), rb_ret, hg24, hck, R.2 112 (by omega), e112, e_owed9 I R hk, rb_ret]
      by_cases c0 : ne < 160
      · rw [if_pos c0, if_neg i10]
        by_cases c1 : M 51 k = 2
        · rw [if_pos c1]
          by_cases c2 : blV M t ne k < b
          · rw [if_pos c2, if_neg (fun h => h.2.2 c2)]
          · rw [if_neg c2, if_pos ⟨c0, c1, c2⟩]
        · rw [if_neg c1, if_neg (fun h => c1 h.2.1)]
      · rw [if_neg c0, if_pos rfl, if_neg (fun h => c0 h.1)]
    rcases rng_cases b 1 999999 (by omega) (by omega) with ⟨x, x1, x2, rfl⟩ | hb
    · have k8 : f_X8_pay M (nI k) (nI x) = if M 51 k = 2 ∧ ¬ blV M t ne k < nI x then f_X8_pay_b41 M (nI k) (nI x) 1 else f_X8_pay_b41 M (nI k) (nI x) 0 := by
        have kA : f_X8_checkAmount M (nI x) 999999 = rRet 0 M := by
          unfold f_X8_checkAmount
          rw [← i1, ← i9, if_neg (nI_nlt x1 (by omega)), if_pos (nI_le x2 (by omega))]
        unfold f_X8_pay f_X8_pay_b40
        rw [c8_Claim a4 hk (by omega), rb_ret, kA, rb_ret, hg24, hck, e_bal8 I hk, rb_ret]
        by_cases c1 : M 51 k = 2
        · rw [if_pos c1]
          by_cases c2 : blV M t ne k < nI x
          · rw [if_pos c2, if_neg (fun h => h.2 c2)]
          · rw [if_neg c2, if_pos ⟨c1, c2⟩]
        · rw [if_neg c1, if_neg (fun h => c1 h.1)]
      have k41 : ∀ N (u : Int32), f_X9_pay_b41 N (nI k) (nI x) 1 u = if u = 0 then rRet 0 (gset N 9 0 3) else f_X9_pay_b77 N (nI k) (nI x) 0 := by
        intro N u
        unfold f_X9_pay_b41
        rw [if_neg i10, rg_ok i1 i9 x1 x2 (by omega), rb_ret, if_neg i10, n77 N 3 (Or.inr (Or.inr rfl))]
      by_cases ok : ne < 160 ∧ M 51 k = 2 ∧ ¬ blV M t ne k < nI x
      · obtain ⟨c0, c1, c2⟩ := ok
        obtain ⟨j, j1, j2, j3, j4, j5, j6, f1, f2⟩ := lv_J I hk (Or.inl c1)
        have z24 : k < 24 := by omega
        have hz3 : z01 (M 104 3) := by rw [e104]; exact (gr 3 (by omega)).2
        have hls : lsV (gset (en8 M ne t 10 (nI k) (nI x) 0) 53 k (M 53 k + nI x)) (ne + 1) 5 (nI k) = nI j := by
          rw [← j5]
          show lastP (fun e => decide (upd (M 55) ne 10 e = 5) && decide (upd (M 57) ne (nI k) e = nI k)) (ne + 1) = _
          show (if (decide (upd (M 55) ne 10 ne = 5) && decide (upd (M 57) ne (nI k) ne = nI k)) then nI ne else lastP (fun e => decide (upd (M 55) ne 10 e = 5) && decide (upd (M 57) ne (nI k) e = nI k)) ne) = _
          rw [upd_eq, decide_eq_false (show ¬ (10 : Int32) = 5 by decide), Bool.false_and, if_neg (by decide)]
          exact lastP_congr (fun e he => by rw [upd_lt he, upd_lt he])
        have hb8 : f_X8_balanceNow (gset (en8 M ne t 10 (nI k) (nI x) 0) 53 k (M 53 k + nI x)) (nI k) = rRet (leV M t k j (nI x)) (gset (en8 M ne t 10 (nI k) (nI x) 0) 53 k (M 53 k + nI x)) := by
          rw [e_bal8r (M := gset (en8 M ne t 10 (nI k) (nI x) 0) 53 k (M 53 k + nI x)) (ne := ne + 1) rfl c0 z24 c1 hls (by omega)]
          show rRet (M 50 k + M 50 k * ((M 1 0 - upd (M 56) ne (nI t) j) / 30) / 100 - upd (M 53) k (M 53 k + nI x) k) _ = _
          rw [upd_lt j1, upd_eq, a1]
          rfl
        refine agI_ok (v := leV M t k j (nI x)) (M1 := gset (gset (en8 M ne t 10 (nI k) (nI x) 0) 53 k (M 53 k + nI x)) 51 k (leS (leV M t k j (nI x)))) (M2 := gset (gset (gset (gset (gset (en9 (gset (gset (gset (gset (en8 M ne t 10 (nI k) (nI x) 0) 53 k (M 53 k + nI x)) 51 k (leS (leV M t k j (nI x)))) 10 0 (leV M t k j (nI x))) 9 0 0) ne t 10 (nI k) (nI x) 0 3) 127 ne (M 112 k)) 128 ne (M 113 k)) 129 ne (M 114 k)) 9 23 (nI (ne + 1))) 112 k (leS (leV M t k j (nI x)))) ?_ ?_ rfl rfl ?_
        · unfold f_L_pay
          rw [k8, if_pos ⟨c1, c2⟩]
          unfold f_X8_pay_b41
          rw [e_allow a5 c0, rb_ret, e_en8n a5 a1 c0 _ _ _ (Or.inr (Or.inr (Or.inr (Or.inr (Or.inl rfl))))), rb_ret, hg24, hg24, hck]
          simp only [bM]
          rw [show en8 M ne t 10 (nI k) (nI x) 0 53 k = M 53 k from rfl, hb8, rb_ret, hg24]
          unfold leS
          by_cases z : leV M t k j (nI x) = 0
          · rw [if_pos z, if_pos z]
            rfl
          · rw [if_neg z, if_neg z, gset_id (a := 51) (j := k) (M := gset (en8 M ne t 10 (nI k) (nI x) 0) 53 k (M 53 k + nI x)) (v := 2) c1, rc_ret]
        · have R : Rf (gset (gset (gset (en8 M ne t 10 (nI k) (nI x) 0) 53 k (M 53 k + nI x)) 51 k (leS (leV M t k j (nI x)))) 10 0 (leV M t k j (nI x))) M := ((((((((((Rf.rfl M).s (by omega) (by omega) _ _).s (by omega) (by omega) _ _).s (by omega) (by omega) _ _).s (by omega) (by omega) _ _).s (by omega) (by omega) _ _).s (by omega) (by omega) _ _).s (by omega) (by omega) _ _).s (by omega) (by omega) _ _).s (by omega) (by omega) _ _).o _
          show f_X9_pay _ (nI k) (nI x) = _
          rw [k9 _ R, if_pos ⟨c0, c1, c2⟩, k41, if_neg i10]
          unfold f_X9_pay_b77
          rw [rf_0, rb_ret, if_pos rfl, e_en9 (K := 10) (M := gset (gset (gset (gset (en8 M ne t 10 (nI k) (nI x) 0) 53 k (M 53 k + nI x)) 51 k (leS (leV M t k j (nI x)))) 10 0 (leV M t k j (nI x))) 9 0 0) b5 b1 c0 z24 _ _ (by decide) hz3, rb_ret]
          generalize hE : gset (gset (gset (gset (en9 (gset (gset (gset (gset (en8 M ne t 10 (nI k) (nI x) 0) 53 k (M 53 k + nI x)) 51 k (leS (leV M t k j (nI x)))) 10 0 (leV M t k j (nI x))) 9 0 0) ne t 10 (nI k) (nI x) 0 (ru9 10)) 127 ne _) 128 ne _) 129 ne _) 9 23 (nI (ne + 1)) = E
          have E23 : E 9 23 = nI (ne + 1) := by rw [← hE]; rfl
          have E1 : E 9 1 = nI t := by rw [← hE]; exact b1
          have E112 : E 112 = M 112 := by rw [← hE]; rfl
          have E113 : E 113 = M 113 := by rw [← hE]; rfl
          have E120 : E 120 = upd (M 120) ne 10 := by rw [← hE]; rfl
          have E121 : E 121 = upd (M 121) ne (nI t) := by rw [← hE]; rfl
          have E122 : E 122 = upd (M 122) ne (nI k) := by rw [← hE]; rfl
          have E123 : E 123 = upd (M 123) ne (nI x) := by rw [← hE]; rfl
          have E130 : E 130 = M 130 := by rw [← hE]; rfl
          have ow : ∀ N : gM, N 9 = E 9 → N 113 = E 113 → N 120 = E 120 → N 121 = E 121 → N 122 = E 122 → N 123 = E 123 → N 130 = E 130 → N 112 k = 2 → f_X9_owed N (nI k) = rRet (leV M t k j (nI x)) N := by
            intro N q9 q113 q120 q121 q122 q123 q130 q112
            have hl : f_X9_latest N (nI k) 5 = rRet (nI j) N := by
              rw [e_last9r (M := N) (ne := ne + 1) (by rw [q9]; exact E23) c0, q120, q122, q130, E120, E122, E130, ← j6]
              refine congrArg (fun v => rRet v N) ?_
              show (if (decide (upd (M 120) ne 10 ne = 5) && decide (upd (M 122) ne (nI k) ne = nI k) && decide (M 130 ne = 0)) then nI ne else lastP (fun e => decide (upd (M 120) ne 10 e = 5) && decide (upd (M 122) ne (nI k) e = nI k) && decide (M 130 e = 0)) ne) = _
              rw [upd_eq, decide_eq_false (show ¬ (10 : Int32) = 5 by decide), Bool.false_and, Bool.false_and, if_neg (by decide)]
              exact lastP_congr (fun e he => by rw [upd_lt he, upd_lt he, e120, e122, e130])
            rw [e_owed9r (ne := ne + 1) (by rw [q9]; exact E23) c0 z24 q112 hl (by omega), q113, q120, q121, q122, q123, q9, E1, E113, E120, E121, E122, E123, sPaid_add, if_pos rfl, if_pos rfl, upd_lt j1, e113, e121, ← h53 k z24]
            rfl
          rw [ow E rfl rfl rfl rfl rfl rfl rfl (by rw [E112, e112]; exact c1), rb_ret]
          generalize leV M t k j (nI x) = v at *
          unfold f_X9_pay_b113
          rw [hg24, hg24, hck]
          by_cases z : v = 0
          · subst z
            rw [if_pos rfl]
            simp only [bM]
            rw [e_owed9z (M := gset E 112 k 5) z24 (show ¬ upd (E 112) k 5 k = 2 by rw [upd_eq]; decide), rb_ret]
            subst hE
            rfl
          · have hS : leS v = 2 := if_neg z
            rw [if_neg z]
            simp only [bM]
            rw [ow (gset E 112 k 2) (gset_ne (by omega)) (gset_ne (by omega)) (gset_ne (by omega)) (gset_ne (by omega)) (gset_ne (by omega)) (gset_ne (by omega)) (gset_ne (by omega)) (by rw [gset_self, upd_eq]), rb_ret]
            subst hE
            rw [hS]
            rfl
        · have z6 := I.z61
          obtain ⟨g1, g2, g3, g4, g5, g6, g7, g8, g9, g10, g11, g12, g13, g14⟩ := I
          have hS : isIx 6 (leS (leV M t k j (nI x))) := by
            unfold leS
            by_cases z : leV M t k j (nI x) = 0
            · rw [if_pos z]; exact ⟨5, by omega, rfl⟩
            · rw [if_neg z]; exact ⟨2, by omega, rfl⟩
          have q1 := g14.1 k z24
          exact ⟨t, nh, nc, nk, ne + 1, nr, nx, ns, ⟨⟨a1, a2, a3, a4, rfl, a6, a7, a8⟩, ⟨b1, b2, b3, b4, rfl, b6, b7⟩, l1, l2, l3, l4, c0, l6, l7, (Nat.le_succ_of_le l8)⟩, g2, g3, g4.add (by decide), g5,
            g6.ent (m50' := M 50) (m51' := upd (M 51) k (leS (leV M t k j (nI x)))) (m52' := M 52) (m53' := upd (M 53) k (M 53 k + nI x)) (show upd (M 112) k (leS (leV M t k j (nI x))) = upd (M 51) k (leS (leV M t k j (nI x))) by rw [e112]) e113 e114 (fun j hj => isIx_upd hS (g6.2.2.1 j hj).1) (fun j hj => ⟨by rw [upd_nx (by omega)]; exact (g6.2.2.2.1 j hj).1, by rw [upd_nx (by omega)]; exact (g6.2.2.2.1 j hj).2.1⟩) (fun j hj => by
              rw [if_pos rfl, upd_at]
              by_cases q : j = k
              · rw [if_pos q, if_pos (by rw [q]), q]
              · rw [if_neg q, if_neg (fun h => q ((nI_eq (by omega) (by omega)).mp h).symm)]), g7, g8, g9, g10,
            g11.ent (by omega) ⟨10, by omega, rfl, fun h => absurd h (by omega), fun _ => ⟨k, hk, rfl⟩⟩ (fun h => absurd h (by decide)) (fun h => absurd h (by decide)) (fun h => absurd h (by decide)) (fun _ => rfl) (fun h => absurd h (by decide)) (fun _ => rfl) (fun h => absurd h (by decide)) g11.1.2.2.2.2.2,
            g12.ent _, g13.ent (by omega) (fun _ _ => rfl) (fun _ _ => rfl) (fun e => (g13.2.1 e).1) hz3 (fun h => absurd h (by unfold kdD; decide)) (fun h => absurd h (by decide)) (fun h => absurd h (by decide)) (fun h => absurd h (by decide)) z6,
            g14.ent (m50' := M 50) (m51' := upd (M 51) k (leS (leV M t k j (nI x)))) (m52' := M 52) (m53' := upd (M 53) k (M 53 k + nI x)) (m60' := M 60) (m61' := M 61) (c := k) (by omega) l4 hk rfl (fun j hj => ⟨rfl, upd_nx hj, rfl, upd_nx hj⟩) ⟨by
                rw [upd_eq]
                show (if (sFold (M 55) (M 56) (M 57) (M 58) (nI k) ne).2.1 + (sFold (M 55) (M 56) (M 57) (M 58) (nI k) ne).2.1 * ((nI t - (sFold (M 55) (M 56) (M 57) (M 58) (nI k) ne).2.2.1) / 30) / 100 = (sFold (M 55) (M 56) (M 57) (M 58) (nI k) ne).2.2.2 + nI x then 5 else (sFold (M 55) (M 56) (M 57) (M 58) (nI k) ne).1) = _
                rw [f1, f2, q1.1, q1.2, c1]
                unfold leS leV
                by_cases z : M 50 k + M 50 k * ((nI t - M 56 j) / 30) / 100 = M 53 k + nI x
                · rw [if_pos z, if_pos (sub0.mpr z)]
                · rw [if_neg z, if_neg (fun h => z (sub0.mp h))], by
                rw [upd_eq]
                show (sFold (M 55) (M 56) (M 57) (M 58) (nI k) ne).2.2.2 + nI x = _
                rw [q1.2]⟩ (fun _ _ _ => rfl) (fun _ => Or.inl ⟨Or.inl c1, by decide, rfl, fun _ _ => rfl⟩) (fun e he => ⟨rfl, upd_lt he, upd_lt he, upd_lt he⟩) (fun w => absurd w (by decide)) (fun _ => rfl)⟩
      · refine agI_no (k := 3) ?_ (by decide) (b := 0) ?_ (inv_no I)
        · have : f_X8_pay M (nI k) (nI x) = rThr 2 M := by
            rw [k8]
            unfold f_X8_pay_b41
            by_cases q : ne < 160
            · rw [if_neg (fun h => ok ⟨q, h⟩), e_allow0, rb_thr]
            · rw [e_allowF a5 q (by omega), e_allowF a5 q (by omega), rb_thr, ite_self]
          unfold f_L_pay
          rw [this, rc_thr]
          rfl
        · show f_X9_pay M (nI k) (nI x) = _
          rw [k9 M (Rf.rfl M), if_neg ok, k41, if_pos rfl]
    · refine agI_no (k := 2) ?_ (by decide) (b := 0) ?_ (inv_no I)
      · have kA : f_X8_checkAmount M b 999999 = rThr 1 M := by
          unfold f_X8_checkAmount
          rw [← i1, ← i9]
          rcases hb with h | ⟨h, h2⟩
          · rw [if_pos h]
          · rw [if_neg h, if_neg (Int32.not_le.mpr h2)]
        unfold f_L_pay f_X8_pay
        rw [c8_Claim a4 hk (by omega), rb_ret, kA, rb_thr, rc_thr]
        rfl
      · show f_X9_pay M (nI k) b = _
        have k41 : ∀ u : Int32, f_X9_pay_b41 M (nI k) b 1 u = rRet 0 (gset M 9 0 2) := by
          intro u
          unfold f_X9_pay_b41
          rw [if_neg i10, rg_no i1 i9 hb, rb_ret, if_pos rfl, n77 M 2 (Or.inr (Or.inl rfl))]
        rw [k9 M (Rf.rfl M), k41, k41, ite_self]
  · refine agI_no (k := 1) ?_ (by decide) (b := 0) ?_ (inv_no I)
    · unfold f_L_pay f_X8_pay
      rw [n8_Claim a4 hb, rb_thr, rc_thr]
      rfl
    · unfold f_X9_pay
      rw [n9_Claim b4 (by omega) hb, rb_ret, if_pos rfl]
      unfold f_X9_pay_b40 f_X9_pay_b41 f_X9_pay_b77
      rw [if_pos rfl, rf_1, rb_ret, if_neg i10]
