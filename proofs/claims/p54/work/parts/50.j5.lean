/-! ===== the state by the docket; balances ===== -/
theorem e_owed8 (M : gM) (a j d : Int32) : f_X8_owed M a j d = rRet (a + a * ((d - j) / 30) / 100) M := by
  unfold f_X8_owed gNz
  simp only [bV]
  rw [if_neg (by decide), if_neg (by decide)]
theorem s_byDocket {M : gM} {k : Int32} {ne : Nat} (h : M 4 0 = nI ne) (h5 : ne ≤ 160) {g i : Nat} (hi : i < ne) (s1 s2 s3 s4 : Int32) : f_X8_stateByDocket_lb18 (f_X8_stateByDocket_l18 g) M k s1 s2 s3 s4 (nI i) = (fun s : Int32 × Int32 × Int32 × Int32 => f_X8_stateByDocket_l18 g M k s.1 s.2.1 s.2.2.1 s.2.2.2 (nI (i + 1))) (if M 57 i = k then fStep (M 55 i) (M 56 i) (M 58 i) (s1, s2, s3, s4) else (s1, s2, s3, s4)) := by
  have hg : ∀ F : gR, gI (nI i) 160 F = F := fun F => gI_nI (by omega) (by omega)
  unfold f_X8_stateByDocket_lb18
  rw [h, if_neg (nI_ge (by omega) (by omega)), e_ofClaim (by omega), rb_ret, hg, nI_clamp (show i < 2 ^ 31 by omega)]
  simp only [bV]
  rw [hg, nI_1]
  by_cases c : M 57 i = k
  · rw [if_pos c, if_pos c]
    unfold fStep
    by_cases c4 : M 55 i = 4
    · rw [if_pos c4, if_pos c4, c4, if_neg (by decide)]
      by_cases z : M 58 i = 0
      · rw [if_pos z, if_pos z]
      · rw [if_neg z, if_neg z]
    · rw [if_neg c4, if_neg c4]
      by_cases c5 : M 55 i = 5
      · rw [if_pos c5, if_pos c5, c5, if_neg (by decide)]
        unfold f_X8_stateByDocket_b136
        simp only [bV]
        rw [hg, hg, nI_clamp (show i < 2 ^ 31 by omega), nI_1]
        by_cases z : M 58 i = 0
        · rw [if_pos z, if_pos z]
        · rw [if_neg z, if_neg z]
      · rw [if_neg c5, if_neg c5]
        by_cases c6 : M 55 i = 6
        · rw [if_pos c6, if_pos c6, c6, if_neg (by decide)]
        · rw [if_neg c6, if_neg c6]
          by_cases c7 : M 55 i = 7
          · rw [if_pos c7, if_pos c7, c7, if_neg (by decide)]
          · rw [if_neg c7, if_neg c7]
            by_cases c8 : M 55 i = 8
            · rw [if_pos c8, if_pos c8, c8, if_neg (by decide)]
              unfold f_X8_stateByDecision
              by_cases z : M 58 i = 0
              · rw [if_pos z, if_pos z, rb_ret]
              · rw [if_neg z, if_neg z]
                by_cases z1 : M 58 i = 1
                · rw [if_pos z1, if_pos z1, rb_ret]
                · rw [if_neg z1, if_neg z1, rb_ret]
            · rw [if_neg c8, if_neg c8]
              by_cases c9 : M 55 i = 9
              · rw [if_pos c9, if_pos c9, c9, if_neg (by decide)]
              · rw [if_neg c9, if_neg c9]
                by_cases ca : M 55 i = 10
                · rw [if_pos ca, if_pos ca, ca, if_neg (by decide), hg, e_owed8, rb_ret]
                  by_cases z : s2 + s2 * ((M 56 i - s3) / 30) / 100 = s4 + M 58 i
                  · rw [if_pos z]
                    show _ = f_X8_stateByDocket_l18 g M k (if s2 + s2 * ((M 56 i - s3) / 30) / 100 = s4 + M 58 i then 5 else s1) s2 s3 (s4 + M 58 i) _
                    rw [if_pos z]
                  · rw [if_neg z]
                    show _ = f_X8_stateByDocket_l18 g M k (if s2 + s2 * ((M 56 i - s3) / 30) / 100 = s4 + M 58 i then 5 else s1) s2 s3 (s4 + M 58 i) _
                    rw [if_neg z]
                · rw [if_neg ca, if_neg ca]
                  by_cases y : (if M 55 i = 11 then (0 : Int32) else if M 55 i = 12 then 0 else 1) = 0
                  · rw [if_pos y]
                  · rw [if_neg y]
  · rw [if_neg c, if_pos rfl, if_neg c]
theorem l_byDocket {M : gM} {k : Int32} {ne : Nat} (h : M 4 0 = nI ne) (h5 : ne ≤ 160) : ∀ (d i f : Nat), i + d = ne → d < f → f_X8_stateByDocket_l18 f M k (sFold (M 55) (M 56) (M 57) (M 58) k i).1 (sFold (M 55) (M 56) (M 57) (M 58) k i).2.1 (sFold (M 55) (M 56) (M 57) (M 58) k i).2.2.1 (sFold (M 55) (M 56) (M 57) (M 58) k i).2.2.2 (nI i) = rRet (sFold (M 55) (M 56) (M 57) (M 58) k ne).1 M := by
  intro d
  induction d with
  | zero =>
    intro i f hi hf
    obtain ⟨g, rfl⟩ : ∃ g, f = g + 1 := ⟨f - 1, by omega⟩
    obtain rfl : i = ne := by omega
    generalize sFold (M 55) (M 56) (M 57) (M 58) k i = s
    show f_X8_stateByDocket_lb18 (f_X8_stateByDocket_l18 g) M k s.1 s.2.1 s.2.2.1 s.2.2.2 (nI i) = _
    unfold f_X8_stateByDocket_lb18
    rw [h, if_pos (nI_le (by omega) (by omega))]
  | succ d ih =>
    intro i f hi hf
    obtain ⟨g, rfl⟩ : ∃ g, f = g + 1 := ⟨f - 1, by omega⟩
    have k1 := ih (i + 1) g (by omega) (by omega)
    rw [← k1]
    have e : sFold (M 55) (M 56) (M 57) (M 58) k (i + 1) = if M 57 i = k then fStep (M 55 i) (M 56 i) (M 58 i) (sFold (M 55) (M 56) (M 57) (M 58) k i) else sFold (M 55) (M 56) (M 57) (M 58) k i := rfl
    rw [e]
    generalize sFold (M 55) (M 56) (M 57) (M 58) k i = s
    obtain ⟨s1, s2, s3, s4⟩ := s
    exact s_byDocket h h5 (by omega) s1 s2 s3 s4
theorem e_byDocket {M : gM} {k : Int32} {ne : Nat} (h : M 4 0 = nI ne) (h5 : ne ≤ 160) : f_X8_stateByDocket_l18 5000 M k 0 0 0 0 0 = rRet (sFold (M 55) (M 56) (M 57) (M 58) k ne).1 M := by
  have q := l_byDocket (k := k) h h5 ne 0 5000 (by omega) (by omega)
  rw [nI_0] at q
  exact q
theorem st_stateByDocket : St_stateByDocket Inv := by
  intro n M a hn hI
  obtain ⟨t, nh, nc, nk, ne, nr, nx, ns, I⟩ := hI
  obtain ⟨⟨a1, a2, a3, a4, a5, a6, a7, a8⟩, ⟨b1, b2, b3, b4, b5, b6, b7⟩, l1, l2, l3, l4, l5, l6, l7, l8⟩ := I.1
  have e112 : M 112 = M 51 := I.2.2.2.2.2.1.1.2.2.2.1
  rcases idx_cases a nk (by omega) with ⟨i, hi, rfl⟩ | hb
  · have hc : (nI i).toNatClampNeg = i := nI_clamp (by omega)
    have hs := (I.2.2.2.2.2.2.2.2.2.2.2.2.2.1 i (by omega)).1
    refine agI_ok (v := M 51 i) (M1 := M) (M2 := gset (gset M 10 0 (M 51 i)) 9 0 0) ?_ ?_ rfl rfl (inv_rd I)
    · unfold f_L_stateByDocket f_X8_stateByDocket
      rw [c8_Claim a4 hi (by omega), rb_ret, e_byDocket a5 l5, rc_ret, hs]
    · unfold f_X9_stateByDocket f_X9_stateOf
      rw [c9_Claim (M := gset M 10 0 (M 51 i)) b4 hi (by omega), rb_ret, if_neg i10]
      unfold f_X9_stateOf_b14
      rw [rf_0, rb_ret, if_pos rfl, gI_nI (show i < 24 by omega) (by omega), hc]
      show rb (rRet (M 112 i) _) _ = _
      rw [e112, rb_ret]
  · refine agI_no (k := 1) ?_ (by decide) (b := 0) ?_ (inv_no I)
    · unfold f_L_stateByDocket f_X8_stateByDocket
      rw [n8_Claim a4 hb, rb_thr, rc_thr]
      rfl
    · unfold f_X9_stateByDocket f_X9_stateOf
      rw [n9_Claim b4 (by omega) hb, rb_ret, if_pos rfl]
      unfold f_X9_stateOf_b14
      rw [rf_1, rb_ret, if_neg i10, rb_ret]
theorem e_paid9 {M : gM} {k : Int32} {ne : Nat} (h : M 9 23 = nI ne) (h5 : ne ≤ 160) : f_X9_paid M k = rRet (sPaid (M 120) (M 122) (M 123) k ne) M := by
  have hf : ∀ i, fold (fun e s => if M 120 e = 10 then if M 122 e = k then s + M 123 e else s + 0 else s + 0) (0 : Int32) i = sPaid (M 120) (M 122) (M 123) k i := by
    intro i
    induction i with
    | zero => rfl
    | succ i ih =>
      show (if M 120 i = 10 then if M 122 i = k then fold _ _ i + M 123 i else fold _ _ i + 0 else fold _ _ i + 0) = _
      rw [ih]
      rfl
  have q := lp_fd0 (L := fun f s i => f_X9_paid_l4 f M k s i) (st := fun e s => if M 120 e = 10 then if M 122 e = k then s + M 123 e else s + 0 else s + 0) (s0 := 0) (F := fun s => rRet s M) (n := ne) ?_ ?_ (by omega)
  · unfold f_X9_paid
    rw [← hf]
    exact q
  · intro g i hi
    have hg : ∀ F : gR, gI (nI i) 160 F = F := fun F => gI_nI (by omega) (by omega)
    show f_X9_paid_lb4 _ M k (fold _ 0 i) (nI i) = f_X9_paid_l4 g M k (if M 120 i = 10 then if M 122 i = k then fold _ 0 i + M 123 i else fold _ 0 i + 0 else fold _ 0 i + 0) (nI (i + 1))
    generalize fold _ 0 i = s
    unfold f_X9_paid_lb4 f_X9_paid_b43
    rw [h, if_neg (nI_ge (by omega) (by omega)), hg, nI_clamp (show i < 2 ^ 31 by omega), hg, hg]
    simp only [bV]
    rw [nI_1]
    by_cases c1 : M 120 i = 10
    · rw [if_pos c1, if_pos c1]
      by_cases c2 : M 122 i = k
      · rw [if_pos c2, if_pos c2]
      · rw [if_neg c2, if_neg c2]
    · rw [if_neg c1, if_neg c1]
  · intro g
    show f_X9_paid_lb4 _ M k (fold _ 0 ne) (nI ne) = _
    unfold f_X9_paid_lb4
    rw [h, if_pos (nI_le (by omega) (by omega))]
theorem e_bal8r {M : gM} {ne k j : Nat} (h : M 4 0 = nI ne) (h5 : ne ≤ 160) (hk : k < 24) (h51 : M 51 k = 2) (hj : lsV M ne 5 (nI k) = nI j) (hj2 : j < 160) : f_X8_balanceNow M (nI k) = rRet (M 50 k + M 50 k * ((M 1 0 - M 56 j) / 30) / 100 - M 53 k) M := by
  have hg : ∀ F : gR, gI (nI k) 24 F = F := fun F => gI_nI hk (by omega)
  unfold f_X8_balanceNow
  rw [e_last8 h h5, rb_ret, hj, hg, hg, nI_clamp (show k < 2 ^ 31 by omega), if_pos h51, if_neg (m1_ne (by omega)), gI_nI hj2 (by omega), nI_clamp (show j < 2 ^ 31 by omega), e_owed8, rb_ret, hg]
theorem e_bal8z {M : gM} {ne k : Nat} (h : M 4 0 = nI ne) (h5 : ne ≤ 160) (hk : k < 24) (h51 : ¬ M 51 k = 2) : f_X8_balanceNow M (nI k) = rRet 0 M := by
  unfold f_X8_balanceNow
  rw [e_last8 h h5, rb_ret, gI_nI hk (by omega), nI_clamp (show k < 2 ^ 31 by omega), if_neg h51]
theorem e_owed9r {M : gM} {ne k j : Nat} (h : M 9 23 = nI ne) (h5 : ne ≤ 160) (hk : k < 24) (h51 : M 112 k = 2) (hj : f_X9_latest M (nI k) 5 = rRet (nI j) M) (hj2 : j < 160) : f_X9_owed M (nI k) = rRet (M 113 k + M 113 k * ((M 9 1 - M 121 j) / 30) / 100 - sPaid (M 120) (M 122) (M 123) (nI k) ne) M := by
  have hg : ∀ F : gR, gI (nI k) 24 F = F := fun F => gI_nI hk (by omega)
  unfold f_X9_owed gNz
  rw [hg, nI_clamp (show k < 2 ^ 31 by omega), if_pos h51, hj, rb_ret, gI_nI hj2 (by omega), nI_clamp (show j < 2 ^ 31 by omega)]
  simp only [bV]
  rw [hg, hg, if_neg (by decide), if_neg (by decide), e_paid9 h h5, rb_ret]
theorem e_owed9z {M : gM} {k : Nat} (hk : k < 24) (h51 : ¬ M 112 k = 2) : f_X9_owed M (nI k) = rRet 0 M := by
  unfold f_X9_owed
  rw [gI_nI hk (by omega), nI_clamp (show k < 2 ^ 31 by omega), if_neg h51]
def blV (M : gM) (t ne k : Nat) : Int32 := if M 51 k = 2 then M 50 k + M 50 k * ((nI t - M 56 (lsV M ne 5 (nI k)).toNatClampNeg) / 30) / 100 - M 53 k else 0
theorem e_bal8 {t nh nc nk ne nr nx ns n : Nat} {M : gM} (I : InvP t nh nc nk ne nr nx ns n M) {k : Nat} (hk : k < nk) : f_X8_balanceNow M (nI k) = rRet (blV M t ne k) M := by
  obtain ⟨⟨a1, a2, a3, a4, a5, a6, a7, a8⟩, -, l1, l2, l3, l4, l5, l6, l7, l8⟩ := I.1
  unfold blV
  by_cases c : M 51 k = 2
  · obtain ⟨j, j1, -, -, -, j5, -⟩ := lv_J I hk (Or.inl c)
    rw [if_pos c, e_bal8r a5 l5 (by omega) c j5 (by omega), a1, j5, nI_clamp (show j < 2 ^ 31 by omega)]
  · rw [if_neg c, e_bal8z a5 l5 (by omega) c]
theorem e_owed9 {t nh nc nk ne nr nx ns n : Nat} {M' M : gM} (I : InvP t nh nc nk ne nr nx ns n M) (R : Rf M' M) {k : Nat} (hk : k < nk) : f_X9_owed M' (nI k) = rRet (blV M t ne k) M' := by
  obtain ⟨-, ⟨b1, b2, b3, b4, b5, b6, b7⟩, l1, l2, l3, l4, l5, l6, l7, l8⟩ := I.1
  obtain ⟨⟨e109, e110, e111, e112, e113, e114, e115⟩, -, -, -, h53⟩ := I.2.2.2.2.2.1
  have h23 : M' 9 23 = nI ne := (R.1 23 (by omega)).trans b5
  unfold blV
  by_cases c : M 51 k = 2
  · obtain ⟨j, j1, -, -, -, j5, j6, -⟩ := lv_J I hk (Or.inl c)
    have e121 : M 121 = M 56 := I.2.2.2.2.2.2.2.2.2.2.1.1.2.1
    rw [if_pos c, e_owed9r h23 l5 (by omega) (by rw [R.2 112 (by omega), e112]; exact c) (by rw [e_last9 I R, j6]) (by omega), j5, nI_clamp (show j < 2 ^ 31 by omega), R.2 113 (by omega), R.2 121 (by omega), R.2 120 (by omega), R.2 122 (by omega), R.2 123 (by omega), R.1 1 (by omega), b1, e113, e121, ← h53 k (by omega)]
  · rw [if_neg c, e_owed9z (by omega) (by rw [R.2 112 (by omega), e112]; exact c)]
theorem st_balance : St_balance Inv := by
  intro n M a hn hI
  obtain ⟨t, nh, nc, nk, ne, nr, nx, ns, I⟩ := hI
  obtain ⟨⟨a1, a2, a3, a4, a5, a6, a7, a8⟩, ⟨b1, b2, b3, b4, b5, b6, b7⟩, l1, l2, l3, l4, l5, l6, l7, l8⟩ := I.1
  rcases idx_cases a nk (by omega) with ⟨i, hi, rfl⟩ | hb
  · refine agI_ok (v := blV M t ne i) (M1 := M) (M2 := gset (gset M 10 0 (blV M t ne i)) 9 0 0) ?_ ?_ rfl rfl (inv_rd I)
    · unfold f_L_balance f_X8_balance
      rw [c8_Claim a4 hi (by omega), rb_ret, e_bal8 I hi, rb_ret, rc_ret]
    · unfold f_X9_balance
      rw [c9_Claim (M := gset M 10 0 (blV M t ne i)) b4 hi (by omega), rb_ret, if_neg i10]
      unfold f_X9_balance_b14
      rw [rf_0, rb_ret, if_pos rfl, e_owed9 I (((Rf.rfl M).o _).r 0) hi, rb_ret]
  · refine agI_no (k := 1) ?_ (by decide) (b := 0) ?_ (inv_no I)
    · unfold f_L_balance f_X8_balance
      rw [n8_Claim a4 hb, rb_thr, rc_thr]
      rfl
    · unfold f_X9_balance
      rw [n9_Claim b4 (by omega) hb, rb_ret, if_pos rfl]
      unfold f_X9_balance_b14
      rw [rf_1, rb_ret, if_neg i10]
