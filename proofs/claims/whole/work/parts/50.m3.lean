/-! ===== continueHearing ===== -/
def nT (F : Nat → Bool) (m : Nat → Nat → Bool) : Nat → Nat → Int32
  | 0, _ => -1
  | r + 1, d => if F d then nT F m r (d + 1) else if m d 0 then (if m d 1 then (if m d 2 then (if m d 3 then nT F m r (d + 1) else nI (10 * d + 3)) else nI (10 * d + 2)) else nI (10 * d + 1)) else nI (10 * d + 0)
theorem nT_dom (F : Nat → Bool) (m : Nat → Nat → Bool) : ∀ (r d : Nat), nT F m r d = -1 ∨ ∃ e s, d ≤ e ∧ e < d + r ∧ s < 4 ∧ nT F m r d = nI (10 * e + s)
  | 0, d => Or.inl rfl
  | r + 1, d => by
    have go : nT F m r (d + 1) = -1 ∨ ∃ e s, d ≤ e ∧ e < d + (r + 1) ∧ s < 4 ∧ nT F m r (d + 1) = nI (10 * e + s) := by
      rcases nT_dom F m r (d + 1) with h | ⟨e, s, h1, h2, h3, h4⟩
      · exact Or.inl h
      · exact Or.inr ⟨e, s, by omega, by omega, h3, h4⟩
    show (if F d then nT F m r (d + 1) else if m d 0 then (if m d 1 then (if m d 2 then (if m d 3 then nT F m r (d + 1) else nI (10 * d + 3)) else nI (10 * d + 2)) else nI (10 * d + 1)) else nI (10 * d + 0)) = -1 ∨ ∃ e s, d ≤ e ∧ e < d + (r + 1) ∧ s < 4 ∧ (if F d then nT F m r (d + 1) else if m d 0 then (if m d 1 then (if m d 2 then (if m d 3 then nT F m r (d + 1) else nI (10 * d + 3)) else nI (10 * d + 2)) else nI (10 * d + 1)) else nI (10 * d + 0)) = nI (10 * e + s)
    cases F d with
    | true => exact go
    | false =>
      cases m d 0 with
      | false => exact Or.inr ⟨d, 0, by omega, by omega, by omega, rfl⟩
      | true =>
        cases m d 1 with
        | false => exact Or.inr ⟨d, 1, by omega, by omega, by omega, rfl⟩
        | true =>
          cases m d 2 with
          | false => exact Or.inr ⟨d, 2, by omega, by omega, by omega, rfl⟩
          | true =>
            cases m d 3 with
            | false => exact Or.inr ⟨d, 3, by omega, by omega, by omega, rfl⟩
            | true => exact go
theorem i10x {d s : Nat} : (10 : Int32) * nI d + nI s = nI (10 * d + s) := by
  rw [show (10 : Int32) = nI 10 from by decide, nI_mul, nI_add]
theorem l_nt8 {M : gM} {h c : Nat} (hh : h < 40) (h69 : M 69 h = nI c) {F : Nat → Bool} {m : Nat → Nat → Bool} (hF : ∀ d, d ≤ 1000 → f_X0_isFree M (nI d) = rRet (if F d then 1 else 0) M) (hm : ∀ d s, d ≤ 1000 → s < 4 → f_X8_meetsOther M (nI h) (nI c) (nI d) (nI s) = rRet (if m d s then 1 else 0) M) :
    ∀ (r d f : Nat), d + r = 1001 → r < f → f_X8_nextTime_l12 f M (nI h) (nI d) = rRet (nT F m r d) M := by
  have hg : ∀ F : gR, gI (nI h) 40 F = F := fun F => gI_nI hh (by omega)
  have hch : (nI h).toNatClampNeg = h := nI_clamp (by omega)
  intro r
  induction r with
  | zero =>
    intro d f hd hf
    obtain ⟨g, rfl⟩ : ∃ g, f = g + 1 := ⟨f - 1, by omega⟩
    show f_X8_nextTime_lb12 _ M (nI h) (nI d) = _
    unfold f_X8_nextTime_lb12
    rw [show (1000 : Int32) = nI 1000 from by decide, if_pos (nI_lt (by omega) (by omega))]
    rfl
  | succ r ih =>
    intro d f hd hf
    obtain ⟨g, rfl⟩ : ∃ g, f = g + 1 := ⟨f - 1, by omega⟩
    have go := ih (d + 1) g (by omega) (by omega)
    have s4 : ∀ k, f_X8_nextTime_l35 (f_X8_nextTime_l12 g) (k + 1) M (nI h) (nI d) (nI 4) = rRet (nT F m r (d + 1)) M := by
      intro k
      show f_X8_nextTime_lb35 _ _ M (nI h) (nI d) (nI 4) = _
      unfold f_X8_nextTime_lb35
      rw [if_pos (by decide)]
      simp only [bV]
      rw [nI_1, go]
    have s : ∀ k s, s < 4 → f_X8_nextTime_l35 (f_X8_nextTime_l12 g) (k + 1) M (nI h) (nI d) (nI s) = if m d s then f_X8_nextTime_l35 (f_X8_nextTime_l12 g) k M (nI h) (nI d) (nI (s + 1)) else rRet (nI (10 * d + s)) M := by
      intro k s hs
      show f_X8_nextTime_lb35 _ _ M (nI h) (nI d) (nI s) = _
      unfold f_X8_nextTime_lb35
      rw [show (4 : Int32) = nI 4 from by decide, if_neg (nI_ge hs (by omega)), hg, hch, h69, hm d s (by omega) hs, rb_ret, i10x]
      simp only [bV]
      rw [nI_1]
      cases m d s with
      | true => simp
      | false => simp
    show f_X8_nextTime_lb12 _ M (nI h) (nI d) = _
    unfold f_X8_nextTime_lb12
    rw [show (1000 : Int32) = nI 1000 from by decide, if_neg (nI_nlt (by omega) (by omega)), hF d (by omega), rb_ret]
    simp only [bV]
    rw [nI_1, go]
    show _ = rRet (if F d then nT F m r (d + 1) else if m d 0 then (if m d 1 then (if m d 2 then (if m d 3 then nT F m r (d + 1) else nI (10 * d + 3)) else nI (10 * d + 2)) else nI (10 * d + 1)) else nI (10 * d + 0)) M
    have k0 := s 4999 0 (by omega)
    rw [nI_0] at k0
    rw [k0, s 4998 1 (by omega), s 4997 2 (by omega), s 4996 3 (by omega), s4 4995]
    cases F d with
    | true => simp
    | false =>
      cases m d 0 with
      | false => simp
      | true =>
        cases m d 1 with
        | false => simp
        | true =>
          cases m d 2 with
          | false => simp
          | true =>
            cases m d 3 with
            | false => simp
            | true => simp
theorem l_nt9 {M : gM} {h c : Nat} {x : Int32} (hh : h < 40) (h137 : M 137 h = nI c) {F : Nat → Bool} {m : Nat → Nat → Bool} (hF : ∀ d, d ≤ 1000 → f_X9_isFree M (nI d) = rRet (if F d then 1 else 0) M) (hm : ∀ d s, d ≤ 1000 → s < 4 → f_X9_wouldMeet M (nI c) (nI d) (nI s) (nI h) = rRet (if m d s then 1 else 0) M) :
    ∀ (r d f : Nat), d + r = 1001 → r + 1 < f → f_X9_continueHearing_l34 f M (nI h) x (-1) (nI d) = f_X9_continueHearing_b113 M (nI h) x (nT F m r d) := by
  have hg : ∀ F : gR, gI (nI h) 40 F = F := fun F => gI_nI hh (by omega)
  have hch : (nI h).toNatClampNeg = h := nI_clamp (by omega)
  -- found: the loops end
  have en : ∀ (g v : Nat) (y : Int32), v < 2 ^ 31 → f_X9_continueHearing_l34 (g + 1) M (nI h) x (nI v) y = f_X9_continueHearing_b113 M (nI h) x (nI v) := by
    intro g v y hv
    show f_X9_continueHearing_lb34 _ M (nI h) x (nI v) y = _
    unfold f_X9_continueHearing_lb34
    rw [if_neg (m1_ne hv), ite_self]
  intro r
  induction r with
  | zero =>
    intro d f hd hf
    obtain ⟨g, rfl⟩ : ∃ g, f = g + 1 := ⟨f - 1, by omega⟩
    show f_X9_continueHearing_lb34 _ M (nI h) x (-1) (nI d) = _
    unfold f_X9_continueHearing_lb34
    rw [show (1000 : Int32) = nI 1000 from by decide, if_pos (nI_lt (by omega) (by omega))]
    rfl
  | succ r ih =>
    intro d f hd hf
    obtain ⟨g, rfl⟩ : ∃ g, f = g + 2 := ⟨f - 2, by omega⟩
    have go := ih (d + 1) (g + 1) (by omega) (by omega)
    have s4 : ∀ k, f_X9_continueHearing_l50 (f_X9_continueHearing_l34 (g + 1)) (k + 1) M (nI h) x (-1) (nI d) (nI 4) = f_X9_continueHearing_b113 M (nI h) x (nT F m r (d + 1)) := by
      intro k
      show f_X9_continueHearing_lb50 _ _ M (nI h) x (-1) (nI d) (nI 4) = _
      unfold f_X9_continueHearing_lb50
      rw [if_pos (by decide)]
      simp only [bV]
      rw [nI_1, go]
    have fd : ∀ k v (y : Int32), v < 2 ^ 31 → f_X9_continueHearing_l50 (f_X9_continueHearing_l34 (g + 1)) (k + 1) M (nI h) x (nI v) (nI d) y = f_X9_continueHearing_b113 M (nI h) x (nI v) := by
      intro k v y hv
      show f_X9_continueHearing_lb50 _ _ M (nI h) x (nI v) (nI d) y = _
      unfold f_X9_continueHearing_lb50
      simp only [bV]
      rw [if_neg (m1_ne hv), en g v _ hv, ite_self]
    have s : ∀ k s, s < 4 → f_X9_continueHearing_l50 (f_X9_continueHearing_l34 (g + 1)) (k + 2) M (nI h) x (-1) (nI d) (nI s) = if F d then f_X9_continueHearing_l50 (f_X9_continueHearing_l34 (g + 1)) (k + 1) M (nI h) x (-1) (nI d) (nI (s + 1)) else if m d s then f_X9_continueHearing_l50 (f_X9_continueHearing_l34 (g + 1)) (k + 1) M (nI h) x (-1) (nI d) (nI (s + 1)) else f_X9_continueHearing_b113 M (nI h) x (nI (10 * d + s)) := by
      intro k s hs
      show f_X9_continueHearing_lb50 _ _ M (nI h) x (-1) (nI d) (nI s) = _
      unfold f_X9_continueHearing_lb50
      rw [show (4 : Int32) = nI 4 from by decide, if_neg (nI_ge hs (by omega)), if_pos rfl, hF d (by omega), rb_ret, hg, hch, h137, hm d s (by omega) hs, rb_ret, i10x]
      simp only [bV]
      rw [nI_1, fd k _ _ (by omega)]
      cases F d with
      | true => simp
      | false =>
        cases m d s with
        | true => simp
        | false => simp
    show f_X9_continueHearing_lb34 _ M (nI h) x (-1) (nI d) = _
    unfold f_X9_continueHearing_lb34
    rw [show (1000 : Int32) = nI 1000 from by decide, if_neg (nI_nlt (by omega) (by omega)), if_pos rfl]
    show _ = f_X9_continueHearing_b113 M (nI h) x (if F d then nT F m r (d + 1) else if m d 0 then (if m d 1 then (if m d 2 then (if m d 3 then nT F m r (d + 1) else nI (10 * d + 3)) else nI (10 * d + 2)) else nI (10 * d + 1)) else nI (10 * d + 0))
    have k0 := s 4998 0 (by omega)
    rw [nI_0] at k0
    rw [k0, s 4997 1 (by omega), s 4996 2 (by omega), s 4995 3 (by omega), s4 4995]
    cases F d with
    | true => simp
    | false =>
      cases m d 0 with
      | false => simp
      | true =>
        cases m d 1 with
        | false => simp
        | true =>
          cases m d 2 with
          | false => simp
          | true =>
            cases m d 3 with
            | false => simp
            | true => simp
def ntV (M : gM) (nr h c d0 : Nat) : Int32 := nT (FBv M) (fun d s => mtB M nr (nI h) c (nI d) (nI s)) (1000 - d0) (d0 + 1)
theorem n9_con {M : gM} {a b w : Int32} (h : w = 1 ∨ w = 2) : f_X9_continueHearing_b145 M a b w = rRet 0 (gset M 9 0 w) := by
  unfold f_X9_continueHearing_b145
  rcases h with h | h
  · rw [h, rf_1, rb_ret, if_neg i10]
  · rw [h, rf_2, rb_ret, if_neg i10]
theorem e_con9 {t nh nc nk ne nr nx ns n : Nat} {M' M : gM} (I : InvP t nh nc nk ne nr nx ns n M) (R : Rf M' M) {h c d0 : Nat} (hh : h < nr) (hc : c < nc) (h69 : M 69 h = nI c) (hd : d0 < 1001) (h70 : M 70 h = nI d0) : f_X9_continueHearing M' (nI h) = if d0 ≤ t then rRet 0 (gset M' 9 0 2) else if ntV M nr h c d0 = -1 then rRet 0 (gset M' 9 0 2) else f_X9_continueHearing_b145 M' (nI h) (ntV M nr h c d0) 0 := by
  obtain ⟨-, ⟨b1, b2, b3, b4, b5, b6, b7⟩, l1, l2, l3, l4, l5, l6, l7, l8⟩ := I.1
  obtain ⟨⟨e137, e138, e139⟩, -⟩ := I.2.2.2.2.2.2.1
  have hg : ∀ F : gR, gI (nI h) 40 F = F := fun F => gI_nI (by omega) (by omega)
  have hch : (nI h).toNatClampNeg = h := nI_clamp (by omega)
  have k := l_nt9 (M := M') (h := h) (c := c) (x := 1) (F := FBv M) (m := fun d s => mtB M nr (nI h) c (nI d) (nI s)) (by omega) (by rw [R.2 137 (by omega), e137]; exact h69) (fun d hd => e_fr9 I R (by omega)) (fun d s _ _ => e_mt9 I R hc _ _ _) (1000 - d0) (d0 + 1) 5000 (by omega) (by omega)
  unfold f_X9_continueHearing
  rw [R.1 41 (by omega), b6, wit_ok hh (by omega), rb_ret, if_neg i10, hg, hch, R.2 138 (by omega), e138, h70, nI_1]
  unfold f_X9_continueHearing_b32
  rw [k]
  unfold f_X9_continueHearing_b113 f_X9_continueHearing_b140
  rw [if_neg i10, hg, hch, R.2 138 (by omega), e138, h70, R.1 1 (by omega), b1, n9_con (Or.inr rfl)]
  by_cases q : d0 ≤ t
  · rw [if_pos (nI_le q (by omega)), if_pos q]
  · rw [if_neg (nI_ge (by omega) (by omega)), if_neg q]
    rfl
theorem st_continueHearing : St_continueHearing Inv := by
  intro n M a hn hI
  obtain ⟨t, nh, nc, nk, ne, nr, nx, ns, I⟩ := hI
  obtain ⟨⟨a1, a2, a3, a4, a5, a6, a7, a8⟩, ⟨b1, b2, b3, b4, b5, b6, b7⟩, l1, l2, l3, l4, l5, l6, l7, l8⟩ := I.1
  obtain ⟨⟨e137, e138, e139⟩, hr⟩ := I.2.2.2.2.2.2.1
  rcases idx_cases a nr (by omega) with ⟨h, hh, rfl⟩ | hb
  · have hg : ∀ F : gR, gI (nI h) 40 F = F := fun F => gI_nI (by omega) (by omega)
    have hch : (nI h).toNatClampNeg = h := nI_clamp (by omega)
    obtain ⟨⟨c, hc, h69⟩, ⟨d0, hd0, h70⟩, -⟩ := hr h hh
    have k8 : f_X8_continueHearing M (nI h) = if d0 ≤ t then rThr 2 M else f_X8_continueHearing_b33 M (nI h) (ntV M nr h c d0) := by
      have k := l_nt8 (M := M) (h := h) (c := c) (F := FBv M) (m := fun d s => mtB M nr (nI h) c (nI d) (nI s)) (by omega) h69 (fun d hd => e_fr8 I (by omega)) (fun d s _ _ => e_mt8 I hc _ _ _) (1000 - d0) (d0 + 1) 5000 (by omega) (by omega)
      have kn : f_X8_nextTime M (nI h) = rRet (ntV M nr h c d0) M := by
        unfold f_X8_nextTime
        rw [hg, hch, h70, nI_1]
        exact k
      unfold f_X8_continueHearing
      rw [c8_Hearing a6 hh (by omega), rb_ret, hg, hch, h70, a1, kn, rb_ret]
      by_cases q : d0 ≤ t
      · rw [if_pos (nI_le q (by omega)), if_pos q]
        unfold f_X8_continueHearing_b33
        rw [if_pos rfl]
      · rw [if_neg (nI_ge (by omega) (by omega)), if_neg q]
    by_cases ok : ¬ d0 ≤ t ∧ ¬ ntV M nr h c d0 = -1
    · obtain ⟨q1, q2⟩ := ok
      obtain ⟨e, s, s1, s2, s3, s4⟩ := (nT_dom (FBv M) (fun d s => mtB M nr (nI h) c (nI d) (nI s)) (1000 - d0) (d0 + 1)).resolve_left q2
      have v : ntV M nr h c d0 = nI (10 * e + s) := s4
      have dv : nI (10 * e + s) / 10 = nI e := by
        rw [show (10 : Int32) = nI 10 from by decide, pk_div (by omega) (by omega) (by omega)]
        exact congrArg nI (by omega)
      have rm : nI (10 * e + s) - nI (10 * e + s) / 10 * 10 = nI s := by
        rw [show (10 : Int32) = nI 10 from by decide, pk_rem (by omega) (by omega) (by omega)]
        exact congrArg nI (by omega)
      refine agI_ok (v := nI (10 * e + s)) (M1 := gset (gset M 70 h (nI e)) 71 h (nI s)) (M2 := gset (gset (gset (gset (gset (gset M 70 h (nI e)) 71 h (nI s)) 10 0 (nI (10 * e + s))) 9 0 0) 138 h (nI e)) 139 h (nI s)) ?_ ?_ rfl rfl ?_
      · have : f_X8_continueHearing_b33 M (nI h) (nI (10 * e + s)) = rRet (nI (10 * e + s)) (gset (gset M 70 h (nI e)) 71 h (nI s)) := by
          unfold f_X8_continueHearing_b33 gNz
          simp only [bM]
          rw [if_neg (m1_ne (by omega)), if_neg (by decide), hg, hch, dv, if_neg (by decide), hg, ← dv, rm, dv]
        unfold f_L_continueHearing
        rw [k8, if_neg q1, v, this, rc_ret]
      · have R : Rf (gset (gset (gset M 70 h (nI e)) 71 h (nI s)) 10 0 (nI (10 * e + s))) M := (((Rf.rfl M).s (by omega) (by omega) _ _).s (by omega) (by omega) _ _).o _
        show f_X9_continueHearing _ (nI h) = _
        rw [e_con9 I R hh hc h69 hd0 h70, if_neg q1, if_neg q2, v]
        unfold f_X9_continueHearing_b145 gNz
        simp only [bM]
        rw [rf_0, rb_ret, if_pos rfl, if_neg (by decide), hg, hch, rm, dv, if_neg (by decide), hg]
      · obtain ⟨g1, g2, g3, g4, g5, g6, g7, g8, g9, g10, g11, g12, g13, g14⟩ := I
        refine ⟨t, nh, nc, nk, ne, nr, nx, ns, g1.up, g2, g3, g4, g5, g6, ⟨⟨e137, ?_, ?_⟩, fun r hr1 => ⟨(hr r hr1).1, ?_, ?_⟩⟩, g8, g9, g10, g11, g12, g13.up, g14⟩
        · show upd (M 138) h (nI e) = upd (M 70) h (nI e)
          rw [e138]
        · show upd (M 139) h (nI s) = upd (M 71) h (nI s)
          rw [e139]
        · exact isIx_upd (f := M 70) ⟨e, by omega, rfl⟩ (hr r hr1).2.1
        · exact isIx_upd (f := M 71) ⟨s, s3, rfl⟩ (hr r hr1).2.2
    · refine agI_no (k := 2) ?_ (by decide) (b := 0) ?_ (inv_no I)
      · have : f_X8_continueHearing M (nI h) = rThr 2 M := by
          rw [k8]
          by_cases q : d0 ≤ t
          · rw [if_pos q]
          · rw [if_neg q]
            unfold f_X8_continueHearing_b33
            rw [if_pos (by
              by_cases z : ntV M nr h c d0 = -1
              · exact z
              · exact absurd ⟨q, z⟩ ok)]
        unfold f_L_continueHearing
        rw [this, rc_thr]
        rfl
      · show f_X9_continueHearing M (nI h) = _
        rw [e_con9 I (Rf.rfl M) hh hc h69 hd0 h70]
        by_cases q : d0 ≤ t
        · rw [if_pos q]
        · rw [if_neg q, if_pos (by
            by_cases z : ntV M nr h c d0 = -1
            · exact z
            · exact absurd ⟨q, z⟩ ok)]
  · refine agI_no (k := 1) ?_ (by decide) (b := 0) ?_ (inv_no I)
    · unfold f_L_continueHearing f_X8_continueHearing
      rw [n8_Hearing a6 hb, rb_thr, rc_thr]
      rfl
    · unfold f_X9_continueHearing
      rw [b6, wit_no (by omega) hb, rb_ret, if_pos rfl]
      unfold f_X9_continueHearing_b32
      show f_X9_continueHearing_lb34 _ M a 0 (-1) 1001 = _
      unfold f_X9_continueHearing_lb34
      rw [if_pos (by decide)]
      unfold f_X9_continueHearing_b113
      rw [if_pos rfl]
      exact n9_con (Or.inl rfl)
