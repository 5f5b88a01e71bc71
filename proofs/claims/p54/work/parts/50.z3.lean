/-! ===== the class's calls of the steps, by what they come to ===== -/
theorem k8_serve {t nh nc nk ne nr nx ns n : Nat} {M : gM} (I : InvP t nh nc nk ne nr nx ns n M) {k w : Nat} (hk : k < nk) (hw : w < 3) : f_X8_serve M (nI k) (nI w) = if seB M ne k then f_X8_serve_b50 M (nI k) (nI w) 1 else f_X8_serve_b50 M (nI k) (nI w) 0 := by
  obtain ⟨⟨a1, a2, a3, a4, a5, a6, a7, a8⟩, ⟨b1, b2, b3, b4, b5, b6, b7⟩, l1, l2, l3, l4, l5, l6, l7, l8⟩ := I.1
  have i3 : (3 : Int32) = nI 3 := by decide
  have hg24 : ∀ F : gR, gI (nI k) 24 F = F := fun F => gI_nI (by omega) (by omega)
  have hck : (nI k).toNatClampNeg = k := nI_clamp (by omega)
  unfold f_X8_serve f_X8_serve_b49 seB
  rw [c8_Claim a4 hk (by omega), rb_ret, if_neg (nI_pos (by omega)), i3, if_pos (nI_lt hw (by omega)), hg24, hck, e_served a5 l5, rb_ret]
  by_cases c1 : M 51 k = 0
  · rw [if_pos c1, decide_eq_true c1]
    by_cases c2 : lsV M ne 0 (nI k) = -1
    · rw [if_pos c2, if_pos rfl, decide_eq_true c2]; rfl
    · rw [if_neg c2, if_neg i10, decide_eq_false c2]; rfl
  · rw [if_neg c1, decide_eq_false c1]; rfl
def E_serve (M : gM) (t ne k w : Nat) : gM := gset (gset (gset (en8 M ne t 0 (nI k) (nI w) 0) 63 ne (M 13 0)) 64 ne (M 14 0)) 63 ne (M 13 0 + gWays w)
theorem o_serve {t nh nc nk ne nr nx ns n : Nat} {M : gM} (I : InvP t nh nc nk ne nr nx ns n M) {k w : Nat} (hk : k < nk) (hw : w < 3) : f_X8_serve M (nI k) (nI w) = if ne < 160 ∧ seB M ne k = true then rRet (nI ne) (E_serve M t ne k w) else rThr 2 M := by
  obtain ⟨⟨a1, a2, a3, a4, a5, a6, a7, a8⟩, ⟨b1, b2, b3, b4, b5, b6, b7⟩, l1, l2, l3, l4, l5, l6, l7, l8⟩ := I.1
  have gr := I.2.2.1.2.2
  rw [k8_serve I hk hw]
  by_cases c0 : ne < 160
  · cases cc : seB M ne k with
    | false =>
      rw [if_neg (by decide), if_neg (fun h => absurd h.2 (by decide))]
      unfold f_X8_serve_b50
      rw [e_allow0, rb_thr]
    | true =>
      rw [if_pos rfl, if_pos ⟨c0, rfl⟩]
      unfold f_X8_serve_b50
      rw [e_allow a5 c0, rb_ret, e_en8r (r := 0) a5 a1 c0 _ _ _ (by decide) (by decide) (fun N => rfl) (by omega) (gr 0 (by omega)).2, rb_ret, gI_nI c0 (by omega), gI_nI hw (by omega), gI_nI c0 (by omega), nI_clamp (show ne < 2 ^ 31 by omega), nI_clamp (show w < 2 ^ 31 by omega)]
      show rRet (nI ne) (gset _ 63 ne (upd (M 63) ne (M 13 0) ne + gWays w)) = _
      rw [upd_eq]
      rfl
  · rw [if_neg (c := ne < 160 ∧ _) (fun h => c0 h.1)]
    unfold f_X8_serve_b50
    rw [e_allowF a5 c0 (by omega), e_allowF a5 c0 (by omega), rb_thr, ite_self]
theorem o_answer {t nh nc nk ne nr nx ns n : Nat} {M : gM} (I : InvP t nh nc nk ne nr nx ns n M) (hn : n ≤ 512) {k : Nat} (hk : k < nk) : f_X8_answer M (nI k) = if ne < 160 ∧ caB M t ne k = true then rRet (nI ne) (en8 M ne t 1 (nI k) 0 0) else rThr 2 M := by
  obtain ⟨⟨a1, a2, a3, a4, a5, a6, a7, a8⟩, ⟨b1, b2, b3, b4, b5, b6, b7⟩, l1, l2, l3, l4, l5, l6, l7, l8⟩ := I.1
  have k8 : f_X8_answer M (nI k) = if caB M t ne k then f_X8_answer_b34 M (nI k) 1 else f_X8_answer_b34 M (nI k) 0 := by
    unfold f_X8_answer f_X8_answer_b33 caB
    rw [c8_Claim a4 hk (by omega), rb_ret, e_un8 I hk, rb_ret]
    cases hu : unB M t ne k with
    | false => rfl
    | true =>
      rw [if_pos rfl, if_neg i10, e_aStart I, rb_ret, e_lateA I (by omega) hk (un_mop hu), rb_ret]
      rcases paV_z t (adV M t ne (nI k)) with z | z
      · rw [z]; rfl
      · rw [z]; rfl
  rw [k8]
  by_cases c0 : ne < 160
  · cases cc : caB M t ne k with
    | false =>
      rw [if_neg (by decide), if_neg (fun h => absurd h.2 (by decide))]
      unfold f_X8_answer_b34
      rw [e_allow0, rb_thr]
    | true =>
      rw [if_pos rfl, if_pos ⟨c0, rfl⟩]
      unfold f_X8_answer_b34
      rw [e_allow a5 c0, rb_ret, e_en8n a5 a1 c0 _ _ _ (Or.inl rfl), rb_ret]
  · rw [if_neg (c := ne < 160 ∧ _) (fun h => c0 h.1)]
    unfold f_X8_answer_b34
    rw [e_allowF a5 c0 (by omega), e_allowF a5 c0 (by omega), rb_thr, ite_self]
def E_motion (M : gM) (t ne k : Nat) : gM := gset (gset (en8 M ne t 2 (nI k) 0 0) 63 ne (M 13 1)) 64 ne (M 14 1)
theorem o_motion {t nh nc nk ne nr nx ns n : Nat} {M : gM} (I : InvP t nh nc nk ne nr nx ns n M) (hn : n ≤ 512) {k : Nat} (hk : k < nk) : f_X8_motion M (nI k) = if ne < 160 ∧ caB M t ne k = true then rRet (nI ne) (E_motion M t ne k) else rThr 2 M := by
  obtain ⟨⟨a1, a2, a3, a4, a5, a6, a7, a8⟩, ⟨b1, b2, b3, b4, b5, b6, b7⟩, l1, l2, l3, l4, l5, l6, l7, l8⟩ := I.1
  have gr := I.2.2.1.2.2
  have k8 : f_X8_motion M (nI k) = if caB M t ne k then f_X8_motion_b34 M (nI k) 1 else f_X8_motion_b34 M (nI k) 0 := by
    unfold f_X8_motion f_X8_motion_b33 caB
    rw [c8_Claim a4 hk (by omega), rb_ret, e_un8 I hk, rb_ret]
    cases hu : unB M t ne k with
    | false => rfl
    | true =>
      rw [if_pos rfl, if_neg i10, e_aStart I, rb_ret, e_lateA I (by omega) hk (un_mop hu), rb_ret]
      rcases paV_z t (adV M t ne (nI k)) with z | z
      · rw [z]; rfl
      · rw [z]; rfl
  rw [k8]
  by_cases c0 : ne < 160
  · cases cc : caB M t ne k with
    | false =>
      rw [if_neg (by decide), if_neg (fun h => absurd h.2 (by decide))]
      unfold f_X8_motion_b34
      rw [e_allow0, rb_thr]
    | true =>
      rw [if_pos rfl, if_pos ⟨c0, rfl⟩]
      unfold f_X8_motion_b34
      rw [e_allow a5 c0, rb_ret, e_en8r (r := 1) a5 a1 c0 _ _ _ (by decide) (by decide) (fun N => rfl) (by omega) (gr 1 (by omega)).2, rb_ret]
      rfl
  · rw [if_neg (c := ne < 160 ∧ _) (fun h => c0 h.1)]
    unfold f_X8_motion_b34
    rw [e_allowF a5 c0 (by omega), e_allowF a5 c0 (by omega), rb_thr, ite_self]
theorem o_respond {t nh nc nk ne nr nx ns n : Nat} {M : gM} (I : InvP t nh nc nk ne nr nx ns n M) (hn : n ≤ 512) {m : Nat} (hm : m < ne) (m2 : M 55 m = 2) : f_X8_respond M (nI m) = if ne < 160 ∧ reB M t ne m = true then rRet (nI ne) (en8 M ne t 3 (M 57 m) (nI m) 0) else rThr 2 M := by
  obtain ⟨⟨a1, a2, a3, a4, a5, a6, a7, a8⟩, ⟨b1, b2, b3, b4, b5, b6, b7⟩, l1, l2, l3, l4, l5, l6, l7, l8⟩ := I.1
  have hg : ∀ F : gR, gI (nI m) 160 F = F := fun F => gI_nI (by omega) (by omega)
  have hc : (nI m).toNatClampNeg = m := nI_clamp (by omega)
  have q8 : f_X8_checkMotion M (nI m) = rRet 0 M := by
    unfold f_X8_checkMotion
    rw [c8_Entry a5 hm (by omega), rb_ret, hg, hc, if_pos m2]
  have k8 : f_X8_respond M (nI m) = if reB M t ne m then f_X8_respond_b35 M (nI m) 1 else f_X8_respond_b35 M (nI m) 0 := by
    unfold f_X8_respond f_X8_respond_b34 reB
    rw [q8, rb_ret, e_opn8 I hm, rb_ret, e_rsp8 I hm, rb_ret, e_late8 I (by omega) hm (Or.inr (Or.inl m2)), rb_ret]
    rcases paV_z t (duV M ne m) with z | z
    · rw [z]
      cases opnV M t ne m <;> cases rspB M t ne (nI m) <;> simp
    · rw [z]
      cases opnV M t ne m <;> cases rspB M t ne (nI m) <;> simp
  rw [k8]
  by_cases c0 : ne < 160
  · cases cc : reB M t ne m with
    | false =>
      rw [if_neg (by decide), if_neg (fun h => absurd h.2 (by decide))]
      unfold f_X8_respond_b35
      rw [e_allow0, rb_thr]
    | true =>
      rw [if_pos rfl, if_pos ⟨c0, rfl⟩]
      unfold f_X8_respond_b35
      rw [e_allow a5 c0, rb_ret, hg, hc, e_en8n a5 a1 c0 _ _ _ (Or.inr (Or.inl rfl)), rb_ret]
  · rw [if_neg (c := ne < 160 ∧ _) (fun h => c0 h.1)]
    unfold f_X8_respond_b35
    rw [e_allowF a5 c0 (by omega), e_allowF a5 c0 (by omega), rb_thr, ite_self]
theorem o_settle {t nh nc nk ne nr nx ns n : Nat} {M : gM} (I : InvP t nh nc nk ne nr nx ns n M) {k : Nat} (hk : k < nk) : f_X8_settle M (nI k) = if ne < 160 ∧ stB M k = true then rRet (nI ne) (gset (en8 M ne t 9 (nI k) 0 0) 51 k 4) else rThr 2 M := by
  obtain ⟨⟨a1, a2, a3, a4, a5, a6, a7, a8⟩, ⟨b1, b2, b3, b4, b5, b6, b7⟩, l1, l2, l3, l4, l5, l6, l7, l8⟩ := I.1
  have hg24 : ∀ F : gR, gI (nI k) 24 F = F := fun F => gI_nI (by omega) (by omega)
  have hck : (nI k).toNatClampNeg = k := nI_clamp (by omega)
  have k8 : f_X8_settle M (nI k) = if stB M k then f_X8_settle_b35 M (nI k) 1 else f_X8_settle_b35 M (nI k) 0 := by
    unfold f_X8_settle f_X8_settle_b30 stB
    rw [c8_Claim a4 hk (by omega), rb_ret, hg24, hck]
    simp only [bV]
    by_cases c1 : M 51 k = 0
    · rw [if_pos c1, decide_eq_true c1]; rfl
    · rw [if_neg c1, decide_eq_false c1]
      by_cases c2 : M 51 k = 2
      · rw [if_pos c2, decide_eq_true c2]; rfl
      · rw [if_neg c2, decide_eq_false c2]
        by_cases c3 : M 51 k = 3
        · rw [if_pos c3, decide_eq_true c3]; rfl
        · rw [if_neg c3, decide_eq_false c3]; rfl
  rw [k8]
  by_cases c0 : ne < 160
  · cases cc : stB M k with
    | false =>
      rw [if_neg (by decide), if_neg (fun h => absurd h.2 (by decide))]
      unfold f_X8_settle_b35
      rw [e_allow0, rb_thr]
    | true =>
      rw [if_pos rfl, if_pos ⟨c0, rfl⟩]
      unfold f_X8_settle_b35
      rw [e_allow a5 c0, rb_ret, e_en8n a5 a1 c0 _ _ _ (Or.inr (Or.inr (Or.inr (Or.inl rfl)))), rb_ret, hg24, hck]
      rfl
  · rw [if_neg (c := ne < 160 ∧ _) (fun h => c0 h.1)]
    unfold f_X8_settle_b35
    rw [e_allowF a5 c0 (by omega), e_allowF a5 c0 (by omega), rb_thr, ite_self]
theorem o_appeal {t nh nc nk ne nr nx ns n : Nat} {M : gM} (I : InvP t nh nc nk ne nr nx ns n M) (hn : n ≤ 512) {k : Nat} (hk : k < nk) : f_X8_appeal M (nI k) = if ne < 160 ∧ apB M t ne k = true then rRet (nI ne) (gset (en8 M ne t 7 (nI k) 0 0) 51 k 3) else rThr 2 M := by
  obtain ⟨⟨a1, a2, a3, a4, a5, a6, a7, a8⟩, ⟨b1, b2, b3, b4, b5, b6, b7⟩, l1, l2, l3, l4, l5, l6, l7, l8⟩ := I.1
  have hg24 : ∀ F : gR, gI (nI k) 24 F = F := fun F => gI_nI (by omega) (by omega)
  have hck : (nI k).toNatClampNeg = k := nI_clamp (by omega)
  have k8 : f_X8_appeal M (nI k) = if apB M t ne k then f_X8_appeal_b63 M (nI k) 1 else f_X8_appeal_b63 M (nI k) 0 := by
    unfold f_X8_appeal f_X8_appeal_b62 apB
    rw [c8_Claim a4 hk (by omega), rb_ret, hg24, hg24, hck]
    by_cases c1 : M 51 k = 2
    · obtain ⟨j, j1, j2, j3, j4, j5, -⟩ := lv_J I hk (Or.inl c1)
      obtain ⟨e, e1, e2, e3, e4, -⟩ := ap_dom I hk c1
      have hn160 := apN_le (M := M) l5 j1 j5
      have hkd : kdD (M 55 e) := by
        rcases e4 with h | h
        · exact Or.inr (Or.inr (Or.inr (Or.inl h)))
        · exact Or.inr (Or.inr (Or.inr (Or.inr (Or.inr h))))
      have ee : epV M ne k = duV M ne e := by
        unfold epV
        rw [if_pos c1, e2, nI_clamp (show e < 2 ^ 31 by omega)]
      rw [if_pos c1, decide_eq_true c1, Bool.true_and, e_since8 a5 l5 j1 j5, rb_ret, e_apStart a5 l5, rb_ret, e2, e_late8 I (by omega) e1 hkd, rb_ret, ee]
      by_cases c2 : M 53 k = 0
      · rw [if_pos c2, decide_eq_true c2, Bool.true_and, show (2 : Int32) = nI 2 from by decide]
        by_cases c3 : apN M ne k ≤ 1
        · rw [if_neg (nI_ge (by omega) (by omega)), decide_eq_true c3, Bool.true_and]
          rcases paV_z t (duV M ne e) with z | z
          · rw [z]; rfl
          · rw [z]; rfl
        · rw [if_pos (nI_le (by omega) (by omega)), decide_eq_false c3]; rfl
      · rw [if_neg c2, decide_eq_false c2]; rfl
    · rw [if_neg c1, decide_eq_false c1]; rfl
  rw [k8]
  by_cases c0 : ne < 160
  · cases cc : apB M t ne k with
    | false =>
      rw [if_neg (by decide), if_neg (fun h => absurd h.2 (by decide))]
      unfold f_X8_appeal_b63
      rw [e_allow0, rb_thr]
    | true =>
      rw [if_pos rfl, if_pos ⟨c0, rfl⟩]
      unfold f_X8_appeal_b63
      rw [e_allow a5 c0, rb_ret, e_en8n a5 a1 c0 _ _ _ (Or.inr (Or.inr (Or.inl rfl))), rb_ret, hg24, hck]
      rfl
  · rw [if_neg (c := ne < 160 ∧ _) (fun h => c0 h.1)]
    unfold f_X8_appeal_b63
    rw [e_allowF a5 c0 (by omega), e_allowF a5 c0 (by omega), rb_thr, ite_self]
