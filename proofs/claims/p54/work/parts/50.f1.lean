theorem fuel {f d : Nat} (h : d < f) : ∃ g, f = g + 1 := ⟨f - 1, by omega⟩
theorem l_leadsOthers {M : gM} {a : Int32} {nc : Nat} (h : M 2 0 = nI nc) (h8 : nc ≤ 8) : ∀ (d i f : Nat), i + d = nc → d < f →
    ((∃ j, i ≤ j ∧ j < nc ∧ M 26 j = a) → f_X1_leadsOthers_l2 f M a (nI i) = rRet 1 M) ∧ ((∀ j, i ≤ j → j < nc → M 26 j ≠ a) → f_X1_leadsOthers_l2 f M a (nI i) = rRet 0 M) := by
  intro d
  induction d with
  | zero =>
    intro i f hi hf
    obtain ⟨g, rfl⟩ := fuel hf
    refine ⟨fun ⟨j, h1, h2, _⟩ => by omega, fun _ => ?_⟩
    show f_X1_leadsOthers_lb2 _ M a (nI i) = _
    unfold f_X1_leadsOthers_lb2
    rw [h, if_pos (nI_le (by omega) (by omega))]
  | succ d ih =>
    intro i f hi hf
    obtain ⟨g, rfl⟩ := fuel hf
    have hu : f_X1_leadsOthers_l2 (g + 1) M a (nI i) = if M 26 i = a then rRet 1 M else f_X1_leadsOthers_l2 g M a (nI (i + 1)) := by
      show f_X1_leadsOthers_lb2 _ M a (nI i) = _
      unfold f_X1_leadsOthers_lb2
      rw [h, if_neg (nI_ge (by omega) (by omega)), gI_nI (show i < 8 by omega) (by omega), nI_clamp (show i < 2 ^ 31 by omega)]
      show (if M 26 i = a then rRet 1 M else f_X1_leadsOthers_l2 g M a (nI i + 1)) = _
      rw [nI_1]
    have hI := ih (i + 1) g (by omega) (by omega)
    refine ⟨fun ⟨j, h1, h2, h3⟩ => ?_, fun hno => ?_⟩
    · rw [hu]
      by_cases c : M 26 i = a
      · rw [if_pos c]
      · rw [if_neg c]
        have hj : j ≠ i := fun e => c (e ▸ h3)
        exact hI.1 ⟨j, by omega, h2, h3⟩
    · rw [hu, if_neg (hno i (Nat.le_refl i) (by omega))]
      exact hI.2 (fun j h1 h2 => hno j (by omega) h2)
theorem l_leads1 {M : gM} {a : Int32} {nc : Nat} (h : M 9 6 = nI nc) (h8 : nc ≤ 8) : ∀ (d i f : Nat), i + d = nc → d < f → f_X9_leads_l4 f M a 1 (nI i) = rRet 1 M := by
  intro d
  induction d with
  | zero =>
    intro i f hi hf
    obtain ⟨g, rfl⟩ := fuel hf
    show f_X9_leads_lb4 _ M a 1 (nI i) = _
    unfold f_X9_leads_lb4
    rw [h, if_pos (nI_le (by omega) (by omega)), z01_eq (Or.inr rfl)]
  | succ d ih =>
    intro i f hi hf
    obtain ⟨g, rfl⟩ := fuel hf
    show f_X9_leads_lb4 _ M a 1 (nI i) = _
    unfold f_X9_leads_lb4
    rw [h, if_neg (nI_ge (by omega) (by omega)), if_neg i10]
    show f_X9_leads_l4 g M a 1 (nI i + 1) = _
    rw [nI_1]
    exact ih (i + 1) g (by omega) (by omega)
theorem l_leads0 {M : gM} {a : Int32} {nc : Nat} (h : M 9 6 = nI nc) (h8 : nc ≤ 8) : ∀ (d i f : Nat), i + d = nc → d < f →
    ((∃ j, i ≤ j ∧ j < nc ∧ M 106 j = a) → f_X9_leads_l4 f M a 0 (nI i) = rRet 1 M) ∧ ((∀ j, i ≤ j → j < nc → M 106 j ≠ a) → f_X9_leads_l4 f M a 0 (nI i) = rRet 0 M) := by
  intro d
  induction d with
  | zero =>
    intro i f hi hf
    obtain ⟨g, rfl⟩ := fuel hf
    refine ⟨fun ⟨j, h1, h2, _⟩ => by omega, fun _ => ?_⟩
    show f_X9_leads_lb4 _ M a 0 (nI i) = _
    unfold f_X9_leads_lb4
    rw [h, if_pos (nI_le (by omega) (by omega)), z01_eq (Or.inl rfl)]
  | succ d ih =>
    intro i f hi hf
    obtain ⟨g, rfl⟩ := fuel hf
    have hu : f_X9_leads_l4 (g + 1) M a 0 (nI i) = if M 106 i = a then rRet 1 M else f_X9_leads_l4 g M a 0 (nI (i + 1)) := by
      show f_X9_leads_lb4 _ M a 0 (nI i) = _
      unfold f_X9_leads_lb4 f_X9_leads_b26
      rw [h, if_neg (nI_ge (by omega) (by omega)), if_pos rfl, gI_nI (show i < 8 by omega) (by omega), nI_clamp (show i < 2 ^ 31 by omega)]
      show (if M 106 i = a then f_X9_leads_l4 g M a 1 (nI i + 1) else f_X9_leads_l4 g M a 0 (nI i + 1)) = _
      rw [nI_1, l_leads1 h h8 d (i + 1) g (by omega) (by omega)]
    have hI := ih (i + 1) g (by omega) (by omega)
    refine ⟨fun ⟨j, h1, h2, h3⟩ => ?_, fun hno => ?_⟩
    · rw [hu]
      by_cases c : M 106 i = a
      · rw [if_pos c]
      · rw [if_neg c]
        have hj : j ≠ i := fun e => c (e ▸ h3)
        exact hI.1 ⟨j, by omega, h2, h3⟩
    · rw [hu, if_neg (hno i (Nat.le_refl i) (by omega))]
      exact hI.2 (fun j h1 h2 => hno j (by omega) h2)
theorem e_leadsOthers {M : gM} {a : Int32} {nc : Nat} (h : M 2 0 = nI nc) (h8 : nc ≤ 8) : ((∃ j, j < nc ∧ M 26 j = a) → f_X1_leadsOthers M a = rRet 1 M) ∧ ((∀ j, j < nc → M 26 j ≠ a) → f_X1_leadsOthers M a = rRet 0 M) := by
  have k := l_leadsOthers (a := a) h h8 nc 0 5000 (by omega) (by omega)
  rw [nI_0] at k
  exact ⟨fun ⟨j, h1, h2⟩ => k.1 ⟨j, Nat.zero_le j, h1, h2⟩, fun hn => k.2 (fun j _ h1 => hn j h1)⟩
theorem e_leads {M : gM} {a : Int32} {nc : Nat} (h : M 9 6 = nI nc) (h8 : nc ≤ 8) : ((∃ j, j < nc ∧ M 106 j = a) → f_X9_leads M a = rRet 1 M) ∧ ((∀ j, j < nc → M 106 j ≠ a) → f_X9_leads M a = rRet 0 M) := by
  have k := l_leads0 (a := a) h h8 nc 0 5000 (by omega) (by omega)
  rw [nI_0] at k
  exact ⟨fun ⟨j, h1, h2⟩ => k.1 ⟨j, Nat.zero_le j, h1, h2⟩, fun hn => k.2 (fun j _ h1 => hn j h1)⟩
theorem m1_ne {i : Nat} (h : i < 2 ^ 31) : ¬ nI i = -1 := by
  intro e
  have := congrArg Int32.toInt e
  rw [nI_toInt h] at this
  have h2 : (-1 : Int32).toInt = -1 := by decide
  omega
theorem e_lead9 {M : gM} {i nc : Nat} {b : Int32} (h : M 9 6 = nI nc) (h8 : nc ≤ 8) (hi : i < nc) (hm : ¬ b = -1) : f_X9_lead M (nI i) b = rb (f_X9_isCase M b) (fun x10 M9 => if x10 = 0 then f_X9_lead_b25 M9 (nI i) b else f_X9_lead_b21 M9 (nI i) b) := by
  unfold f_X9_lead
  rw [c9_Case h hi h8, rb_ret, if_neg i10, if_neg hm]
theorem e_lead26 {M : gM} {a b : Int32} (hm : ¬ b = -1) : f_X9_lead_b21 M a b = if a = b then f_X9_lead_b85 M a b 2 else rb (f_X9_leads M a) (fun x6 M5 => if x6 = 0 then gI b 8 (if M5 106 b.toNatClampNeg = -1 then f_X9_lead_b85 M5 a b 0 else f_X9_lead_b85 M5 a b 2) else f_X9_lead_b85 M5 a b 2) := by
  unfold f_X9_lead_b21 f_X9_lead_b26
  rw [if_neg i10, if_neg hm]
  unfold f_X9_lead_b63 f_X9_lead_b59 f_X9_lead_b64
  rfl
theorem st_lead : St_lead Inv := by
  intro n M a b hn hI
  obtain ⟨t, nh, nc, nk, ne, nr, nx, ns, I⟩ := hI
  obtain ⟨⟨a1, a2, a3, a4, a5, a6, a7, a8⟩, ⟨b1, b2, b3, b4, b5, b6, b7⟩, l1, l2, l3, l4, l5, l6, l7, l8⟩ := I.1
  have e106 : M 106 = M 26 := I.2.2.2.2.1.1.2.1
  rcases idx_cases a nc (by omega) with ⟨i, hi, rfl⟩ | hb
  · have hc : (nI i).toNatClampNeg = i := nI_clamp (by omega)
    have hg : ∀ F : gR, gI (nI i) 8 F = F := fun F => gI_nI (by omega) (by omega)
    have ok : (b = -1 ∨ isIx nc b) → f_X8_lead M (nI i) b = rRet (M 26 i) (gset M 26 i b) → (∀ M' : gM, M' 9 6 = nI nc → M' 106 = M 26 → f_X9_lead M' (nI i) b = f_X9_lead_b85 M' (nI i) b 0) → AgI (f_L_lead M (nI i) b) (fun M1 => f_X9_lead M1 (nI i) b) (Inv (n + 1)) := by
      intro hbx h8 h9
      refine agI_ok (v := M 26 i) (M1 := gset M 26 i b) (M2 := gset (gset (gset (gset M 26 i b) 10 0 (M 26 i)) 9 0 0) 106 i b) ?_ ?_ rfl rfl ?_
      · simp only [f_L_lead, h8, rc_ret]
      · refine Eq.trans (h9 _ b3 e106) ?_
        unfold f_X9_lead_b85
        rw [rf_0, rb_ret, if_pos rfl, hg, hc]
        show gI _ _ (rRet (M 106 i) _) = _
        rw [hg, e106]
      · obtain ⟨h1, h2, h3, h4, ⟨⟨c1, c2, c3⟩, c4, c5⟩, h6, h7, hx, h9, h10, h11, h12, h13, h14⟩ := I
        refine ⟨t, nh, nc, nk, ne, nr, nx, ns, h1.up, h2, h3, h4, ⟨⟨c1, ?_, c3⟩, fun c hc9 => ?_, c5⟩, h6, h7, hx, h9, h10, h11, h12, h13.up, h14⟩
        · show upd (M 106) i b = upd (M 26) i b
          rw [c2]
        · show upd (M 26) i b c = -1 ∨ isIx nc (upd (M 26) i b c)
          rw [upd_at]
          by_cases e : c = i
          · rw [if_pos e]
            exact hbx
          · rw [if_neg e]
            exact c4 c hc9
    by_cases hm : b = -1
    · refine ok (Or.inl hm) ?_ (fun M' h1 h2 => ?_)
      · simp only [f_X8_lead, c8_Case a3 hi (show nc ≤ 8 by omega), rb_ret, if_pos hm, f_X8_lead_b54, hg, hc, bV, bM]
      · simp only [f_X9_lead, c9_Case h1 hi (show nc ≤ 8 by omega), rb_ret, if_neg i10, if_pos hm, f_X9_lead_b21, f_X9_lead_b26, f_X9_lead_b59, f_X9_lead_b64]
    · rcases idx_cases b nc (by omega) with ⟨j, hj, rfl⟩ | hb
      · have hd : (nI j).toNatClampNeg = j := nI_clamp (by omega)
        have hh : ∀ F : gR, gI (nI j) 8 F = F := fun F => gI_nI (by omega) (by omega)
        have no : f_X8_lead M (nI i) (nI j) = rThr 2 M → f_X9_lead M (nI i) (nI j) = f_X9_lead_b85 M (nI i) (nI j) 2 → AgI (f_L_lead M (nI i) (nI j)) (fun M1 => f_X9_lead M1 (nI i) (nI j)) (Inv (n + 1)) := by
          intro h8 h9
          refine agI_no (k := 2) ?_ (by decide) (b := 0) ?_ (inv_no I)
          · simp only [f_L_lead, h8, rc_thr]
            rfl
          · exact h9.trans rfl
        by_cases hij : j = i
        · subst hij
          refine no ?_ ?_
          · simp only [f_X8_lead, c8_Case a3 hi (show nc ≤ 8 by omega), rb_ret, if_neg hm, if_true]
          · rw [e_lead9 b3 l3 hi hm, c9_Case b3 hi l3, rb_ret, if_neg i10, e_lead26 hm, if_pos rfl]
        · have hne : ¬ nI j = nI i := fun e => hij ((nI_eq (by omega) (by omega)).mp e)
          have hne2 : ¬ nI i = nI j := fun e => hne e.symm
          by_cases hl : ∃ q, q < nc ∧ M 26 q = nI i
          · have k8 : f_X1_leadsOthers M (nI i) = rRet 1 M := (e_leadsOthers a3 l3).1 hl
            have k9 : f_X9_leads M (nI i) = rRet 1 M := (e_leads b3 l3).1 (by rw [e106]; exact hl)
            refine no ?_ ?_
            · simp only [f_X8_lead, c8_Case a3 hi (show nc ≤ 8 by omega), c8_Case a3 hj (show nc ≤ 8 by omega), rb_ret, if_neg hm, if_neg hne, k8, if_neg i10]
            · rw [e_lead9 b3 l3 hi hm, c9_Case b3 hj l3, rb_ret, if_neg i10, e_lead26 hm, if_neg hne2, k9, rb_ret, if_neg i10]
          · have hl2 : ∀ q, q < nc → M 26 q ≠ nI i := fun q h1 h2 => hl ⟨q, h1, h2⟩
            have k8 : f_X1_leadsOthers M (nI i) = rRet 0 M := (e_leadsOthers a3 l3).2 hl2
            have k9 : ∀ M' : gM, M' 9 6 = nI nc → M' 106 = M 26 → f_X9_leads M' (nI i) = rRet 0 M' := by
              intro M' h1 h2
              exact (e_leads h1 l3).2 (by rw [h2]; exact hl2)
            by_cases hz : M 26 j = -1
            · refine ok (Or.inr ⟨j, hj, rfl⟩) ?_ (fun M' h1 h2 => ?_)
              · simp only [f_X8_lead, c8_Case a3 hi (show nc ≤ 8 by omega), c8_Case a3 hj (show nc ≤ 8 by omega), rb_ret, if_neg hm, if_neg hne, k8, if_true, hh, hd, if_pos hz, f_X8_lead_b54, hg, hc, bV, bM]
              · rw [e_lead9 h1 l3 hi hm, c9_Case h1 hj l3, rb_ret, if_neg i10, e_lead26 hm, if_neg hne2, k9 M' h1 h2, rb_ret, if_pos rfl, hh, hd, h2, if_pos hz]
            · refine no ?_ ?_
              · simp only [f_X8_lead, c8_Case a3 hi (show nc ≤ 8 by omega), c8_Case a3 hj (show nc ≤ 8 by omega), rb_ret, if_neg hm, if_neg hne, k8, if_true, hh, hd, if_neg hz]
              · rw [e_lead9 b3 l3 hi hm, c9_Case b3 hj l3, rb_ret, if_neg i10, e_lead26 hm, if_neg hne2, k9 M b3 e106, rb_ret, if_pos rfl, hh, hd, e106, if_neg hz]
      · refine agI_no (k := 1) ?_ (by decide) (b := 0) ?_ (inv_no I)
        · simp only [f_L_lead, f_X8_lead, c8_Case a3 hi (show nc ≤ 8 by omega), rb_ret, if_neg hm, n8_Case a3 hb, rb_thr, rc_thr]
          rfl
        · rw [e_lead9 b3 l3 hi hm, n9_Case b3 l3 hb, rb_ret, if_pos rfl]
          rfl
  · refine agI_no (k := 1) ?_ (by decide) (b := 0) ?_ (inv_no I)
    · simp only [f_L_lead, f_X8_lead, n8_Case a3 hb, rb_thr, rc_thr]
      rfl
    · simp only [f_X9_lead, n9_Case b3 (show nc ≤ 8 by omega) hb, rb_ret]
      rfl
