def wasV (m38 m107 : Nat → Int32) (c p : Nat) (d : Int32) : Int32 := if m107 (16 * c + p) = -1 then 0 else if d < m38 (16 * c + p) then 0 else 1
theorem wasV_z (m38 m107 : Nat → Int32) (c p : Nat) (d : Int32) : z01 (wasV m38 m107 c p d) := by
  unfold wasV
  by_cases h : m107 (16 * c + p) = -1
  · rw [if_pos h]
    exact Or.inl rfl
  · rw [if_neg h]
    by_cases h2 : d < m38 (16 * c + p)
    · rw [if_pos h2]
      exact Or.inl rfl
    · rw [if_neg h2]
      exact Or.inr rfl
theorem e_was8 {M : gM} {c p : Nat} {d : Int32} (hc : c < 8) (hp : p < 16) (h : bt (M 28 c) p = true ↔ M 107 (16 * c + p) ≠ -1) : f_X1_wasParty M (nI c) (nI p) d = rRet (wasV (M 38) (M 107) c p d) M := by
  unfold f_X1_wasParty
  rw [e_isP8 hc hp h, rb_ret]
  unfold pV wasV
  by_cases e : M 107 (16 * c + p) = -1
  · rw [if_pos e, if_pos rfl, if_pos e]
  · rw [if_neg e, if_neg i10, if_neg e, gI_nI hc (by omega), gI_nI hp (by omega), nI_clamp (show c < 2 ^ 31 by omega), nI_clamp (show p < 2 ^ 31 by omega), show c * 16 + p = 16 * c + p by omega]
    by_cases e2 : d < M 38 (16 * c + p)
    · rw [if_pos e2, if_pos e2]
    · rw [if_neg e2, if_neg e2]
theorem e_was9 {M : gM} {c p : Nat} {d : Int32} (hc : c < 8) (hp : p < 16) : f_X9_maySee_b119 M (nI p) d (nI c) = rRet (wasV (M 108) (M 107) c p d) M := by
  unfold f_X9_maySee_b119
  rw [e_isP9 hc hp, rb_ret]
  unfold pV wasV
  by_cases e : M 107 (16 * c + p) = -1
  · rw [if_pos e, if_pos rfl, if_pos e]
  · rw [if_neg e, if_neg i10, if_neg e, ix16, gI_nI (show 16 * c + p < 128 by omega) (by omega), nI_clamp (show 16 * c + p < 2 ^ 31 by omega)]
    by_cases e2 : d < M 108 (16 * c + p)
    · rw [if_pos e2, if_pos e2]
    · rw [if_neg e2, if_neg e2]
/-- the case that an entry speaks of -/
theorem e_case {t nc nk ne n : Nat} {nh nr nx ns : Nat} {M : gM} (I : InvP t nh nc nk ne nr nx ns n M) (l3 : nc ≤ 8) (l4 : nk ≤ 24) (l5 : ne ≤ 160) {e : Nat} (he : e < ne) : ∃ c, c < nc ∧ f_X8_caseOfEntry M (nI e) = rRet (nI c) M ∧ ((M 55 e < 11 ∧ isIx nk (M 57 e) ∧ M 47 (M 57 e).toNatClampNeg = nI c) ∨ (¬ M 55 e < 11 ∧ M 57 e = nI c)) := by
  obtain ⟨k, d, hk, hd, h55, -, g1, g2⟩ := I.2.2.2.2.2.2.2.2.2.2.1.2.1 e he
  have hc : (nI e).toNatClampNeg = e := nI_clamp (by omega)
  have hg : ∀ F : gR, gI (nI e) 160 F = F := fun F => gI_nI (by omega) (by omega)
  have e11 : (11 : Int32) = nI 11 := by decide
  have e12 : (12 : Int32) = nI 12 := by decide
  by_cases h11 : 11 ≤ k
  · obtain ⟨c, hc9, hA⟩ := g1 h11
    have hof : f_X3_isOfCase M (nI e) = rRet 1 M := by
      unfold f_X3_isOfCase
      rw [hg, hc, h55, hg, e11, e12]
      by_cases z : k = 11
      · rw [z, if_pos rfl]
      · have z2 : k = 12 := by omega
        rw [z2, if_neg (by decide), if_pos rfl]
    refine ⟨c, hc9, ?_, Or.inr ⟨?_, hA⟩⟩
    · unfold f_X8_caseOfEntry
      rw [hg, hc]
      simp only [bV]
      rw [hof, rb_ret, if_neg i10, hA]
    · rw [h55, e11]
      exact nI_nlt h11 (by omega)
  · obtain ⟨j, hj, hA⟩ := g2 (by omega)
    obtain ⟨c, p, q, hc9, -, -, -, h47, -⟩ := I.2.2.2.2.2.1.2.1 j hj
    have hof : f_X3_isOfCase M (nI e) = rRet 0 M := by
      unfold f_X3_isOfCase
      rw [hg, hc, h55, hg, e11, e12, if_neg (fun z => h11 (by have := (nI_eq (by omega) (by omega)).mp z; omega)), if_neg (fun z => h11 (by have := (nI_eq (by omega) (by omega)).mp z; omega))]
    refine ⟨c, hc9, ?_, Or.inl ⟨?_, ⟨j, hj, hA⟩, ?_⟩⟩
    · unfold f_X8_caseOfEntry
      rw [hg, hc]
      simp only [bV]
      rw [hof, rb_ret, if_pos rfl, hA, gI_nI (show j < 24 by omega) (by omega), nI_clamp (show j < 2 ^ 31 by omega), h47]
    · rw [h55, e11]
      exact nI_lt (by omega) (by omega)
    · rw [hA, nI_clamp (by omega), h47]
theorem st_maySee : St_maySee Inv := by
  intro n M a b d hn hI
  obtain ⟨t, nh, nc, nk, ne, nr, nx, ns, I⟩ := hI
  obtain ⟨⟨a1, a2, a3, a4, a5, a6, a7, a8⟩, ⟨b1, b2, b3, b4, b5, b6, b7⟩, l1, l2, l3, l4, l5, l6, l7, l8⟩ := I.1
  have no1 : f_X8_maySee M a b d = rThr 0 M → f_X9_maySee M a b d = f_X9_maySee_b19 M a b d → AgB (f_L_maySee M a b d) (fun M1 => f_X9_maySee M1 a b d) (Inv (n + 1)) := by
    intro h8 h9
    refine agB_no (k := 1) ?_ (by decide) (b := 0) (h9.trans ?_) (inv_no I)
    · unfold f_L_maySee
      rw [h8, rc_thr]
      rfl
    · unfold f_X9_maySee_b19 f_X9_maySee_b20
      rw [if_pos rfl]
      unfold f_X9_maySee_b49
      rw [rf_1, rb_ret, if_neg i10]
  rcases idx_cases a ne (by omega) with ⟨e, he, rfl⟩ | hb
  · rcases idx_cases b 16 (by omega) with ⟨p, hp, rfl⟩ | hb
    · rcases rng_cases d 0 t (by omega) (by omega) with ⟨x, -, x2, rfl⟩ | hb
      · have hc : (nI e).toNatClampNeg = e := nI_clamp (by omega)
        have hg : ∀ F : gR, gI (nI e) 160 F = F := fun F => gI_nI (by omega) (by omega)
        obtain ⟨g1, g2, g3⟩ := I.2.2.2.2.2.2.2.2.2.1
        obtain ⟨c, hcn, hce, hcc⟩ := e_case I l3 l4 l5 he
        have gp := I.2.2.2.2.1.2.2.1 c (by omega) p hp
        obtain ⟨⟨q1, q2, q3, -⟩, -⟩ := I.2.2.2.2.2.2.2.2.2.2.1
        have e108 : M 108 = M 38 := I.2.2.2.2.1.1.2.2
        have e109 : M 109 = M 47 := I.2.2.2.2.2.1.1.1
        have hs := g3 e (by omega) x (by omega)
        have hz : z01 (sSeal (M 99) (M 100) (M 101) (nI e) (nI x) ns) := sSeal_z g2 ns
        obtain ⟨w, hw, hw1⟩ : ∃ w : Int32, z01 w ∧ (if sSeal (M 99) (M 100) (M 101) (nI e) (nI x) ns = 0 then (if nI x < M 56 e then 0 else 1) else wasV (M 38) (M 107) c p (nI x)) = w := by
          refine ⟨_, ?_, rfl⟩
          by_cases z : sSeal (M 99) (M 100) (M 101) (nI e) (nI x) ns = 0
          · rw [if_pos z]
            by_cases z2 : nI x < M 56 e
            · rw [if_pos z2]
              exact Or.inl rfl
            · rw [if_neg z2]
              exact Or.inr rfl
          · rw [if_neg z]
            exact wasV_z _ _ _ _ _
        have e8 : f_X8_maySee M (nI e) (nI p) (nI x) = rRet w M := by
          unfold f_X8_maySee
          rw [c8_Entry a5 he l5, rb_ret, c8_Person hp, rb_ret, if_neg (nI_pos (by omega)), a1, if_pos (nI_le x2 (by omega)), e_isSealed a8 (by omega) g2, rb_ret, hg, hc, hce, rb_ret, e_was8 (by omega) hp gp.1, rb_ret, z01_eq (wasV_z _ _ _ _ _), ← hw1]
          by_cases z : sSeal (M 99) (M 100) (M 101) (nI e) (nI x) ns = 0
          · rw [if_pos z, if_pos z]
            by_cases z2 : nI x < M 56 e
            · rw [if_pos z2, if_pos z2]
            · rw [if_neg z2, if_neg z2]
          · rw [if_neg z, if_neg z]
        refine agB_ok (v := w) (M1 := M) (M2 := gset (gset M 10 0 (gb w)) 9 0 0) ?_ ?_ rfl rfl (inv_rd I)
        · unfold f_L_maySee
          rw [e8, rc_ret]
          rcases hw with z | z
          · rw [z]
            rfl
          · rw [z]
            rfl
        · have k9 : ∀ M' : gM, M' 9 1 = nI t → M' 9 23 = nI ne → M' 136 = M 136 → M' 120 = M 120 → M' 121 = M 121 → M' 122 = M 122 → M' 109 = M 109 → M' 108 = M 108 → M' 107 = M 107 → f_X9_maySee M' (nI e) (nI p) (nI x) = rRet w (gset M' 9 0 0) := by
            intro M' h1 h2 h3 h4 h5 h6 h7 h8 h9
            unfold f_X9_maySee
            rw [c9_Entry h2 he l5, rb_ret, if_neg i10, c9_Person hp, rb_ret, if_neg i10]
            unfold f_X9_maySee_b20
            rw [if_neg i10, h1, rg_ok (l := 0) (h := t) (by decide) rfl (by omega) x2 (by omega), rb_ret, if_neg i10]
            unfold f_X9_maySee_b49
            rw [rf_0, rb_ret, if_pos rfl, ix901, gI_nI (show 901 * e + x < 144160 by omega) (by omega), nI_clamp (show 901 * e + x < 2 ^ 31 by omega), hg, hc, hg, hg, hg]
            show (if M' 136 (901 * e + x) = 0 then (if nI x < M' 121 e then _ else _) else (if M' 120 e < 11 then gI (M' 122 e) 24 (f_X9_maySee_b119 _ _ _ (M' 109 (M' 122 e).toNatClampNeg)) else f_X9_maySee_b119 _ _ _ (M' 122 e))) = _
            rw [h3, h4, h5, h6, h7, hs, q1, q2, q3, e109, ← hw1]
            by_cases z : sSeal (M 99) (M 100) (M 101) (nI e) (nI x) ns = 0
            · rw [if_pos z, if_pos z]
              by_cases z2 : nI x < M 56 e
              · rw [if_pos z2, if_pos z2]
              · rw [if_neg z2, if_neg z2]
            · rw [if_neg z, if_neg z]
              have kw := e_was9 (M := gset M' 9 0 0) (c := c) (p := p) (d := nI x) (by omega) hp
              rw [show (gset M' 9 0 0) 108 = M 38 from h8.trans e108, show (gset M' 9 0 0) 107 = M 107 from h9] at kw
              rcases hcc with ⟨r1, ⟨j, hj, r2⟩, r3⟩ | ⟨r1, r2⟩
              · rw [if_pos r1]
                rw [r2] at r3
                rw [r2, gI_nI (show j < 24 by omega) (by omega), r3]
                exact kw
              · rw [if_neg r1, r2]
                exact kw
          exact k9 _ b1 b5 rfl rfl rfl rfl rfl rfl rfl
      · refine agB_no (k := 2) ?_ (by decide) (b := 0) ?_ (inv_no I)
        · unfold f_L_maySee f_X8_maySee
          rw [c8_Entry a5 he l5, rb_ret, c8_Person hp, rb_ret, a1]
          rw [nI_0] at hb
          rcases hb with z | ⟨z, z2⟩
          · rw [if_pos z, rc_thr]
            rfl
          · rw [if_neg z, if_neg (Int32.not_le.mpr z2), rc_thr]
            rfl
        · unfold f_X9_maySee
          rw [c9_Entry b5 he l5, rb_ret, if_neg i10, c9_Person hp, rb_ret, if_neg i10]
          unfold f_X9_maySee_b20
          rw [if_neg i10, b1, rg_no (l := 0) (h := t) (by decide) rfl hb, rb_ret, if_pos rfl]
          unfold f_X9_maySee_b49
          rw [rf_2, rb_ret, if_neg i10]
    · refine no1 ?_ ?_
      · unfold f_X8_maySee
        rw [c8_Entry a5 he l5, rb_ret, n8_Person hb, rb_thr]
      · unfold f_X9_maySee
        rw [c9_Entry b5 he l5, rb_ret, if_neg i10, n9_Person hb, rb_ret, if_pos rfl]
  · refine no1 ?_ ?_
    · unfold f_X8_maySee
      rw [n8_Entry a5 hb, rb_thr]
    · unfold f_X9_maySee
      rw [n9_Entry b5 l5 hb, rb_ret, if_pos rfl]
