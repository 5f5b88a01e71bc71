abbrev opp (m107 : Nat → Int32) (c p q : Nat) : Prop := m107 (16 * c + p) ≠ -1 ∧ m107 (16 * c + q) ≠ -1 ∧ m107 (16 * c + p) ≠ m107 (16 * c + q)
theorem e_opp8 {M : gM} {c p q : Nat} (hc : c < 8) (hp : p < 16) (hq : q < 16) (b1 : bt (M 28 c) p = true ↔ M 107 (16 * c + p) ≠ -1) (b2 : bt (M 28 c) q = true ↔ M 107 (16 * c + q) ≠ -1) (s1 : M 107 (16 * c + p) ≠ -1 → M 29 (c * 16 + p) = M 107 (16 * c + p)) (s2 : M 107 (16 * c + q) ≠ -1 → M 29 (c * 16 + q) = M 107 (16 * c + q)) : f_X1_areOpposed M (nI c) (nI p) (nI q) = rRet (if opp (M 107) c p q then 1 else 0) M := by
  have hg : ∀ F : gR, gI (nI c) 8 F = F := fun F => gI_nI hc (by omega)
  have hh : ∀ F : gR, gI (nI p) 16 F = F := fun F => gI_nI hp (by omega)
  have hk : ∀ F : gR, gI (nI q) 16 F = F := fun F => gI_nI hq (by omega)
  unfold f_X1_areOpposed
  rw [e_isP8 hc hp b1, rb_ret]
  unfold pV
  by_cases e1 : M 107 (16 * c + p) = -1
  · rw [if_pos e1, if_pos rfl, if_neg (fun h => h.1 e1)]
  · rw [if_neg e1, if_neg i10, e_isP8 hc hq b2, rb_ret]
    unfold pV
    by_cases e2 : M 107 (16 * c + q) = -1
    · rw [if_pos e2, if_pos rfl, if_neg (fun h => h.2.1 e2)]
    · rw [if_neg e2, if_neg i10, hg, hh, hg, hk, nI_clamp (show c < 2 ^ 31 by omega), nI_clamp (show p < 2 ^ 31 by omega), nI_clamp (show q < 2 ^ 31 by omega), s1 e1, s2 e2]
      by_cases e3 : M 107 (16 * c + p) = M 107 (16 * c + q)
      · rw [if_pos e3, if_neg (fun h => h.2.2 e3)]
      · rw [if_neg e3, if_pos ⟨e1, e2, e3⟩]
theorem e_claim9 {M : gM} {nc nk c p q : Nat} {a : Int32} (h6 : M 9 6 = nI nc) (h11 : M 9 11 = nI nk) (l3 : nc ≤ 8) (l4 : nk ≤ 24) (hc : c < nc) (hp : p < 16) (hq : q < 16) : f_X9_claim M (nI c) (nI p) (nI q) a = f_X9_claim_b91 M (nI c) (nI p) (nI q) a 1 (if opp (M 107) c p q ∧ nk < 24 then 1 else 0) := by
  unfold f_X9_claim
  rw [c9_Case h6 hc l3, rb_ret, if_neg i10, c9_Person hp, rb_ret, if_neg i10, c9_Person hq, rb_ret, if_neg i10]
  unfold f_X9_claim_b27
  rw [if_neg i10, h11]
  by_cases e0 : nk < 24
  · rw [show (24 : Int32) = nI 24 from by decide, if_neg (nI_ge e0 (by omega)), e_isP9 (by omega) hp, rb_ret]
    unfold pV
    by_cases e1 : M 107 (16 * c + p) = -1
    · rw [if_pos e1, if_pos rfl, if_neg (fun h => h.1.1 e1)]
      rfl
    · rw [if_neg e1, if_neg i10, e_isP9 (by omega) hq, rb_ret]
      unfold pV
      by_cases e2 : M 107 (16 * c + q) = -1
      · rw [if_pos e2, if_pos rfl, if_neg (fun h => h.1.2.1 e2)]
        rfl
      · rw [if_neg e2, if_neg i10, ix16, ix16, gI_nI (show 16 * c + p < 128 by omega) (by omega), gI_nI (show 16 * c + q < 128 by omega) (by omega), nI_clamp (show 16 * c + p < 2 ^ 31 by omega), nI_clamp (show 16 * c + q < 2 ^ 31 by omega)]
        by_cases e3 : M 107 (16 * c + p) = M 107 (16 * c + q)
        · rw [if_pos e3, if_neg (fun h => h.1.2.2 e3)]
          rfl
        · rw [if_neg e3, if_pos ⟨⟨e1, e2, e3⟩, e0⟩]
  · have e24 : nk = 24 := by omega
    rw [e24, if_pos (by decide), if_neg (fun h => absurd h.2 (by omega))]
    rfl
theorem e_add2 {M : gM} {nk : Nat} {a b c d : Int32} (h : M 3 0 = nI nk) (hn : nk < 24) : f_X2_add M a b c d = rRet (nI nk) (gset (gset (gset (gset (gset (gset (gset M 47 nk a) 48 nk b) 49 nk c) 50 nk d) 51 nk 0) 52 nk (-1)) 3 0 (nI (nk + 1))) := by
  have hc : (nI nk).toNatClampNeg = nk := nI_clamp (by omega)
  have hg : ∀ F : gR, gI (nI nk) 24 F = F := fun F => gI_nI hn (by omega)
  unfold f_X2_add
  rw [h]
  simp only [bV, bM, hg, hc]
  show rRet _ (gset _ 3 0 (M 3 0 + 1)) = _
  rw [h, nI_1]
theorem e_b128 {M : gM} {nk : Nat} {a b c d : Int32} (h : M 9 11 = nI nk) (hn : nk < 24) : f_X9_claim_b128 M a b c d 0 = rRet (nI nk) (gset (gset (gset (gset (gset (gset (gset (gset (gset M 9 0 0) 109 nk a) 110 nk b) 111 nk c) 113 nk d) 114 nk (-1)) 117 nk (-1)) 119 nk (-1)) 9 11 (nI (nk + 1))) := by
  have hc : (nI nk).toNatClampNeg = nk := nI_clamp (by omega)
  have hg : ∀ F : gR, gI (nI nk) 24 F = F := fun F => gI_nI hn (by omega)
  unfold f_X9_claim_b128
  rw [rf_0, rb_ret, if_pos rfl]
  show gI (M 9 11) 24 (bM (gset _ 109 (M 9 11).toNatClampNeg a) _) = _
  rw [h, hg, hc]
  show gI (M 9 11) 24 (bM (gset _ 110 (M 9 11).toNatClampNeg b) _) = _
  rw [h, hg, hc]
  show gI (M 9 11) 24 (bM (gset _ 111 (M 9 11).toNatClampNeg c) _) = _
  rw [h, hg, hc]
  show gI (M 9 11) 24 (bM (gset _ 113 (M 9 11).toNatClampNeg d) _) = _
  rw [h, hg, hc]
  show gI (M 9 11) 24 (bM (gset _ 114 (M 9 11).toNatClampNeg (-1)) _) = _
  rw [h, hg, hc]
  show gI (M 9 11) 24 (bM (gset _ 117 (M 9 11).toNatClampNeg (-1)) _) = _
  rw [h, hg, hc]
  show gI (M 9 11) 24 (bM (gset _ 119 (M 9 11).toNatClampNeg (-1)) _) = _
  rw [h, hg, hc]
  show rRet (upd (upd (M 9) 0 0) 11 (M 9 11 + 1) 11 - 1) (gset _ 9 11 (M 9 11 + 1)) = _
  rw [h, nI_1]
  show rRet (nI (nk + 1) - 1) _ = _
  rw [nI_pred]
