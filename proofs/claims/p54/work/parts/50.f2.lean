theorem nI_m1 (i : Nat) : nI i + (-1) = nI i - 1 := by
  rw [Int32.sub_eq_add_neg]
theorem e_sealed {M : gM} {e d : Int32} (hz : ∀ i, z01 (M 101 i)) : ∀ (i f : Nat), i ≤ 512 → i < f → f_X7_isSealed_l7 f M e d (nI i - 1) = rRet (sSeal (M 99) (M 100) (M 101) e d i) M := by
  intro i
  induction i with
  | zero =>
    intro f h1 h2
    obtain ⟨g, rfl⟩ : ∃ g, f = g + 1 := ⟨f - 1, by omega⟩
    show f_X7_isSealed_lb7 _ M e d (nI 0 - 1) = _
    unfold f_X7_isSealed_lb7
    rw [if_pos (by decide +kernel)]
    rfl
  | succ i ih =>
    intro f h1 h2
    obtain ⟨g, rfl⟩ : ∃ g, f = g + 1 := ⟨f - 1, by omega⟩
    have hc : (nI i).toNatClampNeg = i := nI_clamp (by omega)
    have hg : ∀ F : gR, gI (nI i) 512 F = F := fun F => gI_nI (by omega) (by omega)
    have hI := ih g (by omega) (by omega)
    show f_X7_isSealed_lb7 _ M e d (nI (i + 1) - 1) = _
    unfold f_X7_isSealed_lb7
    rw [nI_pred, if_neg (nI_pos (by omega)), hg, hg, hg, hc, z01_eq (hz i)]
    show (if M 99 i = e then (if d < M 100 i then f_X7_isSealed_l7 g M e d (nI i + -1) else rRet (M 101 i) M) else f_X7_isSealed_l7 g M e d (nI i + -1)) = _
    rw [nI_m1, hI]
    show _ = rRet (if M 99 i = e then if d < M 100 i then sSeal (M 99) (M 100) (M 101) e d i else M 101 i else sSeal (M 99) (M 100) (M 101) e d i) M
    by_cases c1 : M 99 i = e
    · rw [if_pos c1, if_pos c1]
      by_cases c2 : d < M 100 i
      · rw [if_pos c2, if_pos c2]
      · rw [if_neg c2, if_neg c2]
    · rw [if_neg c1, if_neg c1]
theorem e_isSealed {M : gM} {e d : Int32} {ns : Nat} (h : M 8 0 = nI ns) (hn : ns ≤ 512) (hz : ∀ i, z01 (M 101 i)) : f_X7_isSealed M e d = rRet (sSeal (M 99) (M 100) (M 101) e d ns) M := by
  unfold f_X7_isSealed
  rw [h]
  exact e_sealed hz ns 5000 hn (by omega)
theorem sSeal_z {E D O : Nat → Int32} {e d : Int32} (hz : ∀ i, z01 (O i)) : ∀ i, z01 (sSeal E D O e d i)
  | 0 => Or.inl rfl
  | i + 1 => by
    unfold sSeal
    by_cases c1 : E i = e
    · rw [if_pos c1]
      by_cases c2 : d < D i
      · rw [if_pos c2]
        exact sSeal_z hz i
      · rw [if_neg c2]
        exact hz i
    · rw [if_neg c1]
      exact sSeal_z hz i
theorem sSeal_c {E D O E1 D1 O1 : Nat → Int32} {e d : Int32} : ∀ i, (∀ j, j < i → E1 j = E j ∧ D1 j = D j ∧ O1 j = O j) → sSeal E1 D1 O1 e d i = sSeal E D O e d i
  | 0, _ => rfl
  | i + 1, h => by
    obtain ⟨h1, h2, h3⟩ := h i (by omega)
    unfold sSeal
    rw [h1, h2, h3, sSeal_c i (fun j hj => h j (by omega))]
theorem sSeal_late {E D O : Nat → Int32} {e : Int32} {t d : Nat} (htd : t ≤ d) (hd : d < 2 ^ 31) : ∀ i, (∀ j, j < i → isIx (t + 1) (D j)) → sSeal E D O e (nI d) i = sSeal E D O e (nI t) i
  | 0, _ => rfl
  | i + 1, h => by
    obtain ⟨x, hx, hxe⟩ := h i (by omega)
    unfold sSeal
    rw [hxe, if_neg (nI_nlt (by omega) (by omega)), if_neg (nI_nlt (by omega) (by omega)), sSeal_late htd hd i (fun j hj => h j (by omega))]
def gput (M : gM) (a : Nat) (f : Nat → Int32) : gM := fun b => if b = a then f else M b
def updR (f : Nat → Int32) (lo hi : Nat) (v : Int32) : Nat → Int32 := fun j => if lo ≤ j ∧ j < hi then v else f j
theorem gput_e (M : gM) (a lo : Nat) (v : Int32) : gput M a (updR (M a) lo lo v) = M := by
  funext b j
  unfold gput updR
  by_cases h : b = a
  · rw [if_pos h, if_neg (by omega), h]
  · rw [if_neg h]
theorem gput_s (M : gM) (a lo hi : Nat) (v : Int32) (h : lo < hi) : gput (gset M a lo v) a (updR (gset M a lo v a) (lo + 1) hi v) = gput M a (updR (M a) lo hi v) := by
  funext b j
  unfold gput
  by_cases hb : b = a
  · rw [if_pos hb, if_pos hb, gset_self]
    unfold updR upd
    by_cases c : lo ≤ j ∧ j < hi
    · rw [if_pos c]
      by_cases c2 : lo + 1 ≤ j ∧ j < hi
      · rw [if_pos c2]
      · rw [if_neg c2, if_pos (by omega)]
    · rw [if_neg c, if_neg (by omega), if_neg (by omega)]
  · rw [if_neg hb, if_neg hb, gset_ne hb]
theorem ix901 (e d : Nat) : (901 : Int32) * nI e + nI d = nI (901 * e + d) := by
  rw [show (901 : Int32) = nI 901 from by decide, nI_mul, nI_add]
theorem l_seal9 {e : Nat} {v b : Int32} (he : e < 160) (hv : z01 v) : ∀ (d i f : Nat) (M : gM), i + d = 901 → d < f → f_X9_seal_l44 f M (nI e) v b (nI i) = rRet (if b = v then 0 else 1) (gput M 136 (updR (M 136) (901 * e + i) (901 * e + 901) v)) := by
  intro d
  induction d with
  | zero =>
    intro i f M hi hf
    obtain ⟨g, rfl⟩ := fuel hf
    have e1 : i = 901 := by omega
    subst e1
    rw [gput_e]
    show f_X9_seal_lb44 _ M (nI e) v b (nI 901) = _
    unfold f_X9_seal_lb44
    rw [if_pos (by decide +kernel)]
    by_cases c : b = v
    · rw [if_pos c, if_pos c]
    · rw [if_neg c, if_neg c]
  | succ d ih =>
    intro i f M hi hf
    obtain ⟨g, rfl⟩ := fuel hf
    show f_X9_seal_lb44 _ M (nI e) v b (nI i) = _
    unfold f_X9_seal_lb44
    rw [show (900 : Int32) = nI 900 from by decide, if_neg (nI_nlt (by omega) (by omega)), z01_eq hv, ix901, gI_nI (show 901 * e + i < 144160 by omega) (by omega), nI_clamp (show 901 * e + i < 2 ^ 31 by omega)]
    show f_X9_seal_l44 g (gset M 136 (901 * e + i) v) (nI e) v b (nI i + 1) = _
    rw [nI_1, ih (i + 1) g _ (by omega) (by omega), ← gput_s M 136 (901 * e + i) (901 * e + 901) v (by omega)]
    rfl
