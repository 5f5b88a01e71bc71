theorem e_pop {M : gM} {m : Nat} (h : m < 65536) : f_J6_bitCount_0f7a4 M (nI m) = rRet (nI (sN m 16)) M := by
  have k := pCk_all h
  unfold pCk at k
  rw [Bool.and_eq_true, Bool.and_eq_true, Bool.and_eq_true, Bool.and_eq_true] at k
  obtain ⟨⟨⟨⟨k1, k2⟩, k3⟩, k4⟩, k5⟩ := k
  have k1 := Nat.eq_of_beq_eq_true k1
  have k2 := Nat.le_of_ble_eq_true k2
  have k3 := Nat.le_of_ble_eq_true k3
  have k4 := Nat.le_of_ble_eq_true k4
  have k5 := Nat.le_of_ble_eq_true k5
  have e1 : nI m - (((nI m).toUInt32 >>> (Nat.toUInt32 1 &&& Int32.toUInt32 31)).toInt32 &&& 1431655765) = nI (pN1 m) := by
    rw [show Nat.toUInt32 1 = (nI 1).toUInt32 from rfl, nI_ush (by omega) (by omega), show (1431655765 : Int32) = nI 1431655765 from rfl, nI_and, pk_sub k2]
    rfl
  have b1 : pN1 m ≤ m := Nat.sub_le _ _
  have e2 : (nI (pN1 m) &&& 858993459) + (((nI (pN1 m)).toUInt32 >>> (Nat.toUInt32 2 &&& Int32.toUInt32 31)).toInt32 &&& 858993459) = nI (pN2 (pN1 m)) := by
    rw [show Nat.toUInt32 2 = (nI 2).toUInt32 from rfl, nI_ush (by omega) (by omega), show (858993459 : Int32) = nI 858993459 from rfl, nI_and, nI_and, nI_add]
    rfl
  have e3 : (nI (pN2 (pN1 m)) + ((nI (pN2 (pN1 m))).toUInt32 >>> (Nat.toUInt32 4 &&& Int32.toUInt32 31)).toInt32) &&& 252645135 = nI (pN3 (pN2 (pN1 m))) := by
    rw [show Nat.toUInt32 4 = (nI 4).toUInt32 from rfl, nI_ush (by omega) (by omega), nI_add, show (252645135 : Int32) = nI 252645135 from rfl, nI_and]
    rfl
  have e4 : nI (pN3 (pN2 (pN1 m))) + ((nI (pN3 (pN2 (pN1 m)))).toUInt32 >>> (Nat.toUInt32 8 &&& Int32.toUInt32 31)).toInt32 = nI (pN4 (pN3 (pN2 (pN1 m)))) := by
    rw [show Nat.toUInt32 8 = (nI 8).toUInt32 from rfl, nI_ush (by omega) (by omega), nI_add]
    rfl
  have e5 : (nI (pN4 (pN3 (pN2 (pN1 m)))) + ((nI (pN4 (pN3 (pN2 (pN1 m))))).toUInt32 >>> (Nat.toUInt32 16 &&& Int32.toUInt32 31)).toInt32) &&& 63 = nI (sN m 16) := by
    rw [show Nat.toUInt32 16 = (nI 16).toUInt32 from rfl, nI_ush (by omega) (by omega), nI_add, show (63 : Int32) = nI 63 from rfl, nI_and, ← k1]
    rfl
  unfold f_J6_bitCount_0f7a4
  simp only [bV]
  rw [e1, e2, e3, e4, e5]
/-- a mask of persons is a number below 65536 -/
theorem msk {x : Int32} (h : ∀ p, 16 ≤ p → bt x p = false) : ∃ m, m < 65536 ∧ x = nI m ∧ ∀ p, p < 32 → bt x p = m.testBit p := by
  refine ⟨x.toBitVec.toNat, Nat.lt_pow_two_of_testBit (n := 16) _ (fun i hi => ?_), ?_, fun p hp => rfl⟩
  · exact h i hi
  · refine b_ext (fun i hi => ?_)
    rw [bt_nI hi]
    rfl
theorem sN_mono {m : Nat} {i : Nat} : ∀ d : Nat, sN m i ≤ sN m (i + d)
  | 0 => Nat.le_refl _
  | d + 1 => Nat.le_trans (sN_mono d) (Nat.le_add_right _ _)
theorem sN_le {m : Nat} : ∀ i : Nat, sN m i ≤ i
  | 0 => Nat.le_refl _
  | i + 1 => by
    have := sN_le (m := m) i
    have h2 : Nat.land (Nat.shiftRight m i) 1 ≤ 1 := Nat.and_le_right
    show sN m i + Nat.land (Nat.shiftRight m i) 1 ≤ i + 1
    omega
theorem sN_bit {m p : Nat} (hp : p < 16) (h : m.testBit p = true) : 1 ≤ sN m 16 := by
  have h1 : Nat.land (Nat.shiftRight m p) 1 = 1 := by
    have e : (Nat.land (Nat.shiftRight m p) 1).testBit 0 = true := by
      have := Nat.testBit_and (Nat.shiftRight m p) 1 0
      rw [show (Nat.land (Nat.shiftRight m p) 1).testBit 0 = ((Nat.shiftRight m p).testBit 0 && (1 : Nat).testBit 0) from this]
      rw [show (Nat.shiftRight m p).testBit 0 = m.testBit (p + 0) from Nat.testBit_shiftRight m, Nat.add_zero, h]
      decide
    have h2 : Nat.land (Nat.shiftRight m p) 1 ≤ 1 := Nat.and_le_right
    have : Nat.land (Nat.shiftRight m p) 1 = 0 ∨ Nat.land (Nat.shiftRight m p) 1 = 1 := by omega
    rcases this with q | q
    · rw [q] at e
      exact absurd e (by decide)
    · exact q
  have m1 := sN_mono (m := m) (i := p + 1) (16 - (p + 1))
  rw [show p + 1 + (16 - (p + 1)) = 16 by omega] at m1
  have : sN m (p + 1) = sN m p + 1 := by
    show sN m p + Nat.land (Nat.shiftRight m p) 1 = _
    rw [h1]
  omega
theorem e_cnt {M : gM} {k m : Nat} (hk : k < 24) (hm : m < 65536) (h : M 115 k = nI m) : f_X9_countOf M (nI k) = rRet (nI (sN m 16)) M := by
  have hg : ∀ F : gR, gI (nI k) 24 F = F := fun F => gI_nI hk (by omega)
  have q : ∀ d i f, i + d = 16 → d < f → f_X9_countOf_l4 f M (nI k) (nI (sN m i)) (nI i) = rRet (nI (sN m 16)) M := by
    intro d
    induction d with
    | zero =>
      intro i f hi hf
      obtain ⟨g, rfl⟩ : ∃ g, f = g + 1 := ⟨f - 1, by omega⟩
      obtain rfl : i = 16 := by omega
      show f_X9_countOf_lb4 _ M (nI k) (nI (sN m 16)) (nI 16) = _
      unfold f_X9_countOf_lb4
      rw [if_pos (by decide)]
    | succ d ih =>
      intro i f hi hf
      obtain ⟨g, rfl⟩ : ∃ g, f = g + 1 := ⟨f - 1, by omega⟩
      show f_X9_countOf_lb4 _ M (nI k) (nI (sN m i)) (nI i) = _
      unfold f_X9_countOf_lb4
      rw [show (16 : Int32) = nI 16 from rfl, if_neg (nI_ge (by omega) (by omega)), hg, nI_clamp (show k < 2 ^ 31 by omega), h, nI_ssh (by omega) (by omega), show (1 : Int32) = nI 1 from rfl, nI_and, nI_add]
      simp only [bV]
      rw [nI_add]
      exact ih (i + 1) g (by omega) (by omega)
  have := q 16 0 5000 (by omega) (by omega)
  rw [nI_0] at this
  exact this
