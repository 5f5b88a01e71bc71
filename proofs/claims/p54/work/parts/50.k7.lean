/-- how many appeals of a claim the entries before hold -/
def cA (M : gM) (k : Int32) : Nat → Nat
  | 0 => 0
  | e + 1 => cA M k e + if M 55 e = 7 ∧ M 57 e = k then 1 else 0
theorem cA_mono {M : gM} {k : Int32} {i : Nat} : ∀ d : Nat, cA M k i ≤ cA M k (i + d)
  | 0 => Nat.le_refl _
  | d + 1 => by
    have := cA_mono (M := M) (k := k) (i := i) d
    show cA M k i ≤ cA M k (i + d) + _
    omega
theorem cA_le {M : gM} {k : Int32} {i : Nat} : ∀ d : Nat, cA M k (i + d) ≤ cA M k i + d
  | 0 => Nat.le_refl _
  | d + 1 => by
    have := cA_le (M := M) (k := k) (i := i) d
    show cA M k (i + d) + (if M 55 (i + d) = 7 ∧ M 57 (i + d) = k then 1 else 0) ≤ _
    have : (if M 55 (i + d) = 7 ∧ M 57 (i + d) = k then 1 else 0) ≤ 1 := by
      by_cases c : M 55 (i + d) = 7 ∧ M 57 (i + d) = k
      · rw [if_pos c]; omega
      · rw [if_neg c]; omega
    omega
theorem l_since8 {M : gM} {k : Int32} {ne j : Nat} (h5 : ne ≤ 160) (hj : j < ne) (j5 : M 55 j = 5) (jk : M 57 j = k) (jl : ∀ i, j < i → i < ne → ¬ (M 55 i = 5 ∧ M 57 i = k)) : ∀ (d f a : Nat), j + 1 + d ≤ ne → d + 1 < f → f_X3_appealsSinceJudgement_l9 f M k (nI a) (nI (j + 1 + d) - 1) = rRet (nI (a + (cA M k (j + 1 + d) - cA M k (j + 1)))) M := by
  intro d
  induction d with
  | zero =>
    intro f a hd hf
    obtain ⟨g, rfl⟩ : ∃ g, f = g + 1 := ⟨f - 1, by omega⟩
    have hg : ∀ F : gR, gI (nI j) 160 F = F := fun F => gI_nI (by omega) (by omega)
    rw [Nat.sub_self, Nat.add_zero, Nat.add_zero, nI_pred]
    show f_X3_appealsSinceJudgement_lb9 _ M k (nI a) (nI j) = _
    unfold f_X3_appealsSinceJudgement_lb9
    rw [if_neg (nI_pos (by omega)), hg, nI_clamp (show j < 2 ^ 31 by omega), if_pos jk, hg, if_pos j5]
    rfl
  | succ d ih =>
    intro f a hd hf
    obtain ⟨g, rfl⟩ : ∃ g, f = g + 1 := ⟨f - 1, by omega⟩
    have hg : ∀ F : gR, gI (nI (j + 1 + d)) 160 F = F := fun F => gI_nI (by omega) (by omega)
    have m := cA_mono (M := M) (k := k) (i := j + 1) d
    have e : cA M k (j + 1 + (d + 1)) = cA M k (j + 1 + d) + if M 55 (j + 1 + d) = 7 ∧ M 57 (j + 1 + d) = k then 1 else 0 := rfl
    rw [e, show j + 1 + (d + 1) = j + 1 + d + 1 from rfl, nI_pred]
    show f_X3_appealsSinceJudgement_lb9 _ M k (nI a) (nI (j + 1 + d)) = _
    unfold f_X3_appealsSinceJudgement_lb9
    rw [if_neg (nI_pos (by omega)), hg, nI_clamp (show j + 1 + d < 2 ^ 31 by omega), hg, hg]
    simp only [bV]
    rw [nI_m1, nI_1]
    by_cases c : M 57 (j + 1 + d) = k
    · rw [if_pos c, if_neg (fun q => jl (j + 1 + d) (by omega) (by omega) ⟨q, c⟩)]
      by_cases c7 : M 55 (j + 1 + d) = 7
      · rw [if_pos c7, if_pos ⟨c7, c⟩, ih g (a + 1) (by omega) (by omega), show a + 1 + (cA M k (j + 1 + d) - cA M k (j + 1)) = a + (cA M k (j + 1 + d) + 1 - cA M k (j + 1)) by omega]
      · rw [if_neg c7, if_neg (fun q => c7 q.1), ih g a (by omega) (by omega)]; simp only [Nat.add_zero]
    · rw [if_neg c, if_neg (fun q => c q.2), ih g a (by omega) (by omega)]; simp only [Nat.add_zero]
theorem l_since9 {M' M : gM} {k a2 a3 : Int32} {ne : Nat} (h23 : M' 9 23 = nI ne) (h5 : ne ≤ 160) (e120 : M' 120 = M 55) (e122 : M' 122 = M 57) (h3 : ¬ a3 = 0) : ∀ (d i f a : Nat), i + d = ne → d < f → f_X9_appeal_l78 f M' k a2 a3 (nI a) (nI i) = f_X9_appeal_b130 M' k a2 a3 (nI (a + (cA M k ne - cA M k i))) := by
  intro d
  induction d with
  | zero =>
    intro i f a hi hf
    obtain ⟨g, rfl⟩ : ∃ g, f = g + 1 := ⟨f - 1, by omega⟩
    obtain rfl : i = ne := by omega
    show f_X9_appeal_lb78 _ M' k a2 a3 (nI a) (nI i) = _
    unfold f_X9_appeal_lb78
    rw [h23, if_pos (nI_le (by omega) (by omega)), Nat.sub_self, Nat.add_zero]
  | succ d ih =>
    intro i f a hi hf
    obtain ⟨g, rfl⟩ : ∃ g, f = g + 1 := ⟨f - 1, by omega⟩
    have hg : ∀ F : gR, gI (nI i) 160 F = F := fun F => gI_nI (by omega) (by omega)
    have m := cA_mono (M := M) (k := k) (i := i + 1) d
    rw [show i + 1 + d = ne by omega] at m
    have e : cA M k (i + 1) = cA M k i + if M 55 i = 7 ∧ M 57 i = k then 1 else 0 := rfl
    show f_X9_appeal_lb78 _ M' k a2 a3 (nI a) (nI i) = _
    unfold f_X9_appeal_lb78 f_X9_appeal_b120
    rw [h23, if_neg (nI_ge (by omega) (by omega)), if_neg h3, hg, nI_clamp (show i < 2 ^ 31 by omega), hg, e120, e122]
    simp only [bV]
    rw [nI_1, nI_1, Int32.add_zero]
    by_cases c7 : M 55 i = 7
    · rw [if_pos c7]
      by_cases c : M 57 i = k
      · rw [if_pos ⟨c7, c⟩] at e
        rw [if_pos c, ih (i + 1) g (a + 1) (by omega) (by omega), show a + 1 + (cA M k ne - cA M k (i + 1)) = a + (cA M k ne - cA M k i) by omega]
      · rw [if_neg (fun q => c q.2)] at e
        rw [if_neg c, ih (i + 1) g a (by omega) (by omega), show a + (cA M k ne - cA M k (i + 1)) = a + (cA M k ne - cA M k i) by omega]
    · rw [if_neg (fun q => c7 q.1)] at e
      rw [if_neg c7, ih (i + 1) g a (by omega) (by omega), show a + (cA M k ne - cA M k (i + 1)) = a + (cA M k ne - cA M k i) by omega]
def apN (M : gM) (ne k : Nat) : Nat := cA M (nI k) ne - cA M (nI k) ((lsV M ne 5 (nI k)).toNatClampNeg + 1)
theorem e_since8 {M : gM} {k ne j : Nat} (h : M 4 0 = nI ne) (h5 : ne ≤ 160) (hj : j < ne) (hl : lsV M ne 5 (nI k) = nI j) : f_X3_appealsSinceJudgement M (nI k) = rRet (nI (apN M ne k)) M := by
  rcases ls_dom M ne 5 (nI k) with q | ⟨e, e1, e2, e3, e4, e5⟩
  · exact absurd (hl.symm.trans q) (m1_ne (by omega))
  · have : e = j := (nI_eq (by omega) (by omega)).mp (e2.symm.trans hl)
    subst this
    have k1 := l_since8 h5 hj e3 e4 e5 (ne - (e + 1)) 5000 0 (by omega) (by omega)
    rw [show e + 1 + (ne - (e + 1)) = ne by omega, nI_0, Nat.zero_add] at k1
    unfold f_X3_appealsSinceJudgement apN
    rw [h, hl, nI_clamp (show e < 2 ^ 31 by omega)]
    exact k1
theorem apN_le {M : gM} {ne k j : Nat} (h5 : ne ≤ 160) (hj : j < ne) (hl : lsV M ne 5 (nI k) = nI j) : apN M ne k ≤ 160 := by
  unfold apN
  have := cA_le (M := M) (k := nI k) (i := 0) ne
  rw [Nat.zero_add] at this
  have z : cA M (nI k) 0 = 0 := rfl
  omega
theorem n9_ap0 {M : gM} {a a2 : Int32} (h : a2 = 0 ∨ a2 = 1) : f_X9_appeal_b51 M a a2 = rRet 0 (gset M 9 0 (if a2 = 0 then 1 else 2)) := by
  have k : f_X9_appeal_b130 M a a2 0 0 = rRet 0 (gset M 9 0 (if a2 = 0 then 1 else 2)) := by
    unfold f_X9_appeal_b130 f_X9_appeal_b149 f_X9_appeal_b154
    rcases h with h | h
    · rw [h, if_pos rfl, rf_1, rb_ret, if_neg i10]; rfl
    · rw [h, if_neg i10, if_pos rfl, rf_2, rb_ret, if_neg i10]; rfl
  unfold f_X9_appeal_b51 f_X9_appeal_b52 f_X9_appeal_b67
  rw [if_pos rfl]
  simp only [bV]
  have e : (-1 : Int32) + 1 = 0 := by decide
  rw [e]
  show f_X9_appeal_lb78 (f_X9_appeal_l78 4999) M a a2 0 0 0 = _
  unfold f_X9_appeal_lb78
  rw [k, if_pos rfl, ite_self]
def apB (M : gM) (t ne k : Nat) : Bool := decide (M 51 k = 2) && (decide (M 53 k = 0) && (decide (apN M ne k ≤ 1) && decide (paV t (epV M ne k) = 0)))
theorem st_appeal : St_appeal Inv := by
  intro n M a hn hI
  obtain ⟨t, nh, nc, nk, ne, nr, nx, ns, I⟩ := hI
  obtain ⟨⟨a1, a2, a3, a4, a5, a6, a7, a8⟩, ⟨b1, b2, b3, b4, b5, b6, b7⟩, l1, l2, l3, l4, l5, l6, l7, l8⟩ := I.1
  have gr := I.2.2.1.2.2
  have e104 : M 104 = M 14 := I.2.2.1.2.1
  have e112 : M 112 = M 51 := I.2.2.2.2.2.1.1.2.2.2.1
  rcases idx_cases a nk (by omega) with ⟨k, hk, rfl⟩ | hb
  · have hg24 : ∀ F : gR, gI (nI k) 24 F = F := fun F => gI_nI (by omega) (by omega)
    have hck : (nI k).toNatClampNeg = k := nI_clamp (by omega)
    have k8 : f_X8_appeal M (nI k) = if apB M t ne k then f_X8_appeal_b63 M (nI k) 1 else f_X8_appeal_b63 M (nI k) 0 := by
      unfold f_X8_appeal f_X8_appeal_b62 apB
      rw [c8_Claim a4 hk (by omega), rb_ret, hg24, hg24, hck]
      by_cases c1 : M 51 k = 2
      · obtain ⟨j, j1, j2, j3, j4, j5, -⟩ := lv_J I hk (Or.inl c1)
        obtain ⟨e, e1, e2, e3, e4, -⟩ := ap_dom I hk c1
        have hn160 := apN_le (M := M) l5 j1 j5
        have hkd : kdD (M 55 e) := by
          rcases e4 with h | h
          · exact Or.inr (Or.inr (Or.inr (Or.inl h)))
          · exact Or.inr (Or.inr (Or.inr (Or.inr (Or.inr h))))
        have ee : epV M ne k = duV M ne e := by
          unfold epV
          rw [if_pos c1, e2, nI_clamp (show e < 2 ^ 31 by omega)]
        rw [if_pos c1, decide_eq_true c1, Bool.true_and, e_since8 a5 l5 j1 j5, rb_ret, e_apStart a5 l5, rb_ret, e2, e_late8 I (by omega) e1 hkd, rb_ret, ee]
        by_cases c2 : M 53 k = 0
        · rw [if_pos c2, decide_eq_true c2, Bool.true_and, show (2 : Int32) = nI 2 from by decide]
          by_cases c3 : apN M ne k ≤ 1
          · rw [if_neg (nI_ge (by omega) (by omega)), decide_eq_true c3, Bool.true_and]
            rcases paV_z t (duV M ne e) with z | z
            · rw [z]; rfl
            · rw [z]; rfl
          · rw [if_pos (nI_le (by omega) (by omega)), decide_eq_false c3]; rfl
        · rw [if_neg c2, decide_eq_false c2]; rfl
      · rw [if_neg c1, decide_eq_false c1]; rfl
    have k9 : ∀ M', Rf M' M → f_X9_appeal M' (nI k) = if ne < 160 then (if apB M t ne k then f_X9_appeal_b154 M' (nI k) 0 else f_X9_appeal_b154 M' (nI k) 2) else f_X9_appeal_b154 M' (nI k) 2 := by
      intro M' R
      have h23 : M' 9 23 = nI ne := (R.1 23 (by omega)).trans b5
      have e120 : M' 120 = M 55 := (R.2 120 (by omega)).trans I.2.2.2.2.2.2.2.2.2.2.1.1.1
      have e122 : M' 122 = M 57 := (R.2 122 (by omega)).trans I.2.2.2.2.2.2.2.2.2.2.1.1.2.2.1
      have h53 : sPaid (M' 120) (M' 122) (M' 123) (nI k) ne = M 53 k := by
        rw [R.2 120 (by omega), R.2 122 (by omega), R.2 123 (by omega)]
        exact (I.2.2.2.2.2.1.2.2.2.2 k (by omega)).symm
      have n2 : f_X9_appeal_b51 M' (nI k) 1 = f_X9_appeal_b154 M' (nI k) 2 := by
        rw [n9_ap0 (Or.inr rfl), if_neg i10]
        unfold f_X9_appeal_b154
        rw [rf_2, rb_ret, if_neg i10]
      unfold f_X9_appeal apB
      rw [c9_Claim ((R.1 11 (by omega)).trans b4) hk (by omega), rb_ret, if_neg i10, e_room h23 (by omega), rb_ret, hg24, hck, R.2 112 (by omega), e112, e_paid9 h23 l5, rb_ret, h53, e_apDue I R (by omega) hk, rb_ret, e_past9 ((R.1 1 (by omega)).trans b1), rb_ret, n2]
      by_cases c0 : ne < 160
      · rw [if_pos c0, if_neg i10, if_pos c0]
        by_cases c1 : M 51 k = 2
        · obtain ⟨j, j1, j2, j3, j4, j5, j6, -⟩ := lv_J I hk (Or.inl c1)
          have hn160 := apN_le (M := M) l5 j1 j5
          have k52 : f_X9_appeal_b52 M' (nI k) 1 1 = if apN M ne k ≤ 1 then f_X9_appeal_b154 M' (nI k) 0 else f_X9_appeal_b154 M' (nI k) 2 := by
            unfold f_X9_appeal_b52 f_X9_appeal_b67
            rw [if_neg i10, e_last9 I R, rb_ret, j6]
            simp only [bV]
            rw [nI_1]
            have k1 := l_since9 (M := M) (k := nI k) (a2 := 1) h23 l5 e120 e122 i10 (ne - (j + 1)) (j + 1) 5000 0 (by omega) (by omega)
            rw [nI_0, Nat.zero_add] at k1
            rw [k1]
            have : cA M (nI k) ne - cA M (nI k) (j + 1) = apN M ne k := by
              unfold apN
              rw [j5, nI_clamp (show j < 2 ^ 31 by omega)]
            rw [this]
            unfold f_X9_appeal_b130 f_X9_appeal_b149
            rw [if_neg i10, if_neg i10, show (1 : Int32) = nI 1 from by decide]
            by_cases c3 : apN M ne k ≤ 1
            · rw [if_pos (nI_le c3 (by omega)), if_pos c3]
            · rw [if_neg (nI_ge (by omega) (by omega)), if_neg c3]
          rw [if_pos c1, decide_eq_true c1, Bool.true_and, k52]
          by_cases c2 : M 53 k = 0
          · rw [if_pos c2, decide_eq_true c2, Bool.true_and]
            by_cases c3 : apN M ne k ≤ 1
            · rw [if_pos c3, decide_eq_true c3, Bool.true_and]
              rcases paV_z t (epV M ne k) with z | z
              · rw [z]; rfl
              · rw [z]; rfl
            · rw [if_neg c3, decide_eq_false c3, ite_self]; rfl
          · rw [if_neg c2, decide_eq_false c2]; rfl
        · rw [if_neg c1, decide_eq_false c1]; rfl
      · rw [if_neg c0, if_pos rfl, if_neg c0]
    have no : (ne < 160 → apB M t ne k = false) → AgI (f_L_appeal M (nI k)) (fun M1 => f_X9_appeal M1 (nI k)) (Inv (n + 1)) := by
      intro h
      refine agI_no (k := 2) ?_ (by decide) (b := 0) ?_ (inv_no I)
      · have : f_X8_appeal M (nI k) = rThr 2 M := by
          rw [k8]
          unfold f_X8_appeal_b63
          by_cases c : ne < 160
          · rw [h c, if_neg (by decide), e_allow0, rb_thr]
          · rw [e_allowF a5 c (by omega), e_allowF a5 c (by omega), rb_thr, ite_self]
        unfold f_L_appeal
        rw [this, rc_thr]
        rfl
      · show f_X9_appeal M (nI k) = _
        have : f_X9_appeal M (nI k) = f_X9_appeal_b154 M (nI k) 2 := by
          rw [k9 M (Rf.rfl M)]
          by_cases c : ne < 160
          · rw [if_pos c, h c]; rfl
          · rw [if_neg c]
        rw [this]
        unfold f_X9_appeal_b154
        rw [rf_2, rb_ret, if_neg i10]
    by_cases c0 : ne < 160
    · cases cc : apB M t ne k with
      | false => exact no (fun _ => cc)
      | true =>
        have h51 : M 51 k = 2 := by
          unfold apB at cc
          rw [Bool.and_eq_true] at cc
          exact of_decide_eq_true cc.1
        refine agI_ok (v := nI ne) (M1 := gset (en8 M ne t 7 (nI k) 0 0) 51 k 3) (M2 := gset (gset (gset (gset (gset (en9 (gset (gset (gset (en8 M ne t 7 (nI k) 0 0) 51 k 3) 10 0 (nI ne)) 9 0 0) ne t 7 (nI k) 0 0 3) 127 ne (M 112 k)) 128 ne (M 113 k)) 129 ne (M 114 k)) 9 23 (nI (ne + 1))) 112 k 3) ?_ ?_ rfl rfl ?_
        · unfold f_L_appeal
          rw [k8, cc, if_pos rfl]
          unfold f_X8_appeal_b63
          rw [e_allow a5 c0, rb_ret, e_en8n a5 a1 c0 _ _ _ (Or.inr (Or.inr (Or.inl rfl))), rb_ret, hg24, hck]
          rfl
        · have R : Rf (gset (gset (en8 M ne t 7 (nI k) 0 0) 51 k 3) 10 0 (nI ne)) M := (((((((((Rf.rfl M).s (by omega) (by omega) _ _).s (by omega) (by omega) _ _).s (by omega) (by omega) _ _).s (by omega) (by omega) _ _).s (by omega) (by omega) _ _).s (by omega) (by omega) _ _).s (by omega) (by omega) _ _).s (by omega) (by omega) _ _).o _
          show f_X9_appeal _ (nI k) = _
          rw [k9 _ R, if_pos c0, cc, if_pos rfl]
          unfold f_X9_appeal_b154
          rw [rf_0, rb_ret, if_pos rfl, e_en9 (K := 7) (M := gset (gset (gset (en8 M ne t 7 (nI k) 0 0) 51 k 3) 10 0 (nI ne)) 9 0 0) b5 b1 c0 (show k < 24 by omega) _ _ (by decide) (show z01 (M 104 3) by rw [e104]; exact (gr 3 (by omega)).2), rb_ret, hg24, hck]
          rfl
        · have z6 := I.z61
          obtain ⟨g1, g2, g3, g4, g5, g6, g7, g8, g9, g10, g11, g12, g13, g14⟩ := I
          exact ⟨t, nh, nc, nk, ne + 1, nr, nx, ns, ⟨⟨a1, a2, a3, a4, rfl, a6, a7, a8⟩, ⟨b1, b2, b3, b4, rfl, b6, b7⟩, l1, l2, l3, l4, c0, l6, l7, (Nat.le_succ_of_le l8)⟩, g2, g3, g4.add (by decide), g5, g6.st hk ⟨3, by omega, rfl⟩ (by decide), g7, g8, g9, g10,
            g11.ent (by omega) ⟨7, by omega, rfl, fun h => absurd h (by omega), fun _ => ⟨k, hk, rfl⟩⟩ (fun h => absurd h (by decide)) (fun h => absurd h (by decide)) (fun h => absurd h (by decide)) (fun _ => rfl) (fun h => absurd h (by decide)) (fun _ => rfl) (fun h => absurd h (by decide)) g11.1.2.2.2.2.2,
            g12.ent _, g13.ent (by omega) (fun _ _ => rfl) (fun _ _ => rfl) (fun e => (g13.2.1 e).1) (show z01 (M 104 3) by rw [e104]; exact (gr 3 (by omega)).2) (fun h => absurd h (by unfold kdD; decide)) (fun h => absurd h (by decide)) (fun h => absurd h (by decide)) (fun h => absurd h (by decide)) z6,
            g14.ent (m50' := M 50) (m51' := upd (M 51) k 3) (m52' := M 52) (m53' := M 53) (m60' := M 60) (m61' := M 61) (c := k) (by omega) l4 hk rfl (fun j hj => ⟨rfl, upd_nx hj, rfl, rfl⟩) ⟨upd_eq.symm, (g14.1 k (by omega)).2⟩ (fun _ _ _ => rfl) (fun _ => Or.inl ⟨Or.inl h51, by decide, rfl, fun _ _ => rfl⟩) (fun e he => ⟨rfl, upd_lt he, upd_lt he, upd_lt he⟩) (fun w => absurd w (by decide)) (fun _ => rfl)⟩
    · exact no (fun h => absurd h c0)
  · refine agI_no (k := 1) ?_ (by decide) (b := 0) ?_ (inv_no I)
    · unfold f_L_appeal f_X8_appeal
      rw [n8_Claim a4 hb, rb_thr, rc_thr]
      rfl
    · unfold f_X9_appeal
      rw [n9_Claim b4 (by omega) hb, rb_ret, if_pos rfl, n9_ap0 (Or.inl rfl)]
      rfl
