def E_ruling (M : gM) (t ne m k : Nat) (b : Int32) : gM := gset (gset (gset (gset (gset (gset (en8 M ne t 4 (nI k) b (nI m)) 60 ne (M 50 k)) 63 ne (M 13 3)) 64 ne (M 14 3)) 62 m 1) 51 k (ruS b)) 50 k (ruA M k b)
theorem o_ruling {t nh nc nk ne nr nx ns n : Nat} {M : gM} (I : InvP t nh nc nk ne nr nx ns n M) (hn : n ≤ 512) {m k : Nat} (hm : m < ne) (m2 : M 55 m = 2) (e57 : M 57 m = nI k) (hk : k < nk) {b : Int32} (f1 : ¬ b < -1) (f2 : b < M 50 k) : f_X8_ruling M (nI m) b = if ne < 160 ∧ ruB M t ne m k = true then rRet (nI ne) (E_ruling M t ne m k b) else rThr 2 M := by
  obtain ⟨⟨a1, a2, a3, a4, a5, a6, a7, a8⟩, ⟨b1, b2, b3, b4, b5, b6, b7⟩, l1, l2, l3, l4, l5, l6, l7, l8⟩ := I.1
  have gr := I.2.2.1.2.2
  have hg : ∀ F : gR, gI (nI m) 160 F = F := fun F => gI_nI (by omega) (by omega)
  have hc : (nI m).toNatClampNeg = m := nI_clamp (by omega)
  have hg24 : ∀ F : gR, gI (nI k) 24 F = F := fun F => gI_nI (by omega) (by omega)
  have hck : (nI k).toNatClampNeg = k := nI_clamp (by omega)
  have z1 := paV_z t (duV M ne m)
  have q8 : f_X8_checkMotion M (nI m) = rRet 0 M := by
    unfold f_X8_checkMotion
    rw [c8_Entry a5 hm (by omega), rb_ret, hg, hc, if_pos m2]
  have k8 : f_X8_ruling M (nI m) b = if ruB M t ne m k then f_X8_ruling_b85 M (nI m) b (nI k) 1 else f_X8_ruling_b85 M (nI m) b (nI k) 0 := by
    unfold f_X8_ruling f_X8_ruling_b80 f_X8_ruling_b84 ruB
    rw [q8, rb_ret, hg, hc, e57]
    simp only [bV]
    rw [hg24, e_opn8 I hm, rb_ret, hg24, hck, e_rsp8 I hm, rb_ret, e_late8 I (by omega) hm (Or.inr (Or.inl m2)), rb_ret]
    rw [if_neg f1, if_pos f2]
    by_cases f3 : M 51 k = 0
    · rw [if_pos f3, decide_eq_true f3]
      rcases z1 with z | z
      · rw [z]
        cases opnV M t ne m <;> cases rspB M t ne (nI m) <;> simp
      · rw [z]
        cases opnV M t ne m <;> cases rspB M t ne (nI m) <;> simp
    · rw [if_neg f3, decide_eq_false f3]
      cases opnV M t ne m <;> simp
  rw [k8]
  by_cases c0 : ne < 160
  · cases cc : ruB M t ne m k with
    | false =>
      rw [if_neg (by decide), if_neg (fun h => absurd h.2 (by decide))]
      unfold f_X8_ruling_b85
      rw [e_allow0, rb_thr]
    | true =>
      have h51 : M 51 k = 0 := by
        unfold ruB at cc
        rw [Bool.and_eq_true, Bool.and_eq_true] at cc
        exact of_decide_eq_true cc.2.1
      rw [if_pos rfl, if_pos ⟨c0, rfl⟩]
      unfold E_ruling f_X8_ruling_b85
      rw [e_allow a5 c0, rb_ret, e_en8a (r := 3) a5 a1 c0 (show k < 24 by omega) _ _ (Or.inl rfl) (fun N => rfl) (by omega) (gr 3 (by omega)).2, rb_ret, z01_eq (Or.inr rfl), hg, hc]
      simp only [bM]
      rw [hg24, hg24, hck]
      unfold ruS ruA
      by_cases z0 : b = 0
      · rw [if_pos z0, if_pos z0, if_pos (show b ≤ 0 by rw [z0]; decide)]
        refine congrArg (rRet (nI ne)) (gset_id ?_).symm
        rfl
      · rw [if_neg z0, if_neg z0]
        by_cases z1 : b = -1
        · rw [if_pos z1, if_pos (show b ≤ 0 by rw [z1]; decide)]
          refine congrArg (rRet (nI ne)) ?_
          rw [show gset (gset (gset (gset (gset (en8 M ne t 4 (nI k) b (nI m)) 60 ne (M 50 k)) 63 ne (M 13 3)) 64 ne (M 14 3)) 62 m 1) 51 k 0 = gset (gset (gset (gset (en8 M ne t 4 (nI k) b (nI m)) 60 ne (M 50 k)) 63 ne (M 13 3)) 64 ne (M 14 3)) 62 m 1 from gset_id h51]
          exact (gset_id rfl).symm
        · have : ¬ b ≤ 0 := by
            intro h
            rw [Int32.le_iff_toInt_le, Int32.toInt_zero] at h
            have f1' := f1
            rw [Int32.lt_iff_toInt_lt, show (-1 : Int32).toInt = -1 from by decide] at f1'
            have n1 : b.toInt ≠ -1 := fun q => z1 (Int32.toInt_inj.mp (q.trans (by decide)))
            have n0 : b.toInt ≠ 0 := fun q => z0 (Int32.toInt_inj.mp (q.trans (by decide)))
            omega
          rw [if_neg z1, if_neg this]
          refine congrArg (rRet (nI ne)) ?_
          rw [show gset (gset (gset (gset (gset (en8 M ne t 4 (nI k) b (nI m)) 60 ne (M 50 k)) 63 ne (M 13 3)) 64 ne (M 14 3)) 62 m 1) 51 k 0 = gset (gset (gset (gset (en8 M ne t 4 (nI k) b (nI m)) 60 ne (M 50 k)) 63 ne (M 13 3)) 64 ne (M 14 3)) 62 m 1 from gset_id h51]
  · rw [if_neg (c := ne < 160 ∧ _) (fun h => c0 h.1)]
    unfold f_X8_ruling_b85
    rw [e_allowF a5 c0 (by omega), e_allowF a5 c0 (by omega), rb_thr, ite_self]
def E_judge (M : gM) (t ne k : Nat) (w : Int32) : gM := gset (gset (gset (gset (gset (en8 M ne t 5 (nI k) w 0) 60 ne (M 50 k)) 63 ne (M 13 2)) 64 ne (M 14 2)) 51 k (juS w)) 50 k (juA M k w)
theorem o_judge {t nh nc nk ne nr nx ns n : Nat} {M : gM} (I : InvP t nh nc nk ne nr nx ns n M) (hn : n ≤ 512) {k : Nat} (hk : k < nk) {a : Int32} (f1 : ¬ a < -1) (f2 : a ≤ M 50 k) : f_X8_judge M (nI k) a = if ne < 160 ∧ juB M t ne k a = true then rRet (nI ne) (E_judge M t ne k (juW M k a)) else rThr 2 M := by
  obtain ⟨⟨a1, a2, a3, a4, a5, a6, a7, a8⟩, ⟨b1, b2, b3, b4, b5, b6, b7⟩, l1, l2, l3, l4, l5, l6, l7, l8⟩ := I.1
  have gr := I.2.2.1.2.2
  have hg24 : ∀ F : gR, gI (nI k) 24 F = F := fun F => gI_nI (by omega) (by omega)
  have hck : (nI k).toNatClampNeg = k := nI_clamp (by omega)
  rw [e_judge8 I hn hk a, if_neg f1, if_pos f2]
  by_cases c0 : ne < 160
  · rw [if_pos c0]
    cases cc : juB M t ne k a with
    | false => rw [if_neg (by decide), if_neg (fun h => absurd h.2 (by decide))]
    | true =>
      rw [if_pos rfl, if_pos ⟨c0, rfl⟩]
      generalize juW M k a = w
      unfold E_judge f_X8_judge_b152
      rw [e_en8a (r := 2) a5 a1 c0 (show k < 24 by omega) _ _ (Or.inr rfl) (fun N => rfl) (by omega) (gr 2 (by omega)).2, rb_ret]
      simp only [bM, hg24, hck]
      unfold juS juA
      by_cases z0 : w = 0
      · rw [if_pos z0, if_pos z0, if_pos z0]
        exact congrArg (rRet (nI ne)) (gset_id rfl).symm
      · rw [if_neg z0, if_neg z0, if_neg z0]
  · rw [if_neg c0, if_neg (fun h => c0 h.1)]
def E_vacate (M : gM) (t ne k o : Nat) : gM := gset (gset (gset (gset (gset (en8 M ne t 6 (nI k) (nI o) 0) 63 ne (M 13 3)) 64 ne (M 14 3)) 61 o 1) 51 k 0) 50 k (M 60 o)
theorem n_vacate {t nh nc nk ne nr nx ns n : Nat} {M : gM} (I : InvP t nh nc nk ne nr nx ns n M) {k : Nat} (hk : k < nk) (hl : loV M ne (nI k) = -1) : f_X8_vacate M (nI k) = rThr 2 M := by
  obtain ⟨⟨a1, a2, a3, a4, a5, a6, a7, a8⟩, ⟨b1, b2, b3, b4, b5, b6, b7⟩, l1, l2, l3, l4, l5, l6, l7, l8⟩ := I.1
  unfold f_X8_vacate
  rw [c8_Claim a4 hk (by omega), rb_ret, e_lo8 a5 l5, rb_ret, hl, if_pos rfl]
  unfold f_X8_vacate_b32 f_X8_vacate_b33
  rw [e_allow0, rb_thr]
theorem o_vacate {t nh nc nk ne nr nx ns n : Nat} {M : gM} (I : InvP t nh nc nk ne nr nx ns n M) {k o : Nat} (hk : k < nk) (o1 : o < ne) (o2 : loV M ne (nI k) = nI o) : f_X8_vacate M (nI k) = if ne < 160 ∧ vaK M o = true then rRet (nI ne) (E_vacate M t ne k o) else rThr 2 M := by
  obtain ⟨⟨a1, a2, a3, a4, a5, a6, a7, a8⟩, ⟨b1, b2, b3, b4, b5, b6, b7⟩, l1, l2, l3, l4, l5, l6, l7, l8⟩ := I.1
  have gr := I.2.2.1.2.2
  have hg24 : ∀ F : gR, gI (nI k) 24 F = F := fun F => gI_nI (by omega) (by omega)
  have hck : (nI k).toNatClampNeg = k := nI_clamp (by omega)
  have hg : ∀ F : gR, gI (nI o) 160 F = F := fun F => gI_nI (by omega) (by omega)
  have hc : (nI o).toNatClampNeg = o := nI_clamp (by omega)
  have k8 : f_X8_vacate M (nI k) = if vaK M o then f_X8_vacate_b33 M (nI k) (nI o) 1 else f_X8_vacate_b33 M (nI k) (nI o) 0 := by
    unfold f_X8_vacate f_X8_vacate_b32
    rw [c8_Claim a4 hk (by omega), rb_ret, e_lo8 a5 l5, rb_ret, o2, if_neg (m1_ne (by omega))]
    unfold f_X8_canBeVacated vaK
    rw [hg, hg, hc]
    simp only [bV]
    by_cases c5 : M 55 o = 5
    · rw [if_pos c5, decide_eq_true c5, rb_ret, if_neg i10]; rfl
    · rw [if_neg c5, decide_eq_false c5]
      by_cases c4 : M 55 o = 4
      · rw [if_pos c4, decide_eq_true c4]
        by_cases c1 : M 58 o = -1
        · rw [if_pos c1, decide_eq_true c1, rb_ret, if_pos rfl]; rfl
        · rw [if_neg c1, decide_eq_false c1, rb_ret, if_neg i10]; rfl
      · rw [if_neg c4, decide_eq_false c4, rb_ret, if_pos rfl]; rfl
  rw [k8]
  by_cases c0 : ne < 160
  · cases cc : vaK M o with
    | false =>
      rw [if_neg (by decide), if_neg (fun h => absurd h.2 (by decide))]
      unfold f_X8_vacate_b33
      rw [e_allow0, rb_thr]
    | true =>
      rw [if_pos rfl, if_pos ⟨c0, rfl⟩]
      unfold E_vacate f_X8_vacate_b33
      rw [e_allow a5 c0, rb_ret, e_en8r (r := 3) a5 a1 c0 _ _ _ (by decide) (by decide) (fun N => rfl) (by omega) (gr 3 (by omega)).2, rb_ret, z01_eq (Or.inr rfl), hg, hc]
      simp only [bM]
      rw [hg24, hck, hg, hg24]
      rfl
  · rw [if_neg (c := ne < 160 ∧ _) (fun h => c0 h.1)]
    unfold f_X8_vacate_b33
    rw [e_allowF a5 c0 (by omega), e_allowF a5 c0 (by omega), rb_thr, ite_self]
def E_back (M : gM) (t ne k j : Nat) (c : Int32) : gM := gset (gset (gset (gset (gset (en8 M ne t 8 (nI k) (nI 2) c) 63 ne (M 13 2)) 64 ne (M 14 2)) 51 k 0) 52 k c) 50 k (M 60 j)
def E_dec (M : gM) (t ne k o : Nat) : gM := gset (gset (gset (en8 M ne t 8 (nI k) (nI o) 0) 63 ne (M 13 2)) 64 ne (M 14 2)) 51 k (deS o)
theorem n_decide {t nh nc nk ne nr nx ns n : Nat} {M : gM} (I : InvP t nh nc nk ne nr nx ns n M) {k o : Nat} (hk : k < nk) (ho : o < 3) {c : Int32} (fair : o = 2 → ¬ (c < 0) ∧ c ≤ M 50 k) (h : ¬ (ne < 160 ∧ M 51 k = 3)) : f_X8_decide M (nI k) (nI o) c = rThr 2 M := by
  obtain ⟨⟨a1, a2, a3, a4, a5, a6, a7, a8⟩, ⟨b1, b2, b3, b4, b5, b6, b7⟩, l1, l2, l3, l4, l5, l6, l7, l8⟩ := I.1
  have hg24 : ∀ F : gR, gI (nI k) 24 F = F := fun F => gI_nI (by omega) (by omega)
  have hck : (nI k).toNatClampNeg = k := nI_clamp (by omega)
  have i2' : (2 : Int32) = nI 2 := by decide
  have o2 : nI o = 2 ↔ o = 2 := by
    rw [i2']
    exact nI_eq (by omega) (by omega)
  have k8 : f_X8_decide M (nI k) (nI o) c = if M 51 k = 3 then f_X8_decide_b77 M (nI k) (nI o) c 1 else f_X8_decide_b77 M (nI k) (nI o) c 0 := by
    unfold f_X8_decide f_X8_decide_b58
    rw [c8_Claim a4 hk (by omega), rb_ret, if_neg (nI_pos (by omega)), if_pos (show nI o ≤ 2 by rw [i2']; exact nI_le (by omega) (by omega)), hg24, hg24, hck]
    by_cases q : o = 2
    · rw [if_pos (o2.mpr q), if_neg (fair q).1, if_pos (fair q).2]
    · rw [if_neg (fun h => q (o2.mp h))]
  rw [k8]
  unfold f_X8_decide_b77
  by_cases q : ne < 160
  · rw [if_neg (fun h2 => h ⟨q, h2⟩), e_allow0, rb_thr]
  · rw [e_allowF a5 q (by omega), e_allowF a5 q (by omega), rb_thr, ite_self]
theorem o_decide {t nh nc nk ne nr nx ns n : Nat} {M : gM} (I : InvP t nh nc nk ne nr nx ns n M) {k o j : Nat} (hk : k < nk) (ho : o < 3) {c : Int32} (fair : o = 2 → ¬ (c < 0) ∧ c ≤ M 50 k) (c0 : ne < 160) (h51 : M 51 k = 3) (j1 : j < ne) (j5 : lsV M ne 5 (nI k) = nI j) : f_X8_decide M (nI k) (nI o) c = rRet (nI ne) (if o = 2 then E_back M t ne k j c else E_dec M t ne k o) := by
  obtain ⟨⟨a1, a2, a3, a4, a5, a6, a7, a8⟩, ⟨b1, b2, b3, b4, b5, b6, b7⟩, l1, l2, l3, l4, l5, l6, l7, l8⟩ := I.1
  have gr := I.2.2.1.2.2
  have hg24 : ∀ F : gR, gI (nI k) 24 F = F := fun F => gI_nI (by omega) (by omega)
  have hck : (nI k).toNatClampNeg = k := nI_clamp (by omega)
  have i2' : (2 : Int32) = nI 2 := by decide
  have o2 : nI o = 2 ↔ o = 2 := by
    rw [i2']
    exact nI_eq (by omega) (by omega)
  have k8 : f_X8_decide M (nI k) (nI o) c = f_X8_decide_b77 M (nI k) (nI o) c 1 := by
    unfold f_X8_decide f_X8_decide_b58
    rw [c8_Claim a4 hk (by omega), rb_ret, if_neg (nI_pos (by omega)), if_pos (show nI o ≤ 2 by rw [i2']; exact nI_le (by omega) (by omega)), hg24, hg24, hck, if_pos h51]
    by_cases q : o = 2
    · rw [if_pos (o2.mpr q), if_neg (fair q).1, if_pos (fair q).2]
    · rw [if_neg (fun h => q (o2.mp h))]
  rw [k8]
  by_cases q : o = 2
  · subst q
    rw [if_pos rfl]
    unfold E_back f_X8_decide_b77
    rw [e_allow a5 c0, rb_ret, e_last8 a5 l5, rb_ret, if_pos (o2.mpr rfl)]
    unfold f_X8_decide_b106
    rw [e_en8r (r := 2) a5 a1 c0 _ _ _ (by decide) (by decide) (fun N => rfl) (by omega) (gr 2 (by omega)).2, rb_ret]
    show rb (rRet 0 _) _ = _
    rw [rb_ret, hg24, hck, j5]
    simp only [bM]
    rw [if_pos (o2.mpr rfl), hg24, if_neg (m1_ne (by omega)), gI_nI (show j < 160 by omega) (by omega), hg24, nI_clamp (show j < 2 ^ 31 by omega)]
    rfl
  · have o01 : (o = 0 ∧ deS o = 2) ∨ (o = 1 ∧ deS o = 1) := by
      have : o = 0 ∨ o = 1 := by omega
      rcases this with h | h
      · subst h; exact Or.inl ⟨rfl, rfl⟩
      · subst h; exact Or.inr ⟨rfl, rfl⟩
    have o2' : ¬ nI o = 2 := fun h => q (o2.mp h)
    have sd : ∀ N, f_X8_stateByDecision N (nI o) = rRet (deS o) N := by
      intro N
      unfold f_X8_stateByDecision
      rcases o01 with ⟨h, h2⟩ | ⟨h, h2⟩
      · rw [h]; rfl
      · rw [h]; rfl
    rw [if_neg q]
    unfold E_dec f_X8_decide_b77
    rw [e_allow a5 c0, rb_ret, e_last8 a5 l5, rb_ret, if_neg o2']
    unfold f_X8_decide_b106
    rw [e_en8r (r := 2) a5 a1 c0 _ _ _ (by decide) (by decide) (fun N => rfl) (by omega) (gr 2 (by omega)).2, rb_ret, sd, rb_ret, hg24, hck]
    simp only [bM]
    rw [if_neg o2']
def E_pay (M : gM) (t ne k j : Nat) (x : Int32) : gM := gset (gset (en8 M ne t 10 (nI k) x 0) 53 k (M 53 k + x)) 51 k (leS (leV M t k j x))
theorem o_pay {t nh nc nk ne nr nx ns n : Nat} {M : gM} (I : InvP t nh nc nk ne nr nx ns n M) {k j x : Nat} (hk : k < nk) (x1 : 1 ≤ x) (x2 : x ≤ 999999) (hj : M 51 k = 2 → j < ne ∧ lsV M ne 5 (nI k) = nI j) : f_X8_pay M (nI k) (nI x) = if ne < 160 ∧ M 51 k = 2 ∧ ¬ blV M t ne k < nI x then rRet (leV M t k j (nI x)) (E_pay M t ne k j (nI x)) else rThr 2 M := by
  obtain ⟨⟨a1, a2, a3, a4, a5, a6, a7, a8⟩, ⟨b1, b2, b3, b4, b5, b6, b7⟩, l1, l2, l3, l4, l5, l6, l7, l8⟩ := I.1
  have i1 : nI 1 = (1 : Int32) := by decide
  have i9 : nI 999999 = (999999 : Int32) := by decide
  have hg24 : ∀ F : gR, gI (nI k) 24 F = F := fun F => gI_nI (by omega) (by omega)
  have hck : (nI k).toNatClampNeg = k := nI_clamp (by omega)
  have k8 : f_X8_pay M (nI k) (nI x) = if M 51 k = 2 ∧ ¬ blV M t ne k < nI x then f_X8_pay_b41 M (nI k) (nI x) 1 else f_X8_pay_b41 M (nI k) (nI x) 0 := by
    have kA : f_X8_checkAmount M (nI x) 999999 = rRet 0 M := by
      unfold f_X8_checkAmount
      rw [← i1, ← i9, if_neg (nI_nlt x1 (by omega)), if_pos (nI_le x2 (by omega))]
    unfold f_X8_pay f_X8_pay_b40
    rw [c8_Claim a4 hk (by omega), rb_ret, kA, rb_ret, hg24, hck, e_bal8 I hk, rb_ret]
    by_cases c1 : M 51 k = 2
    · rw [if_pos c1]
      by_cases c2 : blV M t ne k < nI x
      · rw [if_pos c2, if_neg (fun h => h.2 c2)]
      · rw [if_neg c2, if_pos ⟨c1, c2⟩]
    · rw [if_neg c1, if_neg (fun h => c1 h.1)]
  by_cases ok : ne < 160 ∧ M 51 k = 2 ∧ ¬ blV M t ne k < nI x
  · rw [if_pos ok]
    obtain ⟨c0, c1, c2⟩ := ok
    obtain ⟨j1, j5⟩ := hj c1
    have z24 : k < 24 := by omega
    have hls : lsV (gset (en8 M ne t 10 (nI k) (nI x) 0) 53 k (M 53 k + nI x)) (ne + 1) 5 (nI k) = nI j := by
      rw [← j5]
      show lastP (fun e => decide (upd (M 55) ne 10 e = 5) && decide (upd (M 57) ne (nI k) e = nI k)) (ne + 1) = _
      show (if (decide (upd (M 55) ne 10 ne = 5) && decide (upd (M 57) ne (nI k) ne = nI k)) then nI ne else lastP (fun e => decide (upd (M 55) ne 10 e = 5) && decide (upd (M 57) ne (nI k) e = nI k)) ne) = _
      rw [upd_eq, decide_eq_false (show ¬ (10 : Int32) = 5 by decide), Bool.false_and, if_neg (by decide)]
      exact lastP_congr (fun e he => by rw [upd_lt he, upd_lt he])
    have hb8 : f_X8_balanceNow (gset (en8 M ne t 10 (nI k) (nI x) 0) 53 k (M 53 k + nI x)) (nI k) = rRet (leV M t k j (nI x)) (gset (en8 M ne t 10 (nI k) (nI x) 0) 53 k (M 53 k + nI x)) := by
      rw [e_bal8r (M := gset (en8 M ne t 10 (nI k) (nI x) 0) 53 k (M 53 k + nI x)) (ne := ne + 1) rfl c0 z24 c1 hls (by omega)]
      show rRet (M 50 k + M 50 k * ((M 1 0 - upd (M 56) ne (nI t) j) / 30) / 100 - upd (M 53) k (M 53 k + nI x) k) _ = _
      rw [upd_lt j1, upd_eq, a1]
      rfl
    rw [k8, if_pos ⟨c1, c2⟩]
    unfold E_pay f_X8_pay_b41
    rw [e_allow a5 c0, rb_ret, e_en8n a5 a1 c0 _ _ _ (Or.inr (Or.inr (Or.inr (Or.inr (Or.inl rfl))))), rb_ret, hg24, hg24, hck]
    simp only [bM]
    rw [show en8 M ne t 10 (nI k) (nI x) 0 53 k = M 53 k from rfl, hb8, rb_ret, hg24]
    unfold leS
    by_cases z : leV M t k j (nI x) = 0
    · rw [if_pos z, if_pos z]
    · rw [if_neg z, if_neg z, gset_id (a := 51) (j := k) (M := gset (en8 M ne t 10 (nI k) (nI x) 0) 53 k (M 53 k + nI x)) (v := 2) c1]
  · rw [if_neg ok, k8]
    unfold f_X8_pay_b41
    by_cases c0 : ne < 160
    · rw [if_neg (fun h => ok ⟨c0, h⟩), e_allow0, rb_thr]
    · rw [e_allowF a5 c0 (by omega), e_allowF a5 c0 (by omega), rb_thr, ite_self]
