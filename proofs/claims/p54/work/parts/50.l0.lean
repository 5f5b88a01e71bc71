/-- a judgement is possible; what it says; what it leaves -/
def juB (M : gM) (t ne k : Nat) (a : Int32) : Bool := if a = -1 then unB M t ne k && (!decide (paV t (adV M t ne (nI k)) = 0) && !decide (M 52 k = 0)) else decide (M 51 k = 0) && (ansB M t ne (nI k) && (decide (M 52 k = -1) || decide (a ≤ M 52 k)))
def juW (M : gM) (k : Nat) (a : Int32) : Int32 := if a = -1 then (if M 52 k = -1 then M 50 k else if M 50 k ≤ M 52 k then M 50 k else M 52 k) else a
def juS (w : Int32) : Int32 := if w = 0 then 1 else 2
def juA (M : gM) (k : Nat) (w : Int32) : Int32 := if w = 0 then M 50 k else w
theorem n9_jud {M : gM} {k w v : Int32} (h : v = 1 ∨ v = 2 ∨ v = 3) : f_X9_judge_b231 M k w v = rRet 0 (gset M 9 0 v) := by
  unfold f_X9_judge_b231
  rcases h with h | h | h
  · rw [h, rf_1, rb_ret, if_neg i10]
  · rw [h, rf_2, rb_ret, if_neg i10]
  · rw [h, rf_3, rb_ret, if_neg i10]
theorem e_above {M : gM} {k : Nat} (hk : k < 24) (a : Int32) : f_X2_isAboveCap M (nI k) a = rRet (if M 52 k = -1 then 0 else if a ≤ M 52 k then 0 else 1) M := by
  unfold f_X2_isAboveCap
  rw [gI_nI hk (by omega), gI_nI hk (by omega), nI_clamp (show k < 2 ^ 31 by omega)]
  by_cases c : M 52 k = -1
  · rw [if_pos c, if_pos c]
  · rw [if_neg c, if_neg c]
    by_cases c2 : a ≤ M 52 k
    · rw [if_pos c2, if_pos c2]
    · rw [if_neg c2, if_neg c2]
theorem e_amD {M : gM} {k : Nat} (hk : k < 24) : f_X2_amountByDefault M (nI k) = rRet (juW M k (-1)) M := by
  unfold f_X2_amountByDefault juW
  rw [gI_nI hk (by omega), e_above hk, rb_ret, gI_nI hk (by omega), gI_nI hk (by omega), nI_clamp (show k < 2 ^ 31 by omega), if_pos rfl]
  by_cases c : M 52 k = -1
  · rw [if_pos c, if_pos rfl, if_pos c]
  · rw [if_neg c, if_neg c]
    by_cases c2 : M 50 k ≤ M 52 k
    · rw [if_pos c2, if_pos rfl, if_pos c2]
    · rw [if_neg c2, if_neg i10, if_neg c2]
theorem e_judge8 {t nh nc nk ne nr nx ns n : Nat} {M : gM} (I : InvP t nh nc nk ne nr nx ns n M) (hn : n ≤ 512) {k : Nat} (hk : k < nk) (a : Int32) : f_X8_judge M (nI k) a = if a < -1 then rThr 1 M else if a ≤ M 50 k then (if ne < 160 then (if juB M t ne k a then f_X8_judge_b152 M (nI k) (juW M k a) else rThr 2 M) else rThr 2 M) else rThr 1 M := by
  obtain ⟨⟨a1, a2, a3, a4, a5, a6, a7, a8⟩, -, l1, l2, l3, l4, l5, l6, l7, l8⟩ := I.1
  have hg24 : ∀ F : gR, gI (nI k) 24 F = F := fun F => gI_nI (by omega) (by omega)
  have hck : (nI k).toNatClampNeg = k := nI_clamp (by omega)
  have b89 : ∀ (x : Int32), f_X8_judge_b89 M (nI k) a 1 x = if ne < 160 then (if x = 0 then rThr 2 M else f_X8_judge_b152 M (nI k) (juW M k (-1))) else rThr 2 M := by
    intro x
    unfold f_X8_judge_b89
    by_cases c0 : ne < 160
    · rw [if_pos c0]
      unfold f_X8_allow
      by_cases q : x = 0
      · rw [if_pos q, if_pos q, rb_thr]
      · rw [if_neg q, if_neg q, a5, show (160 : Int32) = nI 160 from by decide, if_pos (nI_lt c0 (by omega)), rb_ret]
        unfold f_X8_judge_b136
        rw [if_neg i10, e_amD (by omega), rb_ret]
    · rw [if_neg c0, e_allowF a5 c0 (by omega), rb_thr]
  have b133 : ∀ (x : Int32), f_X8_judge_b133 M (nI k) a 0 x = if ne < 160 then (if x = 0 then rThr 2 M else f_X8_judge_b152 M (nI k) a) else rThr 2 M := by
    intro x
    unfold f_X8_judge_b133
    by_cases c0 : ne < 160
    · rw [if_pos c0]
      unfold f_X8_allow
      by_cases q : x = 0
      · rw [if_pos q, if_pos q, rb_thr]
      · rw [if_neg q, if_neg q, a5, show (160 : Int32) = nI 160 from by decide, if_pos (nI_lt c0 (by omega)), rb_ret]
        unfold f_X8_judge_b136
        rw [if_pos rfl]
    · rw [if_neg c0, e_allowF a5 c0 (by omega), rb_thr]
  unfold f_X8_judge
  rw [c8_Claim a4 hk (by omega), rb_ret, hg24, hck]
  by_cases f1 : a < -1
  · rw [if_pos f1, if_pos f1]
  · rw [if_neg f1, if_neg f1]
    by_cases f2 : a ≤ M 50 k
    · rw [if_pos f2, if_pos f2]
      by_cases am : a = -1
      · have ej : juB M t ne k a = (unB M t ne k && (!decide (paV t (adV M t ne (nI k)) = 0) && !decide (M 52 k = 0))) := if_pos am
        have ew : juW M k a = juW M k (-1) := by rw [am]
        rw [if_pos am, ej, ew]
        unfold f_X8_judge_b43 f_X8_judge_b88
        rw [if_neg i10, e_un8 I hk, rb_ret, e_aStart I, rb_ret]
        cases hu : unB M t ne k with
        | false => simp [b89]
        | true =>
          rw [e_lateA I hn hk (un_mop hu), rb_ret, hg24, hck, b89, b89]
          rcases paV_z t (adV M t ne (nI k)) with z | z
          · rw [z]; simp
          · rw [z]
            by_cases c5 : M 52 k = 0
            · rw [if_pos c5, decide_eq_true c5]; simp
            · rw [if_neg c5, decide_eq_false c5]; simp
      · have ej : juB M t ne k a = (decide (M 51 k = 0) && (ansB M t ne (nI k) && (decide (M 52 k = -1) || decide (a ≤ M 52 k)))) := if_neg am
        have ew : juW M k a = a := if_neg am
        rw [if_neg am, ej, ew]
        unfold f_X8_judge_b43 f_X8_judge_b132
        rw [if_pos rfl, hg24, hck, e_ans8 I, rb_ret, e_above (by omega), rb_ret, b133, b133]
        by_cases c1 : M 51 k = 0
        · rw [if_pos c1, decide_eq_true c1]
          cases ansB M t ne (nI k) with
          | false => simp
          | true =>
            by_cases c5 : M 52 k = -1
            · rw [if_pos c5, decide_eq_true c5]; simp
            · rw [if_neg c5, decide_eq_false c5]
              by_cases c6 : a ≤ M 52 k
              · rw [if_pos c6, decide_eq_true c6]; simp
              · rw [if_neg c6, decide_eq_false c6]; simp
        · rw [if_neg c1, decide_eq_false c1]; simp
    · rw [if_neg f2, if_neg f2]
theorem e_judge9 {t nh nc nk ne nr nx ns n : Nat} {M' M : gM} (I : InvP t nh nc nk ne nr nx ns n M) (R : Rf M' M) (hn : n ≤ 512) {k : Nat} (hk : k < nk) (a : Int32) : f_X9_judge M' (nI k) a = if a < -1 then rRet 0 (gset M' 9 0 2) else if a ≤ M 50 k then (if ne < 160 then (if juB M t ne k a then f_X9_judge_b231 M' (nI k) (juW M k a) 0 else rRet 0 (gset M' 9 0 3)) else rRet 0 (gset M' 9 0 3)) else rRet 0 (gset M' 9 0 2) := by
  obtain ⟨-, ⟨b1, b2, b3, b4, b5, b6, b7⟩, l1, l2, l3, l4, l5, l6, l7, l8⟩ := I.1
  obtain ⟨⟨e109, e110, e111, e112, e113, e114, e115⟩, -⟩ := I.2.2.2.2.2.1
  have hg24 : ∀ F : gR, gI (nI k) 24 F = F := fun F => gI_nI (by omega) (by omega)
  have hck : (nI k).toNatClampNeg = k := nI_clamp (by omega)
  have b203 : ∀ (x w : Int32), f_X9_judge_b203 M' (nI k) 1 1 x w = if x = 0 then rRet 0 (gset M' 9 0 3) else f_X9_judge_b231 M' (nI k) w 0 := by
    intro x w
    unfold f_X9_judge_b203
    rw [if_neg i10, if_neg i10, n9_jud (Or.inr (Or.inr rfl))]
  have b203n : ∀ (x w : Int32), f_X9_judge_b203 M' (nI k) 1 0 x w = rRet 0 (gset M' 9 0 2) := by
    intro x w
    unfold f_X9_judge_b203
    rw [if_neg i10, if_pos rfl, n9_jud (Or.inr (Or.inl rfl))]
  have b136 : ∀ (x : Int32), f_X9_judge_b136 M' (nI k) 1 1 (M 52 k) x = if x = 0 then rRet 0 (gset M' 9 0 3) else f_X9_judge_b231 M' (nI k) (juW M k (-1)) 0 := by
    intro x
    unfold f_X9_judge_b136 f_X9_judge_b160 f_X9_judge_b166 juW
    rw [hg24, hg24, hck, R.2 113 (by omega), e113, b203, b203, if_pos rfl]
    by_cases c : M 52 k = -1
    · rw [if_pos c, if_pos c]
    · rw [if_neg c, if_neg c]
      by_cases c2 : M 50 k ≤ M 52 k
      · rw [if_pos c2, if_pos c2]
      · rw [if_neg c2, if_neg c2]
  have b171z : ∀ (w c5 c6 : Int32), f_X9_judge_b171 M' (nI k) w 1 1 0 c5 c6 = rRet 0 (gset M' 9 0 3) := by
    intro w c5 c6
    unfold f_X9_judge_b171
    rw [if_pos rfl, b203, if_pos rfl]
  have b57z : f_X9_judge_b57 M' (nI k) a 1 1 0 = rRet 0 (gset M' 9 0 3) := by
    unfold f_X9_judge_b57
    rw [if_neg i10, hg24]
    unfold f_X9_judge_b73
    rw [if_pos rfl, b171z, ite_self]
  have b57n : f_X9_judge_b57 M' (nI k) a 1 0 0 = rRet 0 (gset M' 9 0 2) := by
    unfold f_X9_judge_b57
    rw [if_neg i10, hg24]
    unfold f_X9_judge_b73
    rw [if_pos rfl]
    unfold f_X9_judge_b171
    rw [if_pos rfl, b203n, ite_self]
  have b57o : M 51 k = 0 → f_X9_judge_b57 M' (nI k) a 1 1 1 = if juB M t ne k a then f_X9_judge_b231 M' (nI k) (juW M k a) 0 else rRet 0 (gset M' 9 0 3) := by
    intro h51
    unfold f_X9_judge_b57
    rw [if_neg i10, hg24, hck, R.2 114 (by omega), e114]
    unfold f_X9_judge_b73 f_X9_judge_b135
    rw [if_neg i10, e_last9 I R, lv_ls I (by decide) (by decide), rb_ret, e_ans9 I R, rb_ret, e_mop9 I R, rb_ret, e_aDue I R hn hk, rb_ret, e_past9 ((R.1 1 (by omega)).trans b1), rb_ret, b136, b136, if_pos rfl, if_neg i10]
    by_cases am : a = -1
    · have ej : juB M t ne k a = (unB M t ne k && (!decide (paV t (adV M t ne (nI k)) = 0) && !decide (M 52 k = 0))) := if_pos am
      have ew : juW M k a = juW M k (-1) := by rw [am]
      rw [if_pos am, ej, ew]
      unfold unB
      rw [decide_eq_true h51]
      by_cases c2 : lsV M ne 0 (nI k) = -1
      · rw [if_pos c2, decide_eq_true c2]; simp
      · rw [if_neg c2, decide_eq_false c2]
        rcases paV_z t (adV M t ne (nI k)) with z | z
        · rw [z]
          cases ansB M t ne (nI k) <;> cases mopB M t ne (nI k) <;> simp
        · rw [z]
          by_cases c5 : M 52 k = 0
          · rw [if_pos c5, decide_eq_true c5]
            cases ansB M t ne (nI k) <;> cases mopB M t ne (nI k) <;> simp
          · rw [if_neg c5, decide_eq_false c5]
            cases ansB M t ne (nI k) <;> cases mopB M t ne (nI k) <;> simp
    · have ej : juB M t ne k a = (decide (M 51 k = 0) && (ansB M t ne (nI k) && (decide (M 52 k = -1) || decide (a ≤ M 52 k)))) := if_neg am
      have ew : juW M k a = a := if_neg am
      rw [if_neg am, ej, ew, decide_eq_true h51]
      unfold f_X9_judge_b171 f_X9_judge_b196 f_X9_judge_b200 f_X9_judge_b201
      rw [if_neg i10, e_ans9 I R, rb_ret, b203, b203, if_pos rfl, if_neg i10]
      cases ansB M t ne (nI k) with
      | false => simp
      | true =>
        by_cases c5 : M 52 k = -1
        · rw [if_pos c5, decide_eq_true c5]; simp
        · rw [if_neg c5, decide_eq_false c5]
          by_cases c6 : a ≤ M 52 k
          · rw [if_neg (Int32.not_lt.mpr c6), decide_eq_true c6]; simp
          · rw [if_pos (Int32.not_le.mp c6), decide_eq_false c6]; simp
  unfold f_X9_judge
  rw [c9_Claim ((R.1 11 (by omega)).trans b4) hk (by omega), rb_ret, if_neg i10, hg24, hck, R.2 113 (by omega), e113, wit_eq, rb_ret]
  unfold f_X9_judge_b28 f_X9_judge_b29 f_X9_judge_b56
  rw [if_pos (c := (0 : Int32) = 0) rfl, b57n, if_neg i10, e_room ((R.1 23 (by omega)).trans b5) (by omega), rb_ret, hg24, hck, R.2 112 (by omega), e112, b57z]
  by_cases f1 : a < -1
  · rw [if_pos (c := a < -1) f1, if_pos rfl, if_pos f1]
  · rw [if_neg (c := a < -1) f1, if_neg (c := a < -1) f1]
    by_cases f2 : a ≤ M 50 k
    · rw [if_neg (c := M 50 k < a) (Int32.not_lt.mpr f2), if_neg i10, if_pos f2]
      by_cases c0 : ne < 160
      · rw [if_pos c0, if_neg i10, if_pos c0]
        by_cases h51 : M 51 k = 0
        · rw [if_pos h51, b57o h51]
        · rw [if_neg h51]
          have : juB M t ne k a = false := by
            unfold juB unB
            rw [decide_eq_false h51, Bool.false_and, Bool.false_and, Bool.false_and, ite_self]
          rw [this]; rfl
      · rw [if_neg c0, if_pos rfl, if_neg c0]
    · rw [if_pos (c := M 50 k < a) (Int32.not_le.mp f2), if_pos rfl, if_neg f2]
theorem ju_serve {t nh nc nk ne nr nx ns n : Nat} {M : gM} (I : InvP t nh nc nk ne nr nx ns n M) {k : Nat} {a : Int32} (h : juB M t ne k a = true) : M 51 k = 0 ∧ ∃ s, s < ne ∧ M 55 s = 0 ∧ M 57 s = nI k := by
  unfold juB at h
  by_cases am : a = -1
  · rw [if_pos am, Bool.and_eq_true] at h
    exact un_serve h.1
  · rw [if_neg am, Bool.and_eq_true, Bool.and_eq_true] at h
    refine ⟨of_decide_eq_true h.1, ?_⟩
    obtain ⟨e, e1, e2⟩ := (exB_iff ne).mp h.2.1
    obtain ⟨p1, p2, -⟩ := and3_t e2
    exact I.2.2.2.2.2.2.2.2.2.2.1.sv e1 (Or.inl (of_decide_eq_true p1)) (of_decide_eq_true p2)
theorem st_judge : St_judge Inv := by
  intro n M a b hn hI
  obtain ⟨t, nh, nc, nk, ne, nr, nx, ns, I⟩ := hI
  obtain ⟨⟨a1, a2, a3, a4, a5, a6, a7, a8⟩, ⟨b1, b2, b3, b4, b5, b6, b7⟩, l1, l2, l3, l4, l5, l6, l7, l8⟩ := I.1
  have gr := I.2.2.1.2.2
  have e104 : M 104 = M 14 := I.2.2.1.2.1
  have e103 : M 103 = M 13 := I.2.2.1.1
  have e112 : M 112 = M 51 := I.2.2.2.2.2.1.1.2.2.2.1
  have e113 : M 113 = M 50 := I.2.2.2.2.2.1.1.2.2.2.2.1
  obtain ⟨⟨x, x1, x2, x3⟩, -⟩ := gr 2 (by omega)
  rcases idx_cases a nk (by omega) with ⟨k, hk, rfl⟩ | hb
  · have hg24 : ∀ F : gR, gI (nI k) 24 F = F := fun F => gI_nI (by omega) (by omega)
    have hck : (nI k).toNatClampNeg = k := nI_clamp (by omega)
    have k8 := e_judge8 I (by omega) hk b
    have k9 := fun M' (R : Rf M' M) => e_judge9 I R (by omega) hk b
    by_cases fair : ¬ b < -1 ∧ b ≤ M 50 k
    · obtain ⟨f1, f2⟩ := fair
      have no : (ne < 160 → juB M t ne k b = false) → AgI (f_L_judge M (nI k) b) (fun M1 => f_X9_judge M1 (nI k) b) (Inv (n + 1)) := by
        intro h
        refine agI_no (k := 3) ?_ (by decide) (b := 0) ?_ (inv_no I)
        · have : f_X8_judge M (nI k) b = rThr 2 M := by
            rw [k8, if_neg f1, if_pos f2]
            by_cases q : ne < 160
            · rw [if_pos q, h q]; rfl
            · rw [if_neg q]
          unfold f_L_judge
          rw [this, rc_thr]
          rfl
        · show f_X9_judge M (nI k) b = _
          rw [k9 M (Rf.rfl M), if_neg f1, if_pos f2]
          by_cases q : ne < 160
          · rw [if_pos q, h q]; rfl
          · rw [if_neg q]
      by_cases c0 : ne < 160
      · cases cc : juB M t ne k b with
        | false => exact no (fun _ => cc)
        | true =>
          obtain ⟨h51, s, s1, s2, s3⟩ := ju_serve I cc
          have hz2 : z01 (M 104 2) := by rw [e104]; exact (gr 2 (by omega)).2
          generalize juW M k b = w at *
          refine agI_ok (v := nI ne) (M1 := gset (gset (gset (gset (gset (en8 M ne t 5 (nI k) w 0) 60 ne (M 50 k)) 63 ne (M 13 2)) 64 ne (M 14 2)) 51 k (juS w)) 50 k (juA M k w)) (M2 := gset (gset (gset (gset (gset (gset (en9 (gset (gset (gset (gset (gset (gset (gset (en8 M ne t 5 (nI k) w 0) 60 ne (M 50 k)) 63 ne (M 13 2)) 64 ne (M 14 2)) 51 k (juS w)) 50 k (juA M k w)) 10 0 (nI ne)) 9 0 0) ne t 5 (nI k) w 0 2) 127 ne (M 112 k)) 128 ne (M 113 k)) 129 ne (M 114 k)) 9 23 (nI (ne + 1))) 112 k (juS w)) 113 k (juA M k w)) ?_ ?_ rfl rfl ?_
          · have : f_X8_judge_b152 M (nI k) w = rRet (nI ne) (gset (gset (gset (gset (gset (en8 M ne t 5 (nI k) w 0) 60 ne (M 50 k)) 63 ne (M 13 2)) 64 ne (M 14 2)) 51 k (juS w)) 50 k (juA M k w)) := by
              unfold f_X8_judge_b152
              rw [e_en8a (r := 2) a5 a1 c0 (show k < 24 by omega) _ _ (Or.inr rfl) (fun N => rfl) (by omega) (gr 2 (by omega)).2, rb_ret]
              simp only [bM, hg24, hck]
              unfold juS juA
              by_cases z0 : w = 0
              · rw [if_pos z0, if_pos z0, if_pos z0]
                exact congrArg (rRet (nI ne)) (gset_id rfl).symm
              · rw [if_neg z0, if_neg z0, if_neg z0]
            unfold f_L_judge
            rw [k8, if_neg f1, if_pos f2, if_pos c0, cc, if_pos rfl, this, rc_ret]
          · have R : Rf (gset (gset (gset (gset (gset (gset (en8 M ne t 5 (nI k) w 0) 60 ne (M 50 k)) 63 ne (M 13 2)) 64 ne (M 14 2)) 51 k (juS w)) 50 k (juA M k w)) 10 0 (nI ne)) M := (((((((((((((Rf.rfl M).s (by omega) (by omega) _ _).s (by omega) (by omega) _ _).s (by omega) (by omega) _ _).s (by omega) (by omega) _ _).s (by omega) (by omega) _ _).s (by omega) (by omega) _ _).s (by omega) (by omega) _ _).s (by omega) (by omega) _ _).s (by omega) (by omega) _ _).s (by omega) (by omega) _ _).s (by omega) (by omega) _ _).s (by omega) (by omega) _ _).o _
            show f_X9_judge _ (nI k) b = _
            rw [k9 _ R, if_neg f1, if_pos f2, if_pos c0, cc, if_pos rfl]
            unfold f_X9_judge_b231
            rw [rf_0, rb_ret, if_pos rfl, e_en9 (K := 5) (M := gset (gset (gset (gset (gset (gset (gset (en8 M ne t 5 (nI k) w 0) 60 ne (M 50 k)) 63 ne (M 13 2)) 64 ne (M 14 2)) 51 k (juS w)) 50 k (juA M k w)) 10 0 (nI ne)) 9 0 0) b5 b1 c0 (show k < 24 by omega) _ _ (by decide) hz2, rb_ret]
            unfold f_X9_judge_b265
            simp only [bM, hg24, hck]
            unfold juS juA
            by_cases z0 : w = 0
            · rw [if_pos z0, if_pos z0, if_pos z0, if_pos z0]
              exact congrArg (fun v => rRet (nI ne) (gset _ 113 k v)) (show M 113 k = M 50 k by rw [e113])
            · rw [if_neg z0, if_neg z0, if_neg z0, if_neg z0]
              rfl
          · have z6 := I.z61
            have hS : isIx 6 (juS w) := by
              unfold juS
              by_cases z : w = 0
              · rw [if_pos z]; exact ⟨1, by omega, rfl⟩
              · rw [if_neg z]; exact ⟨2, by omega, rfl⟩
            obtain ⟨g1, g2, g3, g4, g5, g6, g7, g8, g9, g10, g11, g12, g13, g14⟩ := I
            exact ⟨t, nh, nc, nk, ne + 1, nr, nx, ns, ⟨⟨a1, a2, a3, a4, rfl, a6, a7, a8⟩, ⟨b1, b2, b3, b4, rfl, b6, b7⟩, l1, l2, l3, l4, c0, l6, l7, (Nat.le_succ_of_le l8)⟩, g2, g3, g4.add (by decide), g5, g6.a2 hk hS (by decide), g7, g8, g9, g10,
              g11.ent (by omega) ⟨5, by omega, rfl, fun h => absurd h (by omega), fun _ => ⟨k, hk, rfl⟩⟩ (fun h => absurd h (by decide)) (fun h => absurd h (by decide)) (fun h => absurd h (by decide)) (fun _ => rfl) (fun h => absurd h (by decide)) (fun _ => rfl) (fun _ => ⟨s, s1, s2, s3⟩) g11.1.2.2.2.2.2,
              g12.ent _, g13.ent (m63' := upd (M 63) ne (M 13 2)) (m64' := upd (M 64) ne (M 14 2)) (R := M 103 2) (W := M 104 2) (by omega) (fun e he => upd_lt he) (fun e he => upd_lt he) (fun e => z01_upd (gr 2 (by omega)).2 (g13.2.1 e).1) hz2 (fun _ => ⟨⟨x, x1, by omega, by rw [upd_eq]; exact x3⟩, by rw [upd_eq, e104]⟩) (fun h => absurd h (by decide)) (fun h => absurd h (by decide)) (fun _ => by rw [upd_eq, e103]) z6,
              g14.ent (m50' := upd (M 50) k (juA M k w)) (m51' := upd (M 51) k (juS w)) (m52' := M 52) (m53' := M 53) (m60' := upd (M 60) ne (M 50 k)) (m61' := M 61) (m127' := upd (M 127) ne (M 112 k)) (m128' := upd (M 128) ne (M 113 k)) (m129' := upd (M 129) ne (M 114 k)) (c := k) (by omega) l4 hk rfl (fun j hj => ⟨upd_nx hj, upd_nx hj, rfl, rfl⟩) ⟨by rw [upd_eq]; rfl, (g14.1 k (by omega)).2⟩ (fun _ _ _ => rfl) (fun q => by
                  rw [upd_eq] at q
                  refine Or.inr ⟨rfl, ?_, (g11.2.2.2.2.2.2.2.2.1 ne (by omega)).1⟩
                  rw [upd_eq]
                  unfold juA
                  unfold juS at q
                  by_cases z : w = 0
                  · rw [if_pos z] at q
                    exact absurd q (by decide)
                  · rw [if_neg z]) (fun e he => ⟨upd_lt he, upd_lt he, upd_lt he, upd_lt he⟩) (fun _ => ⟨by rw [upd_eq, e112, h51], by rw [upd_eq, upd_eq, e113], by rw [upd_eq, g6.1.2.2.2.2.2.1]⟩) (fun _ => rfl)⟩
      · exact no (fun h => absurd h c0)
    · refine agI_no (k := 2) ?_ (by decide) (b := 0) ?_ (inv_no I)
      · unfold f_L_judge
        have : f_X8_judge M (nI k) b = rThr 1 M := by
          rw [k8]
          by_cases f1 : b < -1
          · rw [if_pos f1]
          · rw [if_neg f1, if_neg (fun f2 => fair ⟨f1, f2⟩)]
        rw [this, rc_thr]
        rfl
      · show f_X9_judge M (nI k) b = _
        rw [k9 M (Rf.rfl M)]
        by_cases f1 : b < -1
        · rw [if_pos f1]
        · rw [if_neg f1, if_neg (fun f2 => fair ⟨f1, f2⟩)]
  · refine agI_no (k := 1) ?_ (by decide) (b := 0) ?_ (inv_no I)
    · unfold f_L_judge f_X8_judge
      rw [n8_Claim a4 hb, rb_thr, rc_thr]
      rfl
    · unfold f_X9_judge
      rw [n9_Claim b4 (by omega) hb, rb_ret, if_pos rfl]
      unfold f_X9_judge_b28 f_X9_judge_b29 f_X9_judge_b56 f_X9_judge_b57
      rw [if_pos rfl, if_pos rfl]
      unfold f_X9_judge_b73 f_X9_judge_b171 f_X9_judge_b203
      rw [if_pos rfl, if_pos rfl, if_pos rfl, ite_self]
      exact n9_jud (Or.inl rfl)
