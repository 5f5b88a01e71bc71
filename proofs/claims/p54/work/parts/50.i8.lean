/-! ===== the last entry that .. ===== -/
theorem fold_last {p : Nat → Bool} {s0 : Int32} : ∀ {n : Nat}, n < 2 ^ 31 → fold (fun e s => if p e then nI e else s) s0 n = if lastP p n = -1 then s0 else lastP p n
  | 0, _ => by
    show s0 = if (-1 : Int32) = -1 then s0 else -1
    rw [if_pos rfl]
  | n + 1, h => by
    show (if p n then nI n else fold (fun e s => if p e then nI e else s) s0 n) = if (if p n then nI n else lastP p n) = -1 then s0 else (if p n then nI n else lastP p n)
    rw [fold_last (by omega)]
    cases c : p n with
    | true => rw [if_pos rfl, if_pos rfl, if_neg (m1_ne (by omega))]
    | false => simp
theorem fold_last1 {p : Nat → Bool} {n : Nat} (h : n < 2 ^ 31) : fold (fun e s => if p e then nI e else s) (-1) n = lastP p n := by
  rw [fold_last h]
  by_cases c : lastP p n = -1
  · rw [if_pos c, c]
  · rw [if_neg c]
def lsV (M : gM) (ne : Nat) (K k : Int32) : Int32 := lastP (fun e => decide (M 55 e = K) && decide (M 57 e = k)) ne
def lvV (M : gM) (ne : Nat) (K k : Int32) : Int32 := lastP (fun e => decide (M 55 e = K) && decide (M 57 e = k) && decide (M 61 e = 0)) ne
theorem nI_m1_lt : nI 0 - 1 < 0 := by decide +kernel
theorem e_last8 {M : gM} {ne : Nat} (h : M 4 0 = nI ne) (h5 : ne ≤ 160) (K k : Int32) : f_X3_latest M K k = rRet (lsV M ne K k) M := by
  unfold f_X3_latest
  rw [h]
  refine lp_dn (L := fun f i => f_X3_latest_l7 f M K k i) (p := fun e => decide (M 55 e = K) && decide (M 57 e = k)) (n := ne) ?_ ?_ ?_ ne 5000 (by omega) (by omega)
  · intro g i hi hp
    rw [Bool.and_eq_true] at hp
    have hg : ∀ F : gR, gI (nI i) 160 F = F := fun F => gI_nI (by omega) (by omega)
    show f_X3_latest_lb7 _ M K k (nI i) = _
    unfold f_X3_latest_lb7
    rw [if_neg (nI_pos (by omega)), hg, nI_clamp (show i < 2 ^ 31 by omega), if_pos (of_decide_eq_true hp.1), hg, if_pos (of_decide_eq_true hp.2)]
  · intro g i hi hp
    have hg : ∀ F : gR, gI (nI i) 160 F = F := fun F => gI_nI (by omega) (by omega)
    show f_X3_latest_lb7 _ M K k (nI i) = f_X3_latest_l7 g M K k (nI i - 1)
    unfold f_X3_latest_lb7
    rw [if_neg (nI_pos (by omega)), hg, nI_clamp (show i < 2 ^ 31 by omega), hg]
    simp only [bV]
    rw [nI_m1]
    by_cases c1 : M 55 i = K
    · rw [if_pos c1]
      by_cases c2 : M 57 i = k
      · rw [decide_eq_true c1, decide_eq_true c2] at hp
        cases hp
      · rw [if_neg c2]
    · rw [if_neg c1]
  · intro g
    show f_X3_latest_lb7 _ M K k (nI 0 - 1) = _
    unfold f_X3_latest_lb7
    rw [if_pos nI_m1_lt]
theorem e_last9 {t nh nc nk ne nr nx ns n : Nat} {M' M : gM} (I : InvP t nh nc nk ne nr nx ns n M) (R : Rf M' M) (K k : Int32) : f_X9_latest M' k K = rRet (lvV M ne K k) M' := by
  obtain ⟨-, ⟨b1, b2, b3, b4, b5, -⟩, l1, l2, l3, l4, l5, l6, l7, l8⟩ := I.1
  have h23 : M' 9 23 = nI ne := (R.1 23 (by omega)).trans b5
  have e120 : M' 120 = M 55 := (R.2 120 (by omega)).trans I.2.2.2.2.2.2.2.2.2.2.1.1.1
  have e122 : M' 122 = M 57 := (R.2 122 (by omega)).trans I.2.2.2.2.2.2.2.2.2.2.1.1.2.2.1
  have e130 : M' 130 = M 61 := (R.2 130 (by omega)).trans I.2.2.2.2.2.2.2.2.2.2.1.1.2.2.2.2.2
  have q := lp_fd0 (L := fun f s i => f_X9_latest_l5 f M' k K s i) (st := fun e s => if (decide (M 55 e = K) && decide (M 57 e = k) && decide (M 61 e = 0)) then nI e else s) (s0 := -1) (F := fun s => rRet s M') (n := ne) ?_ ?_ (by omega)
  · show f_X9_latest_l5 5000 M' k K (-1) 0 = _
    refine Eq.trans q ?_
    show rRet (fold (fun e s => if (decide (M 55 e = K) && decide (M 57 e = k) && decide (M 61 e = 0)) then nI e else s) (-1) ne) M' = _
    rw [fold_last1 (p := fun e => decide (M 55 e = K) && decide (M 57 e = k) && decide (M 61 e = 0)) (by omega)]
    rfl
  · intro g i hi
    have hg : ∀ F : gR, gI (nI i) 160 F = F := fun F => gI_nI (by omega) (by omega)
    show f_X9_latest_lb5 _ M' k K (fold _ (-1) i) (nI i) = f_X9_latest_l5 g M' k K (if (decide (M 55 i = K) && decide (M 57 i = k) && decide (M 61 i = 0)) then nI i else fold _ (-1) i) (nI (i + 1))
    generalize fold _ (-1) i = s
    unfold f_X9_latest_lb5
    rw [h23, if_neg (nI_ge (by omega) (by omega)), hg, nI_clamp (show i < 2 ^ 31 by omega), hg, hg, e120, e122, e130]
    simp only [bV]
    rw [nI_1]
    by_cases c1 : M 55 i = K
    · rw [if_pos c1, decide_eq_true c1]
      by_cases c2 : M 57 i = k
      · rw [if_pos c2, decide_eq_true c2]
        by_cases c3 : M 61 i = 0
        · rw [if_pos c3, decide_eq_true c3]; rfl
        · rw [if_neg c3, decide_eq_false c3]; rfl
      · rw [if_neg c2, decide_eq_false c2]; rfl
    · rw [if_neg c1, decide_eq_false c1]; rfl
  · intro g
    show f_X9_latest_lb5 _ M' k K (fold _ (-1) ne) (nI ne) = _
    unfold f_X9_latest_lb5
    rw [h23, if_pos (nI_le (by omega) (by omega))]
theorem lv_ls {t nh nc nk ne nr nx ns n : Nat} {M : gM} (I : InvP t nh nc nk ne nr nx ns n M) {K : Int32} (h4 : K ≠ 4) (h5 : K ≠ 5) (k : Int32) : lvV M ne K k = lsV M ne K k := by
  obtain ⟨-, -, -, -, -, -, z, y, -⟩ := I.2.2.2.2.2.2.2.2.2.2.1
  refine lastP_congr (fun e he => ?_)
  by_cases c : M 55 e = K
  · have : M 61 e = 0 := by
      rcases (z e).1 with q | q
      · exact q
      · rcases y e he q with w | w
        · exact absurd (c.symm.trans w) h4
        · exact absurd (c.symm.trans w) h5
    rw [decide_eq_true this, Bool.and_true]
  · rw [decide_eq_false c]
    rfl
/-- with which entries the deadline for an answer begins -/
def beB (M : gM) (e : Nat) : Bool := decide (M 55 e = 4 ∧ M 58 e ≠ 0) || decide (M 55 e = 6 ∧ M 55 (M 58 e).toNatClampNeg = 4)
def asB (M : gM) (k : Int32) (e : Nat) : Bool := decide (M 57 e = k) && (decide (M 55 e = 0) || beB M e)
def asV (M : gM) (ne : Nat) (k : Int32) : Int32 := lastP (asB M k) ne
theorem e_begins {t nh nc nk ne nr nx ns n : Nat} {M : gM} (I : InvP t nh nc nk ne nr nx ns n M) {e : Nat} (he : e < ne) : f_X3_beginsAnew M (nI e) = rRet (if beB M e then 1 else 0) M := by
  obtain ⟨-, -, l1, l2, l3, l4, l5, l6, l7, l8⟩ := I.1
  have hg : ∀ F : gR, gI (nI e) 160 F = F := fun F => gI_nI (by omega) (by omega)
  unfold f_X3_beginsAnew beB
  rw [hg, nI_clamp (show e < 2 ^ 31 by omega), hg, hg, hg]
  by_cases c6 : M 55 e = 6
  · obtain ⟨-, -, -, -, -, d6, -⟩ := I.2.2.2.2.2.2.2.2.2.2.1
    obtain ⟨o, o1, o2, -⟩ := d6 e he c6
    rw [if_pos c6, o2, gI_nI (show o < 160 by omega) (by omega), nI_clamp (show o < 2 ^ 31 by omega), decide_eq_false (p := M 55 e = 4 ∧ nI o ≠ 0) (fun h => by rw [c6] at h; exact absurd h.1 (by decide)), Bool.false_or]
    by_cases c : M 55 o = 4
    · rw [if_pos c, decide_eq_true ⟨c6, c⟩]; rfl
    · rw [if_neg c, decide_eq_false (fun h => c h.2)]; rfl
  · rw [if_neg c6, decide_eq_false (p := M 55 e = 6 ∧ _) (fun h => c6 h.1), Bool.or_false]
    by_cases c4 : M 55 e = 4
    · rw [if_pos c4]
      by_cases c0 : M 58 e = 0
      · rw [if_pos c0, decide_eq_false (fun h => h.2 c0)]; rfl
      · rw [if_neg c0, decide_eq_true ⟨c4, c0⟩]; rfl
    · rw [if_neg c4, decide_eq_false (fun h => c4 h.1)]; rfl
theorem e_ofClaim {M : gM} {e : Nat} (he : e < 160) (k : Int32) : f_X3_isOfClaim M (nI e) k = rRet (if M 57 e = k then (if M 55 e = 11 then 0 else if M 55 e = 12 then 0 else 1) else 0) M := by
  have hg : ∀ F : gR, gI (nI e) 160 F = F := fun F => gI_nI (by omega) (by omega)
  unfold f_X3_isOfClaim f_X3_isOfCase
  rw [hg, hg, hg, nI_clamp (show e < 2 ^ 31 by omega)]
  by_cases c : M 57 e = k
  · rw [if_pos c, if_pos c]
    by_cases c2 : M 55 e = 11
    · rw [if_pos c2, if_pos c2, rb_ret, if_neg i10]
    · rw [if_neg c2, if_neg c2]
      by_cases c3 : M 55 e = 12
      · rw [if_pos c3, if_pos c3, rb_ret, if_neg i10]
      · rw [if_neg c3, if_neg c3, rb_ret, if_pos rfl]
  · rw [if_neg c, if_neg c]
theorem beB_kd {M : gM} {e : Nat} (h : beB M e = true) : M 55 e = 4 ∨ M 55 e = 6 := by
  unfold beB at h
  rw [Bool.or_eq_true] at h
  rcases h with h | h
  · exact Or.inl (of_decide_eq_true h).1
  · exact Or.inr (of_decide_eq_true h).1
theorem e_aStart {t nh nc nk ne nr nx ns n : Nat} {M : gM} (I : InvP t nh nc nk ne nr nx ns n M) (k : Int32) : f_X3_answerStart M k = rRet (asV M ne k) M := by
  obtain ⟨⟨a1, a2, a3, a4, a5, -⟩, -, l1, l2, l3, l4, l5, l6, l7, l8⟩ := I.1
  unfold f_X3_answerStart
  rw [a5]
  refine lp_dn (L := fun f i => f_X3_answerStart_l7 f M k i) (p := asB M k) (n := ne) ?_ ?_ ?_ ne 5000 (by omega) (by omega)
  · intro g i hi hp
    unfold asB at hp
    rw [Bool.and_eq_true, Bool.or_eq_true] at hp
    have hg : ∀ F : gR, gI (nI i) 160 F = F := fun F => gI_nI (by omega) (by omega)
    show f_X3_answerStart_lb7 _ M k (nI i) = _
    unfold f_X3_answerStart_lb7
    have h57 := of_decide_eq_true hp.1
    rw [if_neg (nI_pos (by omega)), e_ofClaim (by omega), rb_ret, if_pos h57]
    have hk : M 55 i = 0 ∨ M 55 i = 4 ∨ M 55 i = 6 := hp.2.elim (fun h => Or.inl (of_decide_eq_true h)) (fun h => Or.inr (beB_kd h))
    rw [if_neg (c := M 55 i = 11) (by rcases hk with h | h | h <;> rw [h] <;> decide), if_neg (c := M 55 i = 12) (by rcases hk with h | h | h <;> rw [h] <;> decide), if_neg i10, hg, nI_clamp (show i < 2 ^ 31 by omega), e_begins I hi, rb_ret]
    rcases hp.2 with h | h
    · rw [if_pos (of_decide_eq_true h)]
    · rw [h, if_pos rfl, if_neg i10]
      by_cases z : M 55 i = 0
      · rw [if_pos z]
      · rw [if_neg z]
  · intro g i hi hp
    unfold asB at hp
    have hg : ∀ F : gR, gI (nI i) 160 F = F := fun F => gI_nI (by omega) (by omega)
    show f_X3_answerStart_lb7 _ M k (nI i) = f_X3_answerStart_l7 g M k (nI i - 1)
    unfold f_X3_answerStart_lb7
    rw [if_neg (nI_pos (by omega)), e_ofClaim (by omega), rb_ret, hg, nI_clamp (show i < 2 ^ 31 by omega), e_begins I hi, rb_ret]
    simp only [bV]
    rw [nI_m1]
    by_cases c1 : M 57 i = k
    · rw [decide_eq_true c1, Bool.true_and, Bool.or_eq_false_iff] at hp
      rw [if_neg (c := M 55 i = 0) (of_decide_eq_false hp.1), hp.2, if_neg (c := false = true) (by decide), if_pos (c := (0 : Int32) = 0) rfl]
      by_cases z : (if M 57 i = k then if M 55 i = 11 then (0 : Int32) else if M 55 i = 12 then 0 else 1 else 0) = 0
      · rw [if_pos z]
      · rw [if_neg z]
    · rw [if_neg c1, if_pos rfl]
  · intro g
    show f_X3_answerStart_lb7 _ M k (nI 0 - 1) = _
    unfold f_X3_answerStart_lb7
    rw [if_pos nI_m1_lt]
