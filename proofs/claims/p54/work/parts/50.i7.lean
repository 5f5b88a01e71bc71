theorem e_opn8 {t nh nc nk ne nr nx ns n : Nat} {M : gM} (I : InvP t nh nc nk ne nr nx ns n M) {m : Nat} (hm : m < ne) : f_X8_isOpenMotion M (nI m) = rRet (if opnV M t ne m then 1 else 0) M := by
  obtain ⟨-, -, l1, l2, l3, l4, l5, l6, l7, l8⟩ := I.1
  unfold f_X8_isOpenMotion opnV
  rw [gI_nI (show m < 160 by omega) (by omega), nI_clamp (show m < 2 ^ 31 by omega), e_cnt8 I hm, rb_ret]
  by_cases c : M 62 m = 0
  · rw [if_pos c, decide_eq_true c, Bool.true_and]
    rcases cnV_z (M := M) (t := t) (ne := ne) (e := m) with z | z
    · rw [z, if_pos rfl]; rfl
    · rw [z, if_neg i10]; rfl
  · rw [if_neg c, decide_eq_false c, Bool.false_and]; rfl
theorem opn_iff {t nh nc nk ne nr nx ns n : Nat} {M : gM} (I : InvP t nh nc nk ne nr nx ns n M) {m : Nat} (hm : m < ne) : M 62 m = 0 ↔ exB (fun e => decide (M 55 e = 4) && decide (M 59 e = nI m)) ne = false := by
  obtain ⟨-, -, -, -, -, -, z, -, -, k, -⟩ := I.2.2.2.2.2.2.2.2.2.2.1
  have k := k m hm
  have z := (z m).2
  rw [← z01_n z, k]
  cases c : exB (fun e => decide (M 55 e = 4) && decide (M 59 e = nI m)) ne with
  | true =>
    obtain ⟨j, h1, h2⟩ := (exB_iff ne).mp c
    rw [Bool.and_eq_true] at h2
    exact ⟨fun h => absurd ⟨j, h1, of_decide_eq_true h2.1, of_decide_eq_true h2.2⟩ h, fun h => (by cases h)⟩
  | false =>
    refine ⟨fun _ => rfl, fun _ ⟨j, h1, h2, h3⟩ => ?_⟩
    rw [(exB_iff ne).mpr ⟨j, h1, by rw [h2, h3]; simp⟩] at c
    cases c
theorem e_opn9 {t nh nc nk ne nr nx ns n : Nat} {M' M : gM} (I : InvP t nh nc nk ne nr nx ns n M) (R : Rf M' M) {m : Nat} (hm : m < ne) : f_X9_isOpen M' (nI m) = rRet (if opnV M t ne m then 1 else 0) M' := by
  obtain ⟨-, ⟨b1, b2, b3, b4, b5, -⟩, l1, l2, l3, l4, l5, l6, l7, l8⟩ := I.1
  have h23 : M' 9 23 = nI ne := (R.1 23 (by omega)).trans b5
  have e120 : M' 120 = M 55 := (R.2 120 (by omega)).trans I.2.2.2.2.2.2.2.2.2.2.1.1.1
  have e124 : M' 124 = M 59 := (R.2 124 (by omega)).trans I.2.2.2.2.2.2.2.2.2.2.1.1.2.2.2.2.1
  have st0 : ∀ g x, f_X9_isOpen_l8 (g + 1) M' (nI m) 0 x = rRet 0 M' := by
    intro g x
    show f_X9_isOpen_lb8 _ M' (nI m) 0 x = _
    unfold f_X9_isOpen_lb8
    rw [if_pos rfl, z01_eq (Or.inl rfl)]
    by_cases z : M' 9 23 ≤ x
    · rw [if_pos z]
    · rw [if_neg z]
  unfold f_X9_isOpen
  rw [e_cnt9 I R hm, rb_ret]
  unfold opnV
  rcases cnV_z (M := M) (t := t) (ne := ne) (e := m) with z | z
  · rw [z, st0 4999, decide_eq_false (show ¬ (0 : Int32) = 1 by decide), Bool.and_false]; rfl
  · have q := lp_exB (L := fun f i => f_X9_isOpen_l8 f M' (nI m) 1 i) (p := fun e => decide (M 55 e = 4) && decide (M 59 e = nI m)) (r0 := rRet 1 M') (r1 := rRet 0 M') (n := ne) ?_ ?_ ?_ (by omega) 0 (by omega) (fun i h => by omega)
    · rw [nI_0] at q
      rw [z, decide_eq_true rfl, Bool.and_true]
      refine Eq.trans q ?_
      have k := opn_iff I hm
      cases c : exB (fun e => decide (M 55 e = 4) && decide (M 59 e = nI m)) ne with
      | true => rw [decide_eq_false (fun q => by rw [k.mp q] at c; cases c)]; rfl
      | false => rw [decide_eq_true (k.mpr c)]; rfl
    · intro g i hi hp
      rw [Bool.and_eq_true] at hp
      have hg : ∀ F : gR, gI (nI i) 160 F = F := fun F => gI_nI (by omega) (by omega)
      show f_X9_isOpen_lb8 _ M' (nI m) 1 (nI i) = _
      unfold f_X9_isOpen_lb8
      rw [h23, if_neg (nI_ge (by omega) (by omega)), if_neg i10, hg, nI_clamp (show i < 2 ^ 31 by omega), e120, e124, if_pos (of_decide_eq_true hp.1), hg, if_pos (of_decide_eq_true hp.2)]
      exact st0 g _
    · intro g i hi hp
      have hg : ∀ F : gR, gI (nI i) 160 F = F := fun F => gI_nI (by omega) (by omega)
      show f_X9_isOpen_lb8 _ M' (nI m) 1 (nI i) = f_X9_isOpen_l8 (g + 1) M' (nI m) 1 (nI (i + 1))
      unfold f_X9_isOpen_lb8 f_X9_isOpen_b40
      rw [h23, if_neg (nI_ge (by omega) (by omega)), if_neg i10, hg, nI_clamp (show i < 2 ^ 31 by omega), e120, e124, hg]
      simp only [bV]
      rw [nI_1]
      by_cases c1 : M 55 i = 4
      · rw [if_pos c1]
        by_cases c2 : M 59 i = nI m
        · rw [decide_eq_true c1, decide_eq_true c2] at hp
          cases hp
        · rw [if_neg c2]
      · rw [if_neg c1]
    · intro g
      show f_X9_isOpen_lb8 _ M' (nI m) 1 (nI ne) = _
      unfold f_X9_isOpen_lb8
      rw [h23, if_pos (nI_le (by omega) (by omega)), z01_eq (Or.inr rfl)]
theorem e_mop8 {t nh nc nk ne nr nx ns n : Nat} {M : gM} (I : InvP t nh nc nk ne nr nx ns n M) (k : Int32) : f_X8_hasOpenMotion M k = rRet (if mopB M t ne k then 1 else 0) M := by
  obtain ⟨⟨a1, a2, a3, a4, a5, -⟩, -, l1, l2, l3, l4, l5, l6, l7, l8⟩ := I.1
  have q := lp_exB (L := fun f i => f_X8_hasOpenMotion_l2 f M k i) (p := fun e => decide (M 55 e = 2) && decide (M 57 e = k) && opnV M t ne e) (r0 := rRet 0 M) (r1 := rRet 1 M) (n := ne) ?_ ?_ ?_ (by omega) 0 (by omega) (fun i h => by omega)
  · rw [nI_0] at q
    show f_X8_hasOpenMotion_l2 5000 M k 0 = rRet (if mopB M t ne k then 1 else 0) M
    refine Eq.trans q ?_
    unfold mopB
    cases exB _ ne with
    | true => rfl
    | false => rfl
  · intro g i hi hp
    obtain ⟨p1, p2, p3⟩ := and3_t hp
    have hg : ∀ F : gR, gI (nI i) 160 F = F := fun F => gI_nI (by omega) (by omega)
    show f_X8_hasOpenMotion_lb2 _ M k (nI i) = _
    unfold f_X8_hasOpenMotion_lb2
    rw [a5, if_neg (nI_ge (by omega) (by omega)), hg, nI_clamp (show i < 2 ^ 31 by omega), if_pos (of_decide_eq_true p1), hg, if_pos (of_decide_eq_true p2), e_opn8 I hi, rb_ret, p3, if_pos rfl, if_neg i10]
  · intro g i hi hp
    have hg : ∀ F : gR, gI (nI i) 160 F = F := fun F => gI_nI (by omega) (by omega)
    show f_X8_hasOpenMotion_lb2 _ M k (nI i) = f_X8_hasOpenMotion_l2 (g + 1) M k (nI (i + 1))
    unfold f_X8_hasOpenMotion_lb2
    rw [a5, if_neg (nI_ge (by omega) (by omega)), hg, nI_clamp (show i < 2 ^ 31 by omega), hg, e_opn8 I hi, rb_ret]
    simp only [bV]
    rw [nI_1]
    rcases and3_f hp with p1 | ⟨p1, p2⟩ | ⟨p1, p2, p3⟩
    · rw [if_neg (of_decide_eq_false p1)]
    · rw [if_pos (of_decide_eq_true p1), if_neg (of_decide_eq_false p2)]
    · rw [if_pos (of_decide_eq_true p1), if_pos (of_decide_eq_true p2), p3]; rfl
  · intro g
    show f_X8_hasOpenMotion_lb2 _ M k (nI ne) = _
    unfold f_X8_hasOpenMotion_lb2
    rw [a5, if_pos (nI_le (by omega) (by omega))]
theorem e_mop9 {t nh nc nk ne nr nx ns n : Nat} {M' M : gM} (I : InvP t nh nc nk ne nr nx ns n M) (R : Rf M' M) (k : Int32) : f_X9_hasOpenMotion M' k = rRet (if mopB M t ne k then 1 else 0) M' := by
  obtain ⟨-, ⟨b1, b2, b3, b4, b5, -⟩, l1, l2, l3, l4, l5, l6, l7, l8⟩ := I.1
  have h23 : M' 9 23 = nI ne := (R.1 23 (by omega)).trans b5
  have e120 : M' 120 = M 55 := (R.2 120 (by omega)).trans I.2.2.2.2.2.2.2.2.2.2.1.1.1
  have e122 : M' 122 = M 57 := (R.2 122 (by omega)).trans I.2.2.2.2.2.2.2.2.2.2.1.1.2.2.1
  have q := lp_exB (L := fun f i => f_X9_hasOpenMotion_l4 f M' k 0 i) (p := fun e => decide (M 55 e = 2) && decide (M 57 e = k) && opnV M t ne e) (r0 := rRet 0 M') (r1 := rRet 1 M') (n := ne) ?_ ?_ ?_ (by omega) 0 (by omega) (fun i h => by omega)
  · rw [nI_0] at q
    show f_X9_hasOpenMotion_l4 5000 M' k 0 0 = rRet (if mopB M t ne k then 1 else 0) M'
    refine Eq.trans q ?_
    unfold mopB
    cases exB _ ne with
    | true => rfl
    | false => rfl
  · intro g i hi hp
    obtain ⟨p1, p2, p3⟩ := and3_t hp
    have hg : ∀ F : gR, gI (nI i) 160 F = F := fun F => gI_nI (by omega) (by omega)
    show f_X9_hasOpenMotion_lb4 _ M' k 0 (nI i) = _
    unfold f_X9_hasOpenMotion_lb4
    rw [h23, if_neg (nI_ge (by omega) (by omega)), if_pos rfl, hg, nI_clamp (show i < 2 ^ 31 by omega), e120, e122, if_pos (of_decide_eq_true p1), hg, if_pos (of_decide_eq_true p2), e_opn9 I R hi, rb_ret, p3, if_pos rfl, if_neg i10]
    show f_X9_hasOpenMotion_lb4 _ M' k 1 (nI i + 1) = _
    unfold f_X9_hasOpenMotion_lb4
    rw [h23, if_neg i10, z01_eq (Or.inr rfl)]
    by_cases z : nI ne ≤ nI i + 1
    · rw [if_pos z]
    · rw [if_neg z]
  · intro g i hi hp
    have hg : ∀ F : gR, gI (nI i) 160 F = F := fun F => gI_nI (by omega) (by omega)
    show f_X9_hasOpenMotion_lb4 _ M' k 0 (nI i) = f_X9_hasOpenMotion_l4 (g + 1) M' k 0 (nI (i + 1))
    unfold f_X9_hasOpenMotion_lb4
    rw [h23, if_neg (nI_ge (by omega) (by omega)), if_pos rfl, hg, nI_clamp (show i < 2 ^ 31 by omega), hg, e120, e122, e_opn9 I R hi, rb_ret]
    simp only [bV]
    rw [nI_1]
    rcases and3_f hp with p1 | ⟨p1, p2⟩ | ⟨p1, p2, p3⟩
    · rw [if_neg (of_decide_eq_false p1)]
    · rw [if_pos (of_decide_eq_true p1), if_neg (of_decide_eq_false p2)]
    · rw [if_pos (of_decide_eq_true p1), if_pos (of_decide_eq_true p2), p3]; rfl
  · intro g
    show f_X9_hasOpenMotion_lb4 _ M' k 0 (nI ne) = _
    unfold f_X9_hasOpenMotion_lb4
    rw [h23, if_pos (nI_le (by omega) (by omega)), z01_eq (Or.inl rfl)]
theorem e_rsp8 {t nh nc nk ne nr nx ns n : Nat} {M : gM} (I : InvP t nh nc nk ne nr nx ns n M) {m : Nat} (hm : m < ne) : f_X8_hasResponse M (nI m) = rRet (if rspB M t ne (nI m) then 1 else 0) M := by
  obtain ⟨⟨a1, a2, a3, a4, a5, -⟩, -, l1, l2, l3, l4, l5, l6, l7, l8⟩ := I.1
  have q := lp_exB (L := fun f i => f_X8_hasResponse_l2 f M (nI m) i) (p := fun e => decide (M 55 e = 3) && decide (M 58 e = nI m) && decide (cnV M t ne e = 1)) (r0 := rRet 0 M) (r1 := rRet 1 M) (n := ne) ?_ ?_ ?_ (by omega) m (by omega) (fun i h => ?_)
  · show f_X8_hasResponse_l2 5000 M (nI m) (nI m) = rRet (if rspB M t ne (nI m) then 1 else 0) M
    refine Eq.trans q ?_
    unfold rspB
    cases exB _ ne with
    | true => rfl
    | false => rfl
  · intro g i hi hp
    obtain ⟨p1, p2, p3⟩ := and3_t hp
    have hg : ∀ F : gR, gI (nI i) 160 F = F := fun F => gI_nI (by omega) (by omega)
    show f_X8_hasResponse_lb2 _ M (nI m) (nI i) = _
    unfold f_X8_hasResponse_lb2
    rw [a5, if_neg (nI_ge (by omega) (by omega)), hg, nI_clamp (show i < 2 ^ 31 by omega), if_pos (of_decide_eq_true p1), hg, if_pos (of_decide_eq_true p2), e_cnt8 I hi, rb_ret, of_decide_eq_true p3, if_neg i10]
  · intro g i hi hp
    have hg : ∀ F : gR, gI (nI i) 160 F = F := fun F => gI_nI (by omega) (by omega)
    show f_X8_hasResponse_lb2 _ M (nI m) (nI i) = f_X8_hasResponse_l2 (g + 1) M (nI m) (nI (i + 1))
    unfold f_X8_hasResponse_lb2
    rw [a5, if_neg (nI_ge (by omega) (by omega)), hg, nI_clamp (show i < 2 ^ 31 by omega), hg, e_cnt8 I hi, rb_ret]
    simp only [bV]
    rw [nI_1]
    rcases and3_f hp with p1 | ⟨p1, p2⟩ | ⟨p1, p2, p3⟩
    · rw [if_neg (of_decide_eq_false p1)]
    · rw [if_pos (of_decide_eq_true p1), if_neg (of_decide_eq_false p2)]
    · rw [if_pos (of_decide_eq_true p1), if_pos (of_decide_eq_true p2), if_pos ((z01_n cnV_z).mp (of_decide_eq_false p3))]
  · intro g
    show f_X8_hasResponse_lb2 _ M (nI m) (nI ne) = _
    unfold f_X8_hasResponse_lb2
    rw [a5, if_pos (nI_le (by omega) (by omega))]
  · by_cases c : M 55 i = 3
    · obtain ⟨j, j1, j2, -⟩ := I.2.2.2.2.2.2.2.2.2.2.1.2.2.2.1 i (by omega) c
      have : ¬ M 58 i = nI m := by
        rw [j2]
        exact fun q => by
          have := (nI_eq (by omega) (by omega)).mp q
          omega
      rw [decide_eq_false this, Bool.and_false, Bool.false_and]
    · rw [decide_eq_false c, Bool.false_and, Bool.false_and]
theorem e_rsp9 {t nh nc nk ne nr nx ns n : Nat} {M' M : gM} (I : InvP t nh nc nk ne nr nx ns n M) (R : Rf M' M) {m : Nat} (hm : m < ne) : f_X9_isResponded M' (nI m) = rRet (if rspB M t ne (nI m) then 1 else 0) M' := by
  obtain ⟨-, ⟨b1, b2, b3, b4, b5, -⟩, l1, l2, l3, l4, l5, l6, l7, l8⟩ := I.1
  have h23 : M' 9 23 = nI ne := (R.1 23 (by omega)).trans b5
  have e120 : M' 120 = M 55 := (R.2 120 (by omega)).trans I.2.2.2.2.2.2.2.2.2.2.1.1.1
  have e123 : M' 123 = M 58 := (R.2 123 (by omega)).trans I.2.2.2.2.2.2.2.2.2.2.1.1.2.2.2.1
  have q := lp_exB (L := fun f i => f_X9_isResponded_l4 f M' (nI m) 0 i) (p := fun e => decide (M 55 e = 3) && decide (M 58 e = nI m) && decide (cnV M t ne e = 1)) (r0 := rRet 0 M') (r1 := rRet 1 M') (n := ne) ?_ ?_ ?_ (by omega) 0 (by omega) (fun i h => by omega)
  · rw [nI_0] at q
    show f_X9_isResponded_l4 5000 M' (nI m) 0 0 = rRet (if rspB M t ne (nI m) then 1 else 0) M'
    refine Eq.trans q ?_
    unfold rspB
    cases exB _ ne with
    | true => rfl
    | false => rfl
  · intro g i hi hp
    obtain ⟨p1, p2, p3⟩ := and3_t hp
    have hg : ∀ F : gR, gI (nI i) 160 F = F := fun F => gI_nI (by omega) (by omega)
    show f_X9_isResponded_lb4 _ M' (nI m) 0 (nI i) = _
    unfold f_X9_isResponded_lb4
    rw [h23, if_neg (nI_ge (by omega) (by omega)), if_pos rfl, hg, nI_clamp (show i < 2 ^ 31 by omega), e120, e123, if_pos (of_decide_eq_true p1), hg, if_pos (of_decide_eq_true p2), e_cnt9 I R hi, rb_ret, of_decide_eq_true p3, if_neg i10]
    show f_X9_isResponded_lb4 _ M' (nI m) 1 (nI i + 1) = _
    unfold f_X9_isResponded_lb4
    rw [h23, if_neg i10, z01_eq (Or.inr rfl)]
    by_cases z : nI ne ≤ nI i + 1
    · rw [if_pos z]
    · rw [if_neg z]
  · intro g i hi hp
    have hg : ∀ F : gR, gI (nI i) 160 F = F := fun F => gI_nI (by omega) (by omega)
    show f_X9_isResponded_lb4 _ M' (nI m) 0 (nI i) = f_X9_isResponded_l4 (g + 1) M' (nI m) 0 (nI (i + 1))
    unfold f_X9_isResponded_lb4
    rw [h23, if_neg (nI_ge (by omega) (by omega)), if_pos rfl, hg, nI_clamp (show i < 2 ^ 31 by omega), hg, e120, e123, e_cnt9 I R hi, rb_ret]
    simp only [bV]
    rw [nI_1]
    rcases and3_f hp with p1 | ⟨p1, p2⟩ | ⟨p1, p2, p3⟩
    · rw [if_neg (of_decide_eq_false p1)]
    · rw [if_pos (of_decide_eq_true p1), if_neg (of_decide_eq_false p2)]
    · rw [if_pos (of_decide_eq_true p1), if_pos (of_decide_eq_true p2), if_pos ((z01_n cnV_z).mp (of_decide_eq_false p3))]
  · intro g
    show f_X9_isResponded_lb4 _ M' (nI m) 0 (nI ne) = _
    unfold f_X9_isResponded_lb4
    rw [h23, if_pos (nI_le (by omega) (by omega)), z01_eq (Or.inl rfl)]
