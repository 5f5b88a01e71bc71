/-! ===== hearings that meet ===== -/
def jdV (M : gM) (c : Nat) : Int32 := if M 26 c = -1 then M 25 c else M 25 (M 26 c).toNatClampNeg
def coB (M : gM) (c o : Nat) : Bool := exB (fun i => decide (¬ M 107 (16 * c + i) = -1) && decide (¬ M 107 (16 * o + i) = -1)) 16
def bdB (M : gM) (c o : Nat) : Bool := decide (jdV M c = jdV M o) || coB M c o
theorem e_jd8 {t nh nc nk ne nr nx ns n : Nat} {M : gM} (I : InvP t nh nc nk ne nr nx ns n M) (h8 : nc ≤ 8) {c : Nat} (hc : c < nc) : f_X1_judgeNow M (nI c) = rRet (jdV M c) M := by
  have hg : ∀ F : gR, gI (nI c) 8 F = F := fun F => gI_nI (by omega) (by omega)
  unfold f_X1_judgeNow jdV
  rw [hg, hg, hg, nI_clamp (show c < 2 ^ 31 by omega)]
  rcases I.2.2.2.2.1.2.1 c hc with h | ⟨l, hl, h⟩
  · rw [if_pos h, if_pos h]
  · have hn : ¬ M 26 c = -1 := by rw [h]; exact m1_ne (by omega)
    rw [if_neg hn, if_neg hn, h, gI_nI (show l < 8 by omega) (by omega)]
theorem e_jd9 {t nh nc nk ne nr nx ns n : Nat} {M' M : gM} (I : InvP t nh nc nk ne nr nx ns n M) (R : Rf M' M) (h8 : nc ≤ 8) {c : Nat} (hc : c < nc) : f_X9_judgeOf M' (nI c) = rRet (jdV M c) M' := by
  have hg : ∀ F : gR, gI (nI c) 8 F = F := fun F => gI_nI (by omega) (by omega)
  have e105 : M' 105 = M 25 := (R.2 105 (by omega)).trans I.2.2.2.2.1.1.1
  have e106 : M' 106 = M 26 := (R.2 106 (by omega)).trans I.2.2.2.2.1.1.2.1
  unfold f_X9_judgeOf jdV
  rw [hg, hg, hg, nI_clamp (show c < 2 ^ 31 by omega), e105, e106]
  rcases I.2.2.2.2.1.2.1 c hc with h | ⟨l, hl, h⟩
  · rw [if_pos h, if_pos h]
  · have hn : ¬ M 26 c = -1 := by rw [h]; exact m1_ne (by omega)
    rw [if_neg hn, if_neg hn, h, gI_nI (show l < 8 by omega) (by omega)]
theorem co_iff {t nh nc nk ne nr nx ns n : Nat} {M : gM} (I : InvP t nh nc nk ne nr nx ns n M) {c o : Nat} (hc : c < 8) (ho : o < 8) : M 28 c &&& M 28 o = 0 ↔ coB M c o = false := by
  obtain ⟨-, -, c5, c6, -⟩ := I.2.2.2.2.1
  constructor
  · intro h
    cases q : coB M c o with
    | false => rfl
    | true =>
      obtain ⟨j, j1, j2⟩ := (exB_iff 16).mp q
      rw [Bool.and_eq_true] at j2
      have b1 := (c5 c hc j j1).1.mpr (of_decide_eq_true j2.1)
      have b2 := (c5 o ho j j1).1.mpr (of_decide_eq_true j2.2)
      have := congrArg (fun x => bt x j) h
      simp only [b_and, b_0, b1, b2] at this
      exact absurd this (by decide)
  · intro h
    refine b_ext (fun i hi => ?_)
    rw [b_and, b_0]
    by_cases q : i < 16
    · cases b1 : bt (M 28 c) i with
      | false => rfl
      | true =>
        cases b2 : bt (M 28 o) i with
        | false => rfl
        | true =>
          have : coB M c o = true := (exB_iff 16).mpr ⟨i, q, by rw [decide_eq_true ((c5 c hc i q).1.mp b1), decide_eq_true ((c5 o ho i q).1.mp b2)]; rfl⟩
          rw [h] at this
          cases this
    · rw [(c6 c hc).1 i (by omega), Bool.false_and]
theorem e_bd8 {t nh nc nk ne nr nx ns n : Nat} {M : gM} (I : InvP t nh nc nk ne nr nx ns n M) (h8 : nc ≤ 8) {c o : Nat} (hc : c < nc) (ho : o < nc) : f_X1_areBound M (nI c) (nI o) = rRet (if bdB M c o then 1 else 0) M := by
  unfold f_X1_areBound bdB
  rw [e_jd8 I h8 hc, rb_ret, e_jd8 I h8 ho, rb_ret, gI_nI (show c < 8 by omega) (by omega), gI_nI (show o < 8 by omega) (by omega), nI_clamp (show c < 2 ^ 31 by omega), nI_clamp (show o < 2 ^ 31 by omega)]
  have k := co_iff I (show c < 8 by omega) (show o < 8 by omega)
  by_cases q : jdV M c = jdV M o
  · rw [if_pos q, decide_eq_true q]; rfl
  · rw [if_neg q, decide_eq_false q, Bool.false_or]
    cases z : coB M c o with
    | true => rw [if_neg (fun h => by rw [k.mp h] at z; cases z)]; rfl
    | false => rw [if_pos (k.mpr z)]; rfl
theorem l_meet9 {M : gM} {c o : Nat} (hc : c < 8) (ho : o < 8) : f_X9_meet_l22 5000 M (nI c) (nI o) 0 0 = rRet (if coB M c o then 1 else 0) M ∧ f_X9_meet_l22 5000 M (nI c) (nI o) 1 0 = rRet 1 M := by
  have one : ∀ d i f, i + d = 16 → d < f → f_X9_meet_l22 f M (nI c) (nI o) 1 (nI i) = rRet 1 M := by
    intro d
    induction d with
    | zero =>
      intro i f hi hf
      obtain ⟨g, rfl⟩ : ∃ g, f = g + 1 := ⟨f - 1, by omega⟩
      obtain rfl : i = 16 := by omega
      show f_X9_meet_lb22 _ M (nI c) (nI o) 1 (nI 16) = _
      unfold f_X9_meet_lb22
      rw [if_pos (by decide), z01_eq (Or.inr rfl)]
    | succ d ih =>
      intro i f hi hf
      obtain ⟨g, rfl⟩ : ∃ g, f = g + 1 := ⟨f - 1, by omega⟩
      show f_X9_meet_lb22 _ M (nI c) (nI o) 1 (nI i) = _
      unfold f_X9_meet_lb22 f_X9_meet_b53
      rw [show (16 : Int32) = nI 16 from by decide, if_neg (nI_ge (by omega) (by omega)), if_neg i10]
      simp only [bV]
      rw [nI_1]
      exact ih (i + 1) g (by omega) (by omega)
  refine ⟨?_, ?_⟩
  · have q : ∀ d i f, i + d = 16 → d < f → (∀ j, j < i → ((decide (¬ M 107 (16 * c + j) = -1) && decide (¬ M 107 (16 * o + j) = -1)) = false)) → f_X9_meet_l22 f M (nI c) (nI o) 0 (nI i) = rRet (if coB M c o then 1 else 0) M := by
      intro d
      induction d with
      | zero =>
        intro i f hi hf hj
        obtain ⟨g, rfl⟩ : ∃ g, f = g + 1 := ⟨f - 1, by omega⟩
        obtain rfl : i = 16 := by omega
        have : coB M c o = false := by
          cases z : coB M c o with
          | false => rfl
          | true =>
            obtain ⟨j, j1, j2⟩ := (exB_iff 16).mp z
            rw [hj j j1] at j2
            cases j2
        show f_X9_meet_lb22 _ M (nI c) (nI o) 0 (nI 16) = _
        unfold f_X9_meet_lb22
        rw [if_pos (by decide), z01_eq (Or.inl rfl), this]
        rfl
      | succ d ih =>
        intro i f hi hf hj
        obtain ⟨g, rfl⟩ : ∃ g, f = g + 1 := ⟨f - 1, by omega⟩
        show f_X9_meet_lb22 _ M (nI c) (nI o) 0 (nI i) = _
        unfold f_X9_meet_lb22 f_X9_meet_b53
        rw [show (16 : Int32) = nI 16 from by decide, if_neg (nI_ge (by omega) (by omega)), if_pos rfl, e_isP9 hc (by omega), rb_ret, e_isP9 ho (by omega), rb_ret]
        simp only [bV]
        rw [nI_1]
        unfold pV
        by_cases q1 : M 107 (16 * c + i) = -1
        · rw [if_pos q1, if_pos rfl]
          refine ih (i + 1) g (by omega) (by omega) (fun j h => ?_)
          rcases lt_sx h with h | h
          · exact hj j h
          · rw [h, decide_eq_false (fun z => z q1)]; rfl
        · rw [if_neg q1, if_neg i10]
          by_cases q2 : M 107 (16 * o + i) = -1
          · rw [if_pos q2, if_pos rfl]
            refine ih (i + 1) g (by omega) (by omega) (fun j h => ?_)
            rcases lt_sx h with h | h
            · exact hj j h
            · rw [h, decide_eq_false (p := ¬ M 107 (16 * o + i) = -1) (fun z => z q2), Bool.and_false]
          · rw [if_neg q2, if_neg i10, one d (i + 1) g (by omega) (by omega)]
            have : coB M c o = true := (exB_iff 16).mpr ⟨i, by omega, by rw [decide_eq_true q1, decide_eq_true q2]; rfl⟩
            rw [this]
            rfl
    have := q 16 0 5000 (by omega) (by omega) (fun j h => by omega)
    rw [nI_0] at this
    exact this
  · have := one 16 0 5000 (by omega) (by omega)
    rw [nI_0] at this
    exact this
theorem e_bd9 {t nh nc nk ne nr nx ns n : Nat} {M' M : gM} (I : InvP t nh nc nk ne nr nx ns n M) (R : Rf M' M) (h8 : nc ≤ 8) {c o : Nat} (hc : c < nc) (ho : o < nc) : f_X9_meet M' (nI c) (nI o) = rRet (if bdB M c o then 1 else 0) M' := by
  have k := l_meet9 (M := M') (show c < 8 by omega) (show o < 8 by omega)
  have e : coB M' c o = coB M c o := by
    unfold coB
    rw [R.2 107 (by omega)]
  unfold f_X9_meet f_X9_meet_b18 bdB
  rw [e_jd9 I R h8 hc, rb_ret, e_jd9 I R h8 ho, rb_ret, k.1, k.2, e]
  by_cases q : jdV M c = jdV M o
  · rw [if_pos q, decide_eq_true q]; rfl
  · rw [if_neg q, decide_eq_false q, Bool.false_or]
def mtP (M : gM) (mv : Int32) (c : Nat) (d s : Int32) (r : Nat) : Bool := decide (¬ nI r = mv) && (decide (M 70 r = d) && (decide (M 71 r = s) && bdB M c (M 69 r).toNatClampNeg))
def mtB (M : gM) (nr : Nat) (mv : Int32) (c : Nat) (d s : Int32) : Bool := exB (mtP M mv c d s) nr
theorem e_mt8 {t nh nc nk ne nr nx ns n : Nat} {M : gM} (I : InvP t nh nc nk ne nr nx ns n M) {c : Nat} (hc : c < nc) (mv d s : Int32) : f_X8_meetsOther M mv (nI c) d s = rRet (if mtB M nr mv c d s then 1 else 0) M := by
  obtain ⟨⟨a1, a2, a3, a4, a5, a6, -⟩, -, l1, l2, l3, l4, l5, l6, l7, l8⟩ := I.1
  have stp : ∀ g i, i < nr → f_X8_meetsOther_l3 (g + 1) M mv (nI c) d s (nI i) = if mtP M mv c d s i then rRet 1 M else f_X8_meetsOther_l3 g M mv (nI c) d s (nI (i + 1)) := by
    intro g i hi
    have hg : ∀ F : gR, gI (nI i) 40 F = F := fun F => gI_nI (by omega) (by omega)
    obtain ⟨⟨o, ho, h69⟩, -⟩ := I.2.2.2.2.2.2.1.2 i hi
    show f_X8_meetsOther_lb3 _ M mv (nI c) d s (nI i) = _
    unfold f_X8_meetsOther_lb3 f_X8_meetsOther_b48 f_X8_meetsOther_b49 mtP
    rw [a6, if_neg (nI_ge (by omega) (by omega)), hg, hg, hg, nI_clamp (show i < 2 ^ 31 by omega), h69, e_bd8 I l3 hc ho, rb_ret, nI_clamp (show o < 2 ^ 31 by omega)]
    simp only [bV]
    rw [nI_1]
    by_cases q0 : nI i = mv
    · simp [q0]
    · by_cases q1 : M 70 i = d
      · by_cases q2 : M 71 i = s
        · cases bdB M c o with
          | true => simp [q0, q1, q2]
          | false => simp [q0, q1, q2]
        · simp [q0, q1, q2]
      · simp [q0, q1]
  have q := lp_exB (L := fun f i => f_X8_meetsOther_l3 f M mv (nI c) d s i) (p := mtP M mv c d s) (r0 := rRet 0 M) (r1 := rRet 1 M) (n := nr) ?_ ?_ ?_ (by omega) 0 (by omega) (fun i h => by omega)
  · rw [nI_0] at q
    show f_X8_meetsOther_l3 5000 M mv (nI c) d s 0 = _
    refine Eq.trans q ?_
    unfold mtB
    cases exB _ nr with
    | true => rfl
    | false => rfl
  · intro g i hi hp
    show f_X8_meetsOther_l3 (g + 2) M mv (nI c) d s (nI i) = _
    rw [stp (g + 1) i hi, hp, if_pos rfl]
  · intro g i hi hp
    show f_X8_meetsOther_l3 (g + 2) M mv (nI c) d s (nI i) = f_X8_meetsOther_l3 (g + 1) M mv (nI c) d s (nI (i + 1))
    rw [stp (g + 1) i hi, hp, if_neg (by decide)]
  · intro g
    show f_X8_meetsOther_lb3 _ M mv (nI c) d s (nI nr) = _
    unfold f_X8_meetsOther_lb3
    rw [a6, if_pos (nI_le (by omega) (by omega))]
theorem e_mt9 {t nh nc nk ne nr nx ns n : Nat} {M' M : gM} (I : InvP t nh nc nk ne nr nx ns n M) (R : Rf M' M) {c : Nat} (hc : c < nc) (mv d s : Int32) : f_X9_wouldMeet M' (nI c) d s mv = rRet (if mtB M nr mv c d s then 1 else 0) M' := by
  obtain ⟨-, ⟨b1, b2, b3, b4, b5, b6, -⟩, l1, l2, l3, l4, l5, l6, l7, l8⟩ := I.1
  have h41 : M' 9 41 = nI nr := (R.1 41 (by omega)).trans b6
  have e137 : M' 137 = M 69 := (R.2 137 (by omega)).trans I.2.2.2.2.2.2.1.1.1
  have e138 : M' 138 = M 70 := (R.2 138 (by omega)).trans I.2.2.2.2.2.2.1.1.2.1
  have e139 : M' 139 = M 71 := (R.2 139 (by omega)).trans I.2.2.2.2.2.2.1.1.2.2
  have one : ∀ d' i f, i + d' = nr → d' < f → f_X9_wouldMeet_l6 f M' (nI c) d s mv 1 (nI i) = rRet 1 M' := by
    intro d'
    induction d' with
    | zero =>
      intro i f hi hf
      obtain ⟨g, rfl⟩ : ∃ g, f = g + 1 := ⟨f - 1, by omega⟩
      obtain rfl : i = nr := by omega
      show f_X9_wouldMeet_lb6 _ M' (nI c) d s mv 1 (nI i) = _
      unfold f_X9_wouldMeet_lb6
      rw [h41, if_pos (nI_le (by omega) (by omega)), z01_eq (Or.inr rfl)]
    | succ d' ih =>
      intro i f hi hf
      obtain ⟨g, rfl⟩ : ∃ g, f = g + 1 := ⟨f - 1, by omega⟩
      show f_X9_wouldMeet_lb6 _ M' (nI c) d s mv 1 (nI i) = _
      unfold f_X9_wouldMeet_lb6 f_X9_wouldMeet_b64
      rw [h41, if_neg (nI_ge (by omega) (by omega)), if_neg i10]
      simp only [bV]
      rw [nI_1]
      exact ih (i + 1) g (by omega) (by omega)
  have stp : ∀ g i, i < nr → f_X9_wouldMeet_l6 (g + 1) M' (nI c) d s mv 0 (nI i) = f_X9_wouldMeet_l6 g M' (nI c) d s mv (if mtP M mv c d s i then 1 else 0) (nI (i + 1)) := by
    intro g i hi
    have hg : ∀ F : gR, gI (nI i) 40 F = F := fun F => gI_nI (by omega) (by omega)
    obtain ⟨⟨o, ho, h69⟩, -⟩ := I.2.2.2.2.2.2.1.2 i hi
    show f_X9_wouldMeet_lb6 _ M' (nI c) d s mv 0 (nI i) = _
    unfold f_X9_wouldMeet_lb6 f_X9_wouldMeet_b64 mtP
    rw [h41, if_neg (nI_ge (by omega) (by omega)), if_pos rfl, hg, hg, hg, nI_clamp (show i < 2 ^ 31 by omega), e137, e138, e139, h69, e_bd9 I R l3 hc ho, rb_ret, nI_clamp (show o < 2 ^ 31 by omega)]
    simp only [bV]
    rw [nI_1]
    by_cases q0 : nI i = mv
    · rw [if_pos q0, decide_eq_false (fun h => h q0)]; rfl
    · rw [if_neg q0, decide_eq_true q0, Bool.true_and]
      by_cases q1 : M 70 i = d
      · rw [if_pos q1, decide_eq_true q1, Bool.true_and]
        by_cases q2 : M 71 i = s
        · rw [if_pos q2, decide_eq_true q2, Bool.true_and]
          cases bdB M c o with
          | true => rfl
          | false => rfl
        · rw [if_neg q2, decide_eq_false q2]; rfl
      · rw [if_neg q1, decide_eq_false q1]; rfl
  have q : ∀ d' i f, i + d' = nr → d' < f → (∀ j, j < i → mtP M mv c d s j = false) → f_X9_wouldMeet_l6 f M' (nI c) d s mv 0 (nI i) = rRet (if mtB M nr mv c d s then 1 else 0) M' := by
    intro d'
    induction d' with
    | zero =>
      intro i f hi hf hj
      obtain ⟨g, rfl⟩ : ∃ g, f = g + 1 := ⟨f - 1, by omega⟩
      obtain rfl : i = nr := by omega
      have : mtB M i mv c d s = false := by
        cases z : mtB M i mv c d s with
        | false => rfl
        | true =>
          obtain ⟨j, j1, j2⟩ := (exB_iff i).mp z
          rw [hj j j1] at j2
          cases j2
      show f_X9_wouldMeet_lb6 _ M' (nI c) d s mv 0 (nI i) = _
      unfold f_X9_wouldMeet_lb6
      rw [h41, if_pos (nI_le (by omega) (by omega)), z01_eq (Or.inl rfl), this]
      rfl
    | succ d' ih =>
      intro i f hi hf hj
      obtain ⟨g, rfl⟩ : ∃ g, f = g + 1 := ⟨f - 1, by omega⟩
      rw [stp g i (by omega)]
      cases z : mtP M mv c d s i with
      | true =>
        have : mtB M nr mv c d s = true := (exB_iff nr).mpr ⟨i, by omega, z⟩
        rw [this]
        exact one d' (i + 1) g (by omega) (by omega)
      | false =>
        refine ih (i + 1) g (by omega) (by omega) (fun j h => ?_)
        rcases lt_sx h with h | h
        · exact hj j h
        · rw [h]; exact z
  have := q nr 0 5000 (by omega) (by omega) (fun j h => by omega)
  rw [nI_0] at this
  exact this
