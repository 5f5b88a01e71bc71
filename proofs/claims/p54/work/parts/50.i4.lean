/-! ===== deadlines in the memory ===== -/
def FBv (M : gM) (d : Nat) : Bool := decide (5 ≤ d % 7 ∨ (d ≤ 1000 ∧ M 102 d = 1))
theorem FBv_t {M : gM} {d : Nat} (h : free (M 102) d) : FBv M d = true := decide_eq_true (p := 5 ≤ d % 7 ∨ (d ≤ 1000 ∧ M 102 d = 1)) h
theorem FBv_f {M : gM} {d : Nat} (h : ¬ free (M 102) d) : FBv M d = false := decide_eq_false (p := 5 ≤ d % 7 ∨ (d ≤ 1000 ∧ M 102 d = 1)) h
def SBv (M : gM) (ne c d : Nat) : Bool := stV (M 120) (M 122) (M 121) (M 106) ne c d
def dlM (M : gM) (ne c b x : Nat) (W : Int32) : Int32 := dl (FBv M) (SBv M ne c) (decide (¬ W = 0)) (1400 - b) x (b + 1)
theorem hw_ok {W : Int32} : W = 0 ↔ decide (¬ W = 0) = false := by
  by_cases h : W = 0
  · exact ⟨fun _ => decide_eq_false (fun q => q h), fun _ => h⟩
  · exact ⟨fun q => absurd q h, fun q => by rw [decide_eq_true h] at q; cases q⟩
def mkV (M : gM) (c : Nat) : Int32 := if M 26 c = -1 then 1 <<< (nI c &&& 31) else (1 <<< (nI c &&& 31)) ||| (1 <<< (M 26 c &&& 31))
theorem e_marks {M : gM} {c : Nat} (hc : c < 8) : f_X1_stayMarks M (nI c) = rRet (mkV M c) M := by
  have hg : ∀ F : gR, gI (nI c) 8 F = F := fun F => gI_nI hc (by omega)
  unfold f_X1_stayMarks mkV
  simp only [bV]
  rw [hg, hg, nI_clamp (show c < 2 ^ 31 by omega)]
  by_cases h : M 26 c = -1
  · rw [if_pos h, if_pos h]
  · rw [if_neg h, if_neg h]
theorem b_or0 {x m k : Int32} : x &&& (m ||| k) = 0 ↔ x &&& m = 0 ∧ x &&& k = 0 := by
  constructor
  · intro h
    refine ⟨b_ext (fun i hi => ?_), b_ext (fun i hi => ?_)⟩ <;>
    · have q := congrArg (fun y => bt y i) h
      simp only [b_and, b_or, b_0] at q ⊢
      revert q
      cases bt x i <;> cases bt m i <;> cases bt k i <;> decide
  · intro ⟨h1, h2⟩
    refine b_ext (fun i hi => ?_)
    have q1 := congrArg (fun y => bt y i) h1
    have q2 := congrArg (fun y => bt y i) h2
    simp only [b_and, b_or, b_0] at q1 q2 ⊢
    revert q1 q2
    cases bt x i <;> cases bt m i <;> cases bt k i <;> decide
theorem FB_8 {nh : Nat} {M : gM} (h : Ghol nh (M 11) (M 12) (M 102)) : ∀ x, x ≤ 1400 → (M 11 x &&& 256 = 0 ↔ FBv M x = false) := by
  intro x hx
  have k := h.2.2.2 x hx
  refine Iff.trans (b_mask (by omega) b_256) ?_
  cases hb : bt (M 11 x) 8 with
  | true => exact ⟨fun q => (by cases q), fun q => by rw [FBv_t (k.mp hb)] at q; cases q⟩
  | false => exact ⟨fun _ => FBv_f (fun q => by rw [k.mpr q] at hb; cases hb), fun _ => rfl⟩
theorem SB_8 {t nc ne : Nat} {M : gM} (h : Gstay t ne (M 11) (M 15) (M 24) (M 120) (M 121) (M 122)) (h8 : nc ≤ 8) {c : Nat} (hc : c < nc) (e106 : M 106 = M 26) (hL : M 26 c = -1 ∨ isIx nc (M 26 c)) : ∀ x, x ≤ 1400 → (M 11 x &&& mkV M c = 0 ↔ SBv M ne c x = false) := by
  intro x hx
  have k := h.1
  have q : ∀ l, l < 8 → (M 11 x &&& (1 <<< (nI l &&& 31)) = 0 ↔ decide (sAlone (M 120) (M 122) (M 121) (nI l) (nI x) ne = 1) = false) := by
    intro l hl
    refine Iff.trans (b_mask (show l < 32 by omega) (b_one l (by omega))) ?_
    have kk := k l hl x hx
    cases hb : bt (M 11 x) l with
    | true => exact ⟨fun q => (by cases q), fun q => absurd (kk.mp hb) (of_decide_eq_false q)⟩
    | false => exact ⟨fun _ => decide_eq_false (fun q => by rw [kk.mpr q] at hb; cases hb), fun _ => rfl⟩
  unfold SBv stV mkV
  rw [e106]
  rcases hL with hL | ⟨l, hl, hL⟩
  · rw [if_pos hL, q c (by omega), hL]
    simp
  · have hn : ¬ M 26 c = -1 := by
      rw [hL]
      exact m1_ne (by omega)
    rw [if_neg hn, b_or0, q c (by omega), hL, q l (by omega), ← hL, decide_eq_true hn, Bool.true_and, Bool.or_eq_false_iff]
theorem e_dl8 {t nh nc nk ne nr nx ns n : Nat} {M : gM} (I : InvP t nh nc nk ne nr nx ns n M) (h8 : nc ≤ 8) {c b x : Nat} {W : Int32} (hc : c < nc) (hb : b ≤ 1400) (hx : x < 2 ^ 31) : f_X0_end M (nI b) (nI x) W (mkV M c) = rRet (dlM M ne c b x W) M :=
  e_end (FB_8 I.2.1) (SB_8 I.2.2.2.1 h8 hc I.2.2.2.2.1.1.2.1 (I.2.2.2.2.1.2.1 c hc)) hw_ok hb hx
theorem e_dl9 {t nh nc nk ne nr nx ns n : Nat} {M' M : gM} (I : InvP t nh nc nk ne nr nx ns n M) (R : Rf M' M) (h8 : nc ≤ 8) (l5 : ne ≤ 160) {c b x : Nat} {W : Int32} (hc : c < nc) (hb : b ≤ 1400) (h1 : 1 ≤ x) (hx : x < 2 ^ 31) : f_X9_deadline M' (nI b) (nI x) W (nI c) = rRet (dlM M ne c b x W) M' := by
  have h23 : M' 9 23 = nI ne := (R.1 23 (by omega)).trans I.1.2.1.2.2.2.2.1
  refine e_deadline (fun d hd => ?_) (fun d hd => ?_) hw_ok hb h1 hx
  · have k := e_free9 (M := M') (d := d) (by omega) (by rw [R.2 102 (by omega)]; exact I.2.1.1)
    rw [R.2 102 (by omega)] at k
    by_cases q : free (M 102) d
    · rw [FBv_t q]
      exact k.1 q
    · rw [FBv_f q]
      exact k.2 q
  · rw [e_stayed h23 l5 (by omega), R.2 120 (by omega), R.2 121 (by omega), R.2 122 (by omega), R.2 106 (by omega)]
    rfl
theorem e_byD {t nh nc nk ne nr nx ns n : Nat} {M : gM} (I : InvP t nh nc nk ne nr nx ns n M) (h8 : nc ≤ 8) (l5 : ne ≤ 160) (hnh : nh ≤ 30) {c b x : Nat} {W : Int32} (hc : c < nc) (hb : b ≤ 1400) (hx : x < 2 ^ 31) : f_X0_endByDays M (nI b) (nI x) W (nI c) (M 26 c) = rRet (dlM M ne c b x W) M := by
  have k := I.2.2.2.1.2
  have e106 : M 106 = M 26 := I.2.2.2.2.1.1.2.1
  have son : ∀ l, l < 8 → ∀ d, f_X0_isStayedOn M (nI l) (nI d) = rRet (if decide (sAlone (M 120) (M 122) (M 121) (nI l) (nI d) ne = 1) = true then 1 else 0) M := by
    intro l hl d
    obtain ⟨tc, h1, h2, h3, h4⟩ := k l hl
    rw [e_stayedOn hl h2 (by omega), h4]
    rcases sAlone_z (M 120) (M 122) (M 121) (nI l) (nI d) ne with z | z
    · rw [z]; rfl
    · rw [z]; rfl
  refine e_byDays (A := fun d => decide (sAlone (M 120) (M 122) (M 121) (nI c) (nI d) ne = 1)) (B := fun d => decide (sAlone (M 120) (M 122) (M 121) (M 26 c) (nI d) ne = 1)) hx (fun d hd => ?_) (fun d hd => son c (by omega) d) (fun hL d hd => ?_) (fun d hd => ?_) hw_ok hb
  · obtain ⟨h1, h2, h3, h4⟩ := I.2.1
    have hol := e_isHol (M := M) (a := nI d) I.1.1.2.1 hnh
    by_cases q : 5 ≤ d % 7
    · rw [if_pos q, FBv_t (show free (M 102) d from Or.inl q)]
      rfl
    · rw [if_neg q]
      by_cases hf : free (M 102) d
      · rw [FBv_t hf]
        rcases hf with hf | ⟨hd2, hf⟩
        · exact absurd hf q
        · exact hol.1 ((h3 d hd2).mp hf)
      · rw [FBv_f hf]
        refine hol.2 (fun j hj e => hf ?_)
        obtain ⟨i, hi, e2⟩ := h2 j hj
        have : d = i := (nI_eq (by omega) (by omega)).mp (e.symm.trans e2)
        exact Or.inr ⟨by omega, (h3 d (by omega)).mpr ⟨j, hj, e⟩⟩
  · rcases I.2.2.2.2.1.2.1 c hc with h | ⟨l, hl, h⟩
    · exact absurd h hL
    · rw [h]
      exact son l (by omega) d
  · unfold SBv stV
    rw [e106]
