/-! ===== is there an entry .. ===== -/
def exB (p : Nat → Bool) : Nat → Bool
  | 0 => false
  | e + 1 => p e || exB p e
theorem exB_iff {p : Nat → Bool} : ∀ n : Nat, exB p n = true ↔ ∃ j, j < n ∧ p j = true
  | 0 => ⟨fun h => (by cases h), fun ⟨j, h, _⟩ => (by omega)⟩
  | n + 1 => by
    show (p n || exB p n) = true ↔ _
    rw [Bool.or_eq_true, exB_iff n]
    constructor
    · rintro (h | ⟨j, h1, h2⟩)
      · exact ⟨n, by omega, h⟩
      · exact ⟨j, by omega, h2⟩
    · rintro ⟨j, h1, h2⟩
      by_cases q : j = n
      · exact Or.inl (q ▸ h2)
      · exact Or.inr ⟨j, by omega, h2⟩
theorem lp_exB {n : Nat} {L : Nat → Int32 → gR} {p : Nat → Bool} {r0 r1 : gR} (hit : ∀ g i, i < n → p i = true → L (g + 2) (nI i) = r1) (mis : ∀ g i, i < n → p i = false → L (g + 2) (nI i) = L (g + 1) (nI (i + 1))) (fin : ∀ g, L (g + 1) (nI n) = r0) (hn : n ≤ 2000) (i0 : Nat) (h0 : i0 ≤ n) (hp : ∀ i, i < i0 → p i = false) :
    L 5000 (nI i0) = if exB p n then r1 else r0 := by
  have k := lp_ex (p := fun i => p i = true) hit (fun g i h1 h2 => mis g i h1 (by cases q : p i with | true => exact absurd q h2 | false => rfl)) fin (n - i0) i0 5000 (by omega) (by omega)
  cases c : exB p n with
  | true =>
    obtain ⟨j, h1, h2⟩ := (exB_iff n).mp c
    rw [if_pos rfl]
    refine k.1 ⟨j, ?_, h1, h2⟩
    rcases Nat.lt_or_ge j i0 with q | q
    · rw [hp j q] at h2
      cases h2
    · exact q
  | false =>
    rw [if_neg (by decide)]
    exact k.2 (fun j _ h1 h2 => by rw [(exB_iff n).mpr ⟨j, h1, h2⟩] at c; cases c)
theorem and3_t {a b c : Bool} (h : (a && b && c) = true) : a = true ∧ b = true ∧ c = true := by
  revert h; cases a <;> cases b <;> cases c <;> decide
theorem and3_f {a b c : Bool} (h : (a && b && c) = false) : a = false ∨ (a = true ∧ b = false) ∨ (a = true ∧ b = true ∧ c = false) := by
  revert h; cases a <;> cases b <;> cases c <;> decide
def ansB (M : gM) (t ne : Nat) (k : Int32) : Bool := exB (fun e => decide (M 55 e = 1) && decide (M 57 e = k) && decide (cnV M t ne e = 1)) ne
def opnV (M : gM) (t ne m : Nat) : Bool := decide (M 62 m = 0) && decide (cnV M t ne m = 1)
def mopB (M : gM) (t ne : Nat) (k : Int32) : Bool := exB (fun e => decide (M 55 e = 2) && decide (M 57 e = k) && opnV M t ne e) ne
def rspB (M : gM) (t ne : Nat) (m : Int32) : Bool := exB (fun e => decide (M 55 e = 3) && decide (M 58 e = m) && decide (cnV M t ne e = 1)) ne
theorem e_ans8 {t nh nc nk ne nr nx ns n : Nat} {M : gM} (I : InvP t nh nc nk ne nr nx ns n M) (k : Int32) : f_X8_hasAnswer M k = rRet (if ansB M t ne k then 1 else 0) M := by
  obtain ⟨⟨a1, a2, a3, a4, a5, -⟩, -, l1, l2, l3, l4, l5, l6, l7, l8⟩ := I.1
  have q := lp_exB (L := fun f i => f_X8_hasAnswer_l2 f M k i) (p := fun e => decide (M 55 e = 1) && decide (M 57 e = k) && decide (cnV M t ne e = 1)) (r0 := rRet 0 M) (r1 := rRet 1 M) (n := ne) ?_ ?_ ?_ (by omega) 0 (by omega) (fun i h => by omega)
  · rw [nI_0] at q
    show f_X8_hasAnswer_l2 5000 M k 0 = rRet (if ansB M t ne k then 1 else 0) M
    refine Eq.trans q ?_
    unfold ansB
    cases exB _ ne with
    | true => rfl
    | false => rfl
  · intro g i hi hp
    obtain ⟨p1, p2, p3⟩ := and3_t hp
    have hg : ∀ F : gR, gI (nI i) 160 F = F := fun F => gI_nI (by omega) (by omega)
    show f_X8_hasAnswer_lb2 _ M k (nI i) = _
    unfold f_X8_hasAnswer_lb2
    rw [a5, if_neg (nI_ge (by omega) (by omega)), hg, nI_clamp (show i < 2 ^ 31 by omega), if_pos (of_decide_eq_true p1), hg, if_pos (of_decide_eq_true p2), e_cnt8 I hi, rb_ret, of_decide_eq_true p3, if_neg i10]
  · intro g i hi hp
    have hg : ∀ F : gR, gI (nI i) 160 F = F := fun F => gI_nI (by omega) (by omega)
    show f_X8_hasAnswer_lb2 _ M k (nI i) = f_X8_hasAnswer_l2 (g + 1) M k (nI (i + 1))
    unfold f_X8_hasAnswer_lb2
    rw [a5, if_neg (nI_ge (by omega) (by omega)), hg, nI_clamp (show i < 2 ^ 31 by omega), hg, e_cnt8 I hi, rb_ret]
    simp only [bV]
    rw [nI_1]
    rcases and3_f hp with p1 | ⟨p1, p2⟩ | ⟨p1, p2, p3⟩
    · rw [if_neg (of_decide_eq_false p1)]
    · rw [if_pos (of_decide_eq_true p1), if_neg (of_decide_eq_false p2)]
    · rw [if_pos (of_decide_eq_true p1), if_pos (of_decide_eq_true p2), if_pos ((z01_n cnV_z).mp (of_decide_eq_false p3))]
  · intro g
    show f_X8_hasAnswer_lb2 _ M k (nI ne) = _
    unfold f_X8_hasAnswer_lb2
    rw [a5, if_pos (nI_le (by omega) (by omega))]
theorem e_ans9 {t nh nc nk ne nr nx ns n : Nat} {M' M : gM} (I : InvP t nh nc nk ne nr nx ns n M) (R : Rf M' M) (k : Int32) : f_X9_answered M' k = rRet (if ansB M t ne k then 1 else 0) M' := by
  obtain ⟨-, ⟨b1, b2, b3, b4, b5, -⟩, l1, l2, l3, l4, l5, l6, l7, l8⟩ := I.1
  have h23 : M' 9 23 = nI ne := (R.1 23 (by omega)).trans b5
  have e120 : M' 120 = M 55 := (R.2 120 (by omega)).trans I.2.2.2.2.2.2.2.2.2.2.1.1.1
  have e122 : M' 122 = M 57 := (R.2 122 (by omega)).trans I.2.2.2.2.2.2.2.2.2.2.1.1.2.2.1
  have q := lp_exB (L := fun f i => f_X9_answered_l4 f M' k 0 i) (p := fun e => decide (M 55 e = 1) && decide (M 57 e = k) && decide (cnV M t ne e = 1)) (r0 := rRet 0 M') (r1 := rRet 1 M') (n := ne) ?_ ?_ ?_ (by omega) 0 (by omega) (fun i h => by omega)
  · rw [nI_0] at q
    show f_X9_answered_l4 5000 M' k 0 0 = rRet (if ansB M t ne k then 1 else 0) M'
    refine Eq.trans q ?_
    unfold ansB
    cases exB _ ne with
    | true => rfl
    | false => rfl
  · intro g i hi hp
    obtain ⟨p1, p2, p3⟩ := and3_t hp
    have hg : ∀ F : gR, gI (nI i) 160 F = F := fun F => gI_nI (by omega) (by omega)
    show f_X9_answered_lb4 _ M' k 0 (nI i) = _
    unfold f_X9_answered_lb4
    rw [h23, if_neg (nI_ge (by omega) (by omega)), if_pos rfl, hg, nI_clamp (show i < 2 ^ 31 by omega), e120, e122, if_pos (of_decide_eq_true p1), hg, if_pos (of_decide_eq_true p2), e_cnt9 I R hi, rb_ret, of_decide_eq_true p3, if_neg i10]
    show f_X9_answered_lb4 _ M' k 1 (nI i + 1) = _
    unfold f_X9_answered_lb4
    rw [h23, if_neg i10, z01_eq (Or.inr rfl)]
    by_cases z : nI ne ≤ nI i + 1
    · rw [if_pos z]
    · rw [if_neg z]
  · intro g i hi hp
    have hg : ∀ F : gR, gI (nI i) 160 F = F := fun F => gI_nI (by omega) (by omega)
    show f_X9_answered_lb4 _ M' k 0 (nI i) = f_X9_answered_l4 (g + 1) M' k 0 (nI (i + 1))
    unfold f_X9_answered_lb4
    rw [h23, if_neg (nI_ge (by omega) (by omega)), if_pos rfl, hg, nI_clamp (show i < 2 ^ 31 by omega), hg, e120, e122, e_cnt9 I R hi, rb_ret]
    simp only [bV]
    rw [nI_1]
    rcases and3_f hp with p1 | ⟨p1, p2⟩ | ⟨p1, p2, p3⟩
    · rw [if_neg (of_decide_eq_false p1)]
    · rw [if_pos (of_decide_eq_true p1), if_neg (of_decide_eq_false p2)]
    · rw [if_pos (of_decide_eq_true p1), if_pos (of_decide_eq_true p2), if_pos ((z01_n cnV_z).mp (of_decide_eq_false p3))]
  · intro g
    show f_X9_answered_lb4 _ M' k 0 (nI ne) = _
    unfold f_X9_answered_lb4
    rw [h23, if_pos (nI_le (by omega) (by omega)), z01_eq (Or.inl rfl)]
