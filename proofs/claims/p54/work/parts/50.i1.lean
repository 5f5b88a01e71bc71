/-! ===== deadlines ===== -/
/-- the end of a deadline: r days left to look at, l left to count, from a day on -/
def dl (F S : Nat → Bool) (w : Bool) : Nat → Nat → Nat → Int32
  | 0, _, _ => -1
  | r + 1, l, d => if S d then dl F S w r l (d + 1) else if F d then (if w then dl F S w r l (d + 1) else dl F S w r (l - 1) (d + 1)) else if l ≤ 1 then nI d else dl F S w r (l - 1) (d + 1)
theorem dl_congr {F S F' S' : Nat → Bool} {w : Bool} : ∀ (r l d : Nat), (∀ x, d ≤ x → x < d + r → F x = F' x ∧ S x = S' x) → dl F S w r l d = dl F' S' w r l d
  | 0, _, _, _ => rfl
  | r + 1, l, d, h => by
    have h0 := h d (by omega) (by omega)
    have h1 : ∀ k, dl F S w r k (d + 1) = dl F' S' w r k (d + 1) := fun k => dl_congr r k (d + 1) (fun x a b => h x (by omega) (by omega))
    show (if S d then dl F S w r l (d + 1) else if F d then (if w then dl F S w r l (d + 1) else dl F S w r (l - 1) (d + 1)) else if l ≤ 1 then nI d else dl F S w r (l - 1) (d + 1)) = (if S' d then dl F' S' w r l (d + 1) else if F' d then (if w then dl F' S' w r l (d + 1) else dl F' S' w r (l - 1) (d + 1)) else if l ≤ 1 then nI d else dl F' S' w r (l - 1) (d + 1))
    rw [h0.1, h0.2, h1, h1]
theorem dl_s {F S : Nat → Bool} {w : Bool} {r l d : Nat} (h : S d = true) : dl F S w (r + 1) l d = dl F S w r l (d + 1) := by
  show (if S d then _ else _) = _
  rw [h, if_pos rfl]
theorem dl_fw {F S : Nat → Bool} {r l d : Nat} (h : S d = false) (h2 : F d = true) : dl F S true (r + 1) l d = dl F S true r l (d + 1) := by
  show (if S d then _ else if F d then (if true then _ else _) else _) = _
  rw [h, h2, if_neg (by decide), if_pos rfl, if_pos rfl]
theorem dl_f {F S : Nat → Bool} {r l d : Nat} (h : S d = false) (h2 : F d = true) : dl F S false (r + 1) l d = dl F S false r (l - 1) (d + 1) := by
  show (if S d then _ else if F d then (if false then _ else _) else _) = _
  rw [h, h2, if_neg (by decide), if_pos rfl, if_neg (by decide)]
theorem dl_n {F S : Nat → Bool} {w : Bool} {r l d : Nat} (h : S d = false) (h2 : F d = false) : dl F S w (r + 1) l d = if l ≤ 1 then nI d else dl F S w r (l - 1) (d + 1) := by
  show (if S d then _ else if F d then _ else _) = _
  rw [h, h2, if_neg (by decide), if_neg (by decide)]
theorem nI_m1s {l : Nat} (h : 0 < l) : nI l + (-1) = nI (l - 1) := by
  obtain ⟨k, rfl⟩ : ∃ k, l = k + 1 := ⟨l - 1, by omega⟩
  exact pk_m1 k
theorem nI_e0 {l : Nat} (h : l < 2 ^ 31) : nI l = 0 ↔ l = 0 := by
  rw [← nI_0]
  exact nI_eq h (by omega)
/-- the class: marks -/
theorem l_end {M : gM} {W st : Int32} {F S : Nat → Bool} {w : Bool} (hF : ∀ x, x ≤ 1400 → (M 11 x &&& 256 = 0 ↔ F x = false)) (hS : ∀ x, x ≤ 1400 → (M 11 x &&& st = 0 ↔ S x = false)) (hw : W = 0 ↔ w = false) :
    ∀ (r d l f : Nat), d + r = 1401 → l < 2 ^ 31 → r < f → f_X0_end_l8 f M W st (nI l) (nI d) = rRet (dl F S w r l d) M := by
  intro r
  induction r with
  | zero =>
    intro d l f hd hl hf
    obtain ⟨g, rfl⟩ : ∃ g, f = g + 1 := ⟨f - 1, by omega⟩
    show f_X0_end_lb8 _ M W st (nI l) (nI d) = _
    unfold f_X0_end_lb8
    rw [show (1400 : Int32) = nI 1400 from by decide, if_pos (nI_lt (by omega) (by omega))]
    rfl
  | succ r ih =>
    intro d l f hd hl hf
    obtain ⟨g, rfl⟩ : ∃ g, f = g + 1 := ⟨f - 1, by omega⟩
    have hm := hF d (by omega)
    have ih1 : ∀ k, k < 2 ^ 31 → f_X0_end_l8 g M W st (nI k) (nI d + 1) = rRet (dl F S w r k (d + 1)) M := by
      intro k hk
      rw [nI_1]
      exact ih (d + 1) k g (by omega) hk (by omega)
    show f_X0_end_lb8 _ M W st (nI l) (nI d) = _
    unfold f_X0_end_lb8
    rw [show (1400 : Int32) = nI 1400 from by decide, if_neg (nI_nlt (by omega) (by omega)), gI_nI (show d < 1401 by omega) (by omega), nI_clamp (show d < 2 ^ 31 by omega)]
    by_cases c : M 11 d &&& st = 0
    · have cS := (hS d (by omega)).mp c
      rw [if_pos c, gI_nI (show d < 1401 by omega) (by omega)]
      cases cF : F d with
      | true =>
        rw [if_neg (fun q => by
          have := hm.mp q
          rw [cF] at this
          cases this)]
        unfold f_X0_end_b51
        by_cases h0 : l = 0
        · rw [h0, if_pos (by decide)]
          unfold f_X0_end_b70
          rw [if_pos (by decide), if_neg i10]
          show f_X0_end_l8 g M W st (nI 0) (nI d + 1) = _
          rw [ih1 0 (by omega)]
          cases w with
          | false => rw [dl_f cS cF]
          | true => rw [dl_fw cS cF]
        · rw [if_neg (nI_nle (by omega) hl)]
          cases w with
          | false =>
            rw [if_pos (hw.mpr rfl)]
            unfold f_X0_end_b67
            rw [nI_m1s (by omega)]
            show f_X0_end_b70 _ M W st (nI (l - 1)) (nI d) 1 = _
            unfold f_X0_end_b70
            rw [dl_f cS cF, if_neg i10]
            show (if nI (l - 1) = 0 then f_X0_end_l8 g M W st (nI (l - 1)) (nI d + 1) else f_X0_end_l8 g M W st (nI (l - 1)) (nI d + 1)) = _
            rw [ih1 (l - 1) (by omega)]
            by_cases z : nI (l - 1) = 0
            · rw [if_pos z]
            · rw [if_neg z]
          | true =>
            rw [if_neg (fun q => by have := hw.mp q; cases this), if_neg i10]
            unfold f_X0_end_b70
            rw [if_neg (fun q => h0 ((nI_e0 hl).mp q))]
            show f_X0_end_l8 g M W st (nI l) (nI d + 1) = _
            rw [ih1 l hl, dl_fw cS cF]
      | false =>
        rw [if_pos (hm.mpr cF), dl_n cS cF]
        unfold f_X0_end_b51
        by_cases h0 : l = 0
        · rw [h0, if_pos (by decide), if_pos (by omega)]
          unfold f_X0_end_b70
          rw [if_pos (by decide), if_pos rfl]
        · have k : f_X0_end_b67 (f_X0_end_l8 g) M W st (nI l) (nI d) 0 = if l ≤ 1 then rRet (nI d) M else rRet (dl F S w r (l - 1) (d + 1)) M := by
            unfold f_X0_end_b67
            rw [nI_m1s (by omega)]
            show f_X0_end_b70 _ M W st (nI (l - 1)) (nI d) 0 = _
            unfold f_X0_end_b70
            by_cases z : l ≤ 1
            · rw [if_pos ((nI_e0 (by omega)).mpr (by omega)), if_pos rfl, if_pos z]
            · rw [if_neg (fun q => z (by have := (nI_e0 (by omega)).mp q; omega)), if_neg z]
              exact ih1 (l - 1) (by omega)
          rw [if_neg (nI_nle (by omega) hl), k, if_pos rfl]
          by_cases z : l ≤ 1
          · rw [if_pos z, if_pos z]
            by_cases w : W = 0
            · rw [if_pos w]
            · rw [if_neg w]
          · rw [if_neg z, if_neg z]
            by_cases w : W = 0
            · rw [if_pos w]
            · rw [if_neg w]
    · have cS : S d = true := by
        cases q : S d with
        | true => rfl
        | false => exact absurd ((hS d (by omega)).mpr q) c
      rw [if_neg c, dl_s cS]
      exact ih1 l hl
theorem e_end {M : gM} {W st : Int32} {F S : Nat → Bool} {w : Bool} (hF : ∀ x, x ≤ 1400 → (M 11 x &&& 256 = 0 ↔ F x = false)) (hS : ∀ x, x ≤ 1400 → (M 11 x &&& st = 0 ↔ S x = false)) (hw : W = 0 ↔ w = false) {b l : Nat} (hb : b ≤ 1400) (hl : l < 2 ^ 31) : f_X0_end M (nI b) (nI l) W st = rRet (dl F S w (1400 - b) l (b + 1)) M := by
  unfold f_X0_end
  rw [nI_1]
  exact l_end hF hS hw (1400 - b) (b + 1) l 5000 (by omega) hl (by omega)
