theorem e_weekend {M : gM} {d : Nat} (h : d < 2 ^ 31) : f_X0_isWeekend M (nI d) = rRet (if 5 ≤ d % 7 then 1 else 0) M := by
  unfold f_X0_isWeekend gNz
  rw [if_neg (by decide), show (7 : Int32) = nI 7 from by decide, pk_rem h (by omega) (by omega), show (5 : Int32) = nI 5 from by decide]
  by_cases c : 5 ≤ d % 7
  · rw [if_neg (nI_nlt c (by omega)), if_pos c]
  · rw [if_pos (nI_lt (by omega) (by omega)), if_neg c]
theorem l_stayedOn {M : gM} {c : Nat} {d : Int32} (hc : c < 8) : ∀ (i f : Nat), i ≤ 160 → i < f → f_X0_isStayedOn_l9 f M (nI c) d (nI i - 1) = rRet (sTurn (fun k => M 15 (c * 160 + k)) d i) M := by
  intro i
  induction i with
  | zero =>
    intro f h1 h2
    obtain ⟨g, rfl⟩ : ∃ g, f = g + 1 := ⟨f - 1, by omega⟩
    show f_X0_isStayedOn_lb9 _ M (nI c) d (nI 0 - 1) = _
    unfold f_X0_isStayedOn_lb9
    rw [if_pos (by decide +kernel)]
    rfl
  | succ i ih =>
    intro f h1 h2
    obtain ⟨g, rfl⟩ : ∃ g, f = g + 1 := ⟨f - 1, by omega⟩
    have hI := ih g (by omega) (by omega)
    show f_X0_isStayedOn_lb9 _ M (nI c) d (nI (i + 1) - 1) = _
    unfold f_X0_isStayedOn_lb9 gNz
    rw [nI_pred, if_neg (nI_pos (by omega)), gI_nI hc (by omega), gI_nI (show i < 160 by omega) (by omega), nI_clamp (show c < 2 ^ 31 by omega), nI_clamp (show i < 2 ^ 31 by omega), if_neg (c := (2 : Int32) = 0) (by decide), show (2 : Int32) = nI 2 from by decide, pk_rem (show i < 2 ^ 31 by omega) (by omega) (by omega)]
    simp only [bV]
    rw [nI_m1, hI]
    show _ = rRet (if d < M 15 (c * 160 + i) then sTurn _ d i else if i % 2 = 0 then 1 else 0) M
    by_cases c1 : d < M 15 (c * 160 + i)
    · rw [if_pos c1, if_pos c1]
    · rw [if_neg c1, if_neg c1]
      have ez := nI_e0 (show i % 2 < 2 ^ 31 by omega)
      by_cases c2 : i % 2 = 0
      · rw [if_pos (ez.mpr c2), if_pos c2]
      · rw [if_neg (fun q => c2 (ez.mp q)), if_neg c2]
theorem e_stayedOn {M : gM} {c tc : Nat} {d : Int32} (hc : c < 8) (h : M 24 c = nI tc) (ht : tc ≤ 160) : f_X0_isStayedOn M (nI c) d = rRet (sTurn (fun k => M 15 (c * 160 + k)) d tc) M := by
  unfold f_X0_isStayedOn
  rw [gI_nI hc (by omega), nI_clamp (show c < 2 ^ 31 by omega), h]
  exact l_stayedOn hc tc 5000 ht (by omega)
theorem l_byDays {M : gM} {c x : Nat} {W L : Int32} {F S : Nat → Bool} {w : Bool} (hx : x < 2 ^ 31) (hF : ∀ x, x ≤ 1400 → (if 5 ≤ x % 7 then rRet 1 M else f_X0_isHoliday M (nI x)) = rRet (if F x then 1 else 0) M) {A B : Nat → Bool} (hA : ∀ x, x ≤ 1400 → f_X0_isStayedOn M (nI c) (nI x) = rRet (if A x then 1 else 0) M) (hB : ¬ L = -1 → ∀ x, x ≤ 1400 → f_X0_isStayedOn M L (nI x) = rRet (if B x then 1 else 0) M) (hS : ∀ x, x ≤ 1400 → S x = (A x || (decide (¬ L = -1) && B x))) (hw : W = 0 ↔ w = false) :
    ∀ (r d k f : Nat), d + r = 1401 → k ≤ x → r < f → f_X0_endByDays_l8 f M (nI x) W (nI c) L (nI k) (nI d) = rRet (dl F S w r (x - k) d) M := by
  intro r
  induction r with
  | zero =>
    intro d k f hd hk hf
    obtain ⟨g, rfl⟩ : ∃ g, f = g + 1 := ⟨f - 1, by omega⟩
    show f_X0_endByDays_lb8 _ M (nI x) W (nI c) L (nI k) (nI d) = _
    unfold f_X0_endByDays_lb8
    rw [show (1400 : Int32) = nI 1400 from by decide, if_pos (nI_lt (by omega) (by omega))]
    rfl
  | succ r ih =>
    intro d k f hd hk hf
    obtain ⟨g, rfl⟩ : ∃ g, f = g + 1 := ⟨f - 1, by omega⟩
    have ih1 : ∀ k, k ≤ x → f_X0_endByDays_l8 g M (nI x) W (nI c) L (nI k) (nI d + 1) = rRet (dl F S w r (x - k) (d + 1)) M := by
      intro k hk
      rw [nI_1]
      exact ih (d + 1) k g (by omega) hk (by omega)
    have hF' := hF d (by omega)
    have hS' := hS d (by omega)
    -- the last step
    have e110 : ∀ j, j ≤ x → ∀ a b : Bool, f_X0_endByDays_b110 (f_X0_endByDays_l8 g) M (nI x) W (nI c) L (nI j) (nI d) (if a then 1 else 0) (if b then 1 else 0) = if j = x ∧ a = false ∧ b = false then rRet (nI d) M else rRet (dl F S w r (x - j) (d + 1)) M := by
      intro j hj a b
      unfold f_X0_endByDays_b110
      simp only [bV]
      rw [ih1 j hj]
      have eq := nI_eq (show j < 2 ^ 31 by omega) hx
      by_cases q : j = x
      · rw [if_pos (eq.mpr q)]
        cases a with
        | false =>
          cases b with
          | false => rw [if_pos (by decide), if_pos (by decide), if_pos ⟨q, rfl, rfl⟩]
          | true => rw [if_pos (by decide), if_neg (by decide), if_neg (fun h => by cases h.2.2)]
        | true => rw [if_neg (by decide), if_neg (fun h => by cases h.2.1)]
      · rw [if_neg (fun h => q (eq.mp h)), if_neg (fun h => q h.1)]
    have e94 : ∀ a b : Bool, f_X0_endByDays_b94 (f_X0_endByDays_l8 g) M (nI x) W (nI c) L (nI k) (nI d) (if a then 1 else 0) (if b then 1 else 0) 1 = if k = x then (if a = false ∧ b = false then rRet (nI d) M else rRet (dl F S w r (x - k) (d + 1)) M) else (if k + 1 = x ∧ a = false ∧ b = false then rRet (nI d) M else rRet (dl F S w r (x - (k + 1)) (d + 1)) M) := by
      intro a b
      unfold f_X0_endByDays_b94
      simp only [bV]
      rw [if_neg i10, e110 k hk, nI_1]
      by_cases q : k = x
      · rw [if_pos (nI_le (by omega) (by omega)), if_pos q]
        by_cases z : a = false ∧ b = false
        · rw [if_pos ⟨q, z⟩, if_pos z]
        · rw [if_neg (fun h => z h.2), if_neg z]
      · rw [if_neg (nI_ge (by omega) (by omega)), if_neg q, e110 (k + 1) (by omega)]
    have e94' : ∀ a b : Bool, f_X0_endByDays_b94 (f_X0_endByDays_l8 g) M (nI x) W (nI c) L (nI k) (nI d) (if a then 1 else 0) (if b then 1 else 0) 0 = if k = x ∧ a = false ∧ b = false then rRet (nI d) M else rRet (dl F S w r (x - k) (d + 1)) M := by
      intro a b
      unfold f_X0_endByDays_b94
      rw [if_pos rfl, e110 k hk]
    have e73 : ∀ a b : Bool, S d = b → F d = a → f_X0_endByDays_b73 (f_X0_endByDays_l8 g) M (nI x) W (nI c) L (nI k) (nI d) (if a then 1 else 0) (if b then 1 else 0) = rRet (dl F S w (r + 1) (x - k) d) M := by
      intro a b hb ha
      unfold f_X0_endByDays_b73 f_X0_endByDays_b89 f_X0_endByDays_b93
      rw [e94, e94']
      cases b with
      | true => rw [if_neg (by decide), if_neg (fun h => by cases h.2.2), dl_s hb]
      | false =>
        rw [if_pos (by decide)]
        cases a with
        | true =>
          rw [if_neg (by decide)]
          cases w with
          | true =>
            rw [if_neg (c := W = 0) (fun q => by have := hw.mp q; cases this), if_neg (fun h => by cases h.2.1), dl_fw hb ha]
          | false =>
            rw [if_pos (c := W = 0) (hw.mpr rfl), dl_f hb ha]
            by_cases q : k = x
            · rw [if_pos q, if_neg (fun h => by cases h.1), q, Nat.sub_self]
            · rw [if_neg q, if_neg (fun h => by cases h.2.1), show x - (k + 1) = x - k - 1 by omega]
        | false =>
          rw [if_pos (by decide), dl_n hb ha]
          by_cases q : k = x
          · rw [if_pos q, if_pos ⟨rfl, rfl⟩, if_pos (show x - k ≤ 1 by omega)]
          · rw [if_neg q]
            by_cases z : k + 1 = x
            · rw [if_pos ⟨z, rfl, rfl⟩, if_pos (show x - k ≤ 1 by omega)]
            · rw [if_neg (fun h => z h.1), if_neg (show ¬ x - k ≤ 1 by omega), show x - (k + 1) = x - k - 1 by omega]
    have e38 : ∀ a : Bool, F d = a → f_X0_endByDays_b38 (f_X0_endByDays_l8 g) M (nI x) W (nI c) L (nI k) (nI d) (if a then 1 else 0) = rRet (dl F S w (r + 1) (x - k) d) M := by
      intro a ha
      unfold f_X0_endByDays_b38 f_X0_endByDays_b68 f_X0_endByDays_b72
      rw [hA d (by omega), rb_ret]
      cases cA : A d with
      | true =>
        rw [if_neg (by decide)]
        exact e73 a true (by rw [hS', cA]; rfl) ha
      | false =>
        rw [if_pos (by decide)]
        by_cases cL : L = -1
        · rw [if_pos cL]
          exact e73 a false (by rw [hS', cA, decide_eq_false (fun h => h cL)]; rfl) ha
        · rw [if_neg cL, hB cL d (by omega), rb_ret]
          cases cB : B d with
          | true =>
            rw [if_neg (by decide)]
            exact e73 a true (by rw [hS', cA, cB, decide_eq_true cL]; rfl) ha
          | false =>
            rw [if_pos (by decide)]
            exact e73 a false (by rw [hS', cA, cB, Bool.and_false]; rfl) ha
    show f_X0_endByDays_lb8 _ M (nI x) W (nI c) L (nI k) (nI d) = _
    unfold f_X0_endByDays_lb8 f_X0_endByDays_b33
    rw [show (1400 : Int32) = nI 1400 from by decide, if_neg (nI_nlt (by omega) (by omega)), e_weekend (by omega), rb_ret]
    by_cases c5 : 5 ≤ d % 7
    · rw [if_pos c5] at hF' ⊢
      rw [if_neg i10]
      have cF : F d = true := by
        cases q : F d with
        | true => rfl
        | false =>
          rw [q] at hF'
          exact absurd (show (1 : Int32) = 0 from congrArg (fun r : gR => r.2.1) hF') i10
      exact e38 true cF
    · rw [if_neg c5] at hF' ⊢
      rw [if_pos rfl, hF', rb_ret]
      cases cF : F d with
      | true => rw [if_neg (by decide)]; exact e38 true cF
      | false => rw [if_pos (by decide)]; exact e38 false cF
theorem e_byDays {M : gM} {c x : Nat} {W L : Int32} {F S : Nat → Bool} {w : Bool} (hx : x < 2 ^ 31) (hF : ∀ x, x ≤ 1400 → (if 5 ≤ x % 7 then rRet 1 M else f_X0_isHoliday M (nI x)) = rRet (if F x then 1 else 0) M) {A B : Nat → Bool} (hA : ∀ x, x ≤ 1400 → f_X0_isStayedOn M (nI c) (nI x) = rRet (if A x then 1 else 0) M) (hB : ¬ L = -1 → ∀ x, x ≤ 1400 → f_X0_isStayedOn M L (nI x) = rRet (if B x then 1 else 0) M) (hS : ∀ x, x ≤ 1400 → S x = (A x || (decide (¬ L = -1) && B x))) (hw : W = 0 ↔ w = false) {b : Nat} (hb : b ≤ 1400) :
    f_X0_endByDays M (nI b) (nI x) W (nI c) L = rRet (dl F S w (1400 - b) x (b + 1)) M := by
  unfold f_X0_endByDays
  rw [nI_1]
  have k := l_byDays hx hF hA hB hS hw (1400 - b) (b + 1) 0 5000 (by omega) (by omega) (by omega)
  rw [nI_0] at k
  exact k
