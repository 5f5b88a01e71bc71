theorem sAlone_z (K A D : Nat → Int32) (c d : Int32) : ∀ e, z01 (sAlone K A D c d e)
  | 0 => Or.inl rfl
  | e + 1 => by
    unfold sAlone
    have k := sAlone_z K A D c d e
    by_cases h1 : K e < 11
    · rw [if_pos h1]; exact k
    · rw [if_neg h1]
      by_cases h2 : A e = c
      · rw [if_pos h2]
        by_cases h3 : d < D e
        · rw [if_pos h3]; exact k
        · rw [if_neg h3]
          by_cases h4 : K e = 11
          · rw [if_pos h4]; exact Or.inr rfl
          · rw [if_neg h4]; exact Or.inl rfl
      · rw [if_neg h2]; exact k
theorem e_alone {M : gM} {c d : Int32} {ne : Nat} (h : M 9 23 = nI ne) (h5 : ne ≤ 160) : f_X9_isStayedAlone M c d = rRet (sAlone (M 120) (M 122) (M 121) c d ne) M := by
  have hf : ∀ i, fold (fun e s => if M 120 e < 11 then s else if M 122 e = c then if d < M 121 e then s else if M 120 e = 11 then 1 else 0 else s) 0 i = sAlone (M 120) (M 122) (M 121) c d i := by
    intro i
    induction i with
    | zero => rfl
    | succ i ih =>
      show (if M 120 i < 11 then fold _ 0 i else if M 122 i = c then if d < M 121 i then fold _ 0 i else if M 120 i = 11 then 1 else 0 else fold _ 0 i) = _
      rw [ih]
      rfl
  have k := lp_fd0 (L := fun f s i => f_X9_isStayedAlone_l5 f M c d s i) (st := fun e s => if M 120 e < 11 then s else if M 122 e = c then if d < M 121 e then s else if M 120 e = 11 then 1 else 0 else s) (s0 := 0) (F := fun s => rRet s M) (n := ne) ?_ ?_ (by omega)
  · unfold f_X9_isStayedAlone
    rw [← hf]
    exact k
  · intro g i hi
    show f_X9_isStayedAlone_lb5 _ M c d (fold _ 0 i) (nI i) = f_X9_isStayedAlone_l5 g M c d (if M 120 i < 11 then fold _ 0 i else if M 122 i = c then if d < M 121 i then fold _ 0 i else if M 120 i = 11 then 1 else 0 else fold _ 0 i) (nI (i + 1))
    have hg : ∀ F : gR, gI (nI i) 160 F = F := fun F => gI_nI (by omega) (by omega)
    unfold f_X9_isStayedAlone_lb5
    rw [h, if_neg (nI_ge (by omega) (by omega)), hg, nI_clamp (show i < 2 ^ 31 by omega), hg, hg, hg]
    simp only [bV]
    rw [nI_1]
    by_cases h1 : M 120 i < 11
    · rw [if_pos h1, if_pos h1]
    · rw [if_neg h1, if_neg h1]
      by_cases h2 : M 122 i = c
      · rw [if_pos h2, if_pos h2]
        by_cases h3 : d < M 121 i
        · rw [if_pos h3, if_pos h3]
        · rw [if_neg h3, if_neg h3]
          by_cases h4 : M 120 i = 11
          · rw [if_pos h4, if_pos h4]
          · rw [if_neg h4, if_neg h4]
      · rw [if_neg h2, if_neg h2]
  · intro g
    show f_X9_isStayedAlone_lb5 _ M c d (fold _ 0 ne) (nI ne) = _
    unfold f_X9_isStayedAlone_lb5
    rw [h, if_pos (nI_le (by omega) (by omega)), hf, z01_eq (sAlone_z _ _ _ _ _ _)]
/-- is a case stayed on a day -/
def stV (K A D L : Nat → Int32) (ne c d : Nat) : Bool := decide (sAlone K A D (nI c) (nI d) ne = 1) || (decide (¬ L c = -1) && decide (sAlone K A D (L c) (nI d) ne = 1))
theorem z01_n {x : Int32} (h : z01 x) : ¬ x = 1 ↔ x = 0 := by
  rcases h with h | h
  · rw [h]; exact ⟨fun _ => rfl, fun _ => by decide⟩
  · rw [h]; exact ⟨fun q => absurd rfl q, fun q => absurd q i10⟩
theorem e_stayed {M : gM} {c d ne : Nat} (h : M 9 23 = nI ne) (h5 : ne ≤ 160) (hc : c < 8) : f_X9_isStayed M (nI c) (nI d) = rRet (if stV (M 120) (M 122) (M 121) (M 106) ne c d then 1 else 0) M := by
  have hg : ∀ F : gR, gI (nI c) 8 F = F := fun F => gI_nI hc (by omega)
  have z1 := sAlone_z (M 120) (M 122) (M 121) (nI c) (nI d) ne
  have z2 := sAlone_z (M 120) (M 122) (M 121) (M 106 c) (nI d) ne
  unfold f_X9_isStayed
  rw [e_alone h h5, rb_ret, hg, hg, nI_clamp (show c < 2 ^ 31 by omega), e_alone h h5, rb_ret]
  unfold stV
  by_cases q : sAlone (M 120) (M 122) (M 121) (nI c) (nI d) ne = 1
  · rw [q, if_neg i10]
    rfl
  · rw [if_pos ((z01_n z1).mp q), decide_eq_false q]
    by_cases w : M 106 c = -1
    · rw [if_pos w, w]
      rfl
    · rw [if_neg w]
      by_cases v : sAlone (M 120) (M 122) (M 121) (M 106 c) (nI d) ne = 1
      · rw [v, if_neg i10]
        simp [w]
      · rw [if_pos ((z01_n z2).mp v), decide_eq_false v]
        simp [w]
/-- the reference: behind the number of days -/
theorem l_dl59 {M : gM} {c : Nat} {F S : Nat → Bool} {w : Bool} (hF : ∀ x, x ≤ 1401 → f_X9_isFree M (nI x) = rRet (if F x then 1 else 0) M) (hS : ∀ x, x ≤ 1401 → f_X9_isStayed M (nI c) (nI x) = rRet (if S x then 1 else 0) M) :
    ∀ (r d f : Nat), d + r = 1401 → r < f → f_X9_deadline_l59 f M (nI c) (nI d) = rRet (dl F S w r 0 d) M := by
  intro r
  induction r with
  | zero =>
    intro d f hd hf
    obtain ⟨g, rfl⟩ : ∃ g, f = g + 1 := ⟨f - 1, by omega⟩
    show f_X9_deadline_lb59 _ M (nI c) (nI d) = _
    unfold f_X9_deadline_lb59 f_X9_deadline_b93
    rw [show (1400 : Int32) = nI 1400 from by decide, if_pos (nI_lt (by omega) (by omega)), if_neg (nI_ge (by omega) (by omega))]
    rfl
  | succ r ih =>
    intro d f hd hf
    obtain ⟨g, rfl⟩ : ∃ g, f = g + 1 := ⟨f - 1, by omega⟩
    have ih1 := ih (d + 1) g (by omega) (by omega)
    show f_X9_deadline_lb59 _ M (nI c) (nI d) = _
    unfold f_X9_deadline_lb59 f_X9_deadline_b93
    rw [show (1400 : Int32) = nI 1400 from by decide, if_neg (nI_nlt (by omega) (by omega)), hF d (by omega), rb_ret, hS d (by omega), rb_ret, if_pos (nI_le (by omega) (by omega))]
    simp only [bV]
    rw [nI_1, ih1]
    cases cS : S d with
    | true =>
      rw [dl_s cS]
      cases cF : F d with
      | true => simp
      | false => simp
    | false =>
      cases cF : F d with
      | true =>
        cases w with
        | true => rw [dl_fw cS cF]; simp
        | false => rw [dl_f cS cF]; simp
      | false => rw [dl_n cS cF, if_pos (show 0 ≤ 1 from by omega)]; simp
theorem e_dl59 {M : gM} {c : Nat} {F S : Nat → Bool} {w : Bool} (hF : ∀ x, x ≤ 1401 → f_X9_isFree M (nI x) = rRet (if F x then 1 else 0) M) (hS : ∀ x, x ≤ 1401 → f_X9_isStayed M (nI c) (nI x) = rRet (if S x then 1 else 0) M) {d : Nat} (hd : d ≤ 1401) : f_X9_deadline_l59 5000 M (nI c) (nI d) = rRet (dl F S w (1401 - d) 0 d) M :=
  l_dl59 hF hS (1401 - d) d 5000 (by omega) (by omega)
theorem l_dl6 {M : gM} {c : Nat} {W : Int32} {F S : Nat → Bool} {w : Bool} (hF : ∀ x, x ≤ 1401 → f_X9_isFree M (nI x) = rRet (if F x then 1 else 0) M) (hS : ∀ x, x ≤ 1401 → f_X9_isStayed M (nI c) (nI x) = rRet (if S x then 1 else 0) M) (hw : W = 0 ↔ w = false) :
    ∀ (r d l f : Nat), d + r = 1401 → 1 ≤ l → l < 2 ^ 31 → r < f → f_X9_deadline_l6 f M W (nI c) (nI d) (nI l) = rRet (dl F S w (r - 1) l (d + 1)) M := by
  intro r
  induction r with
  | zero =>
    intro d l f hd h1 hl hf
    obtain ⟨g, rfl⟩ : ∃ g, f = g + 1 := ⟨f - 1, by omega⟩
    show f_X9_deadline_lb6 _ M W (nI c) (nI d) (nI l) = _
    unfold f_X9_deadline_lb6
    rw [show (1400 : Int32) = nI 1400 from by decide, if_neg (nI_nle (by omega) hl), if_pos (nI_lt (by omega) (by omega)), e_dl59 (w := w) hF hS (by omega), show 1401 - d = 0 by omega]
    rfl
  | succ r ih =>
    intro d l f hd h1 hl hf
    obtain ⟨g, rfl⟩ : ∃ g, f = g + 1 := ⟨f - 1, by omega⟩
    have go : ∀ k, k < 2 ^ 31 → f_X9_deadline_l6 g M W (nI c) (nI (d + 1)) (nI k) = if k = 0 then rRet (dl F S w r 0 (d + 1)) M else rRet (dl F S w (r - 1) k (d + 1 + 1)) M := by
      intro k hk
      by_cases z : k = 0
      · rw [if_pos z, z]
        obtain ⟨g', rfl⟩ : ∃ g', g = g' + 1 := ⟨g - 1, by omega⟩
        show f_X9_deadline_lb6 _ M W (nI c) (nI (d + 1)) (nI 0) = _
        unfold f_X9_deadline_lb6
        rw [if_pos (by decide), e_dl59 (w := w) hF hS (by omega), show 1401 - (d + 1) = r by omega]
      · rw [if_neg z]
        exact ih (d + 1) k g (by omega) (by omega) hk (by omega)
    show f_X9_deadline_lb6 _ M W (nI c) (nI d) (nI l) = _
    unfold f_X9_deadline_lb6 f_X9_deadline_b48
    rw [show (1400 : Int32) = nI 1400 from by decide, if_neg (nI_nle (by omega) hl), if_neg (nI_nlt (by omega) (by omega))]
    simp only [bV]
    rw [nI_1, hS (d + 1) (by omega), rb_ret, hF (d + 1) (by omega), rb_ret, Int32.sub_zero, show nI l - 1 = nI (l - 1) from pk_sub (a := l) (b := 1) h1, go l hl, go (l - 1) (by omega), if_neg (show ¬ l = 0 by omega), Nat.add_sub_cancel]
    have e59 : ∀ k, dl F S w r k (d + 1) = if r = 0 then -1 else dl F S w (r - 1 + 1) k (d + 1) := by
      intro k
      cases r with
      | zero => rfl
      | succ r => rfl
    by_cases hr : r = 0
    · subst hr
      have e0 : ∀ l d, dl F S w 0 l d = -1 := fun _ _ => rfl
      simp only [e0, Nat.zero_sub, ite_self]
    · obtain ⟨r, rfl⟩ : ∃ q, r = q + 1 := ⟨r - 1, by omega⟩
      rw [Nat.add_sub_cancel]
      cases cS : S (d + 1) with
      | true => rw [dl_s (l := l) cS]; simp
      | false =>
        cases cF : F (d + 1) with
        | true =>
          cases w with
          | true =>
            rw [dl_fw (l := l) cS cF, if_neg (c := W = 0) (fun q => by have := hw.mp q; cases this)]
            simp
          | false =>
            rw [dl_f (l := 0) cS cF, dl_f (l := l) cS cF, if_pos (c := W = 0) (hw.mpr rfl)]
            by_cases z : l - 1 = 0
            · rw [if_pos z, z]; simp
            · rw [if_neg z]; simp
        | false =>
          rw [dl_n (l := 0) cS cF, dl_n (l := l) cS cF, if_pos (show 0 ≤ 1 by omega)]
          by_cases z : l - 1 = 0
          · rw [if_pos z, if_pos (show l ≤ 1 by omega)]; simp
          · rw [if_neg z, if_neg (show ¬ l ≤ 1 by omega)]; simp
theorem e_deadline {M : gM} {c : Nat} {W : Int32} {F S : Nat → Bool} {w : Bool} (hF : ∀ x, x ≤ 1401 → f_X9_isFree M (nI x) = rRet (if F x then 1 else 0) M) (hS : ∀ x, x ≤ 1401 → f_X9_isStayed M (nI c) (nI x) = rRet (if S x then 1 else 0) M) (hw : W = 0 ↔ w = false) {b l : Nat} (hb : b ≤ 1400) (h1 : 1 ≤ l) (hl : l < 2 ^ 31) :
    f_X9_deadline M (nI b) (nI l) W (nI c) = rRet (dl F S w (1400 - b) l (b + 1)) M := by
  unfold f_X9_deadline
  rw [l_dl6 hF hS hw (1401 - b) b l 5000 (by omega) h1 hl (by omega), show 1401 - b - 1 = 1400 - b by omega]
