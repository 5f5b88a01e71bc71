theorem ix16 (c p : Nat) : (16 : Int32) * nI c + nI p = nI (16 * c + p) := by
  rw [show (16 : Int32) = nI 16 from by decide, nI_mul, nI_add]
def pV (m107 : Nat → Int32) (c p : Nat) : Int32 := if m107 (16 * c + p) = -1 then 0 else 1
theorem e_isP8 {M : gM} {c p : Nat} (hc : c < 8) (hp : p < 16) (h : bt (M 28 c) p = true ↔ M 107 (16 * c + p) ≠ -1) : f_X1_isParty M (nI c) (nI p) = rRet (pV (M 107) c p) M := by
  unfold f_X1_isParty pV
  rw [gI_nI hc (by omega), nI_clamp (by omega)]
  by_cases e : M 107 (16 * c + p) = -1
  · rw [if_neg (fun q => (h.mp ((b_test p (by omega) _).mp q)) e), if_pos e]
  · rw [if_pos ((b_test p (by omega) _).mpr (h.mpr e)), if_neg e]
theorem e_isP9 {M : gM} {c p : Nat} (hc : c < 8) (hp : p < 16) : f_X9_isParty M (nI c) (nI p) = rRet (pV (M 107) c p) M := by
  unfold f_X9_isParty pV
  rw [ix16, gI_nI (show 16 * c + p < 128 by omega) (by omega), nI_clamp (show 16 * c + p < 2 ^ 31 by omega)]
  by_cases e : M 107 (16 * c + p) = -1
  · rw [if_pos e, if_pos e]
  · rw [if_neg e, if_neg e]
theorem l_cnt {M : gM} {c : Nat} (hc : c < 8) : ∀ (d p f : Nat), p + d = 16 → d < f → f_X9_join_l96 f M (nI c) (nI (cntP (M 107) c p)) (nI p) = rRet (nI (cntP (M 107) c 16)) M := by
  intro d
  induction d with
  | zero =>
    intro p f hp hf
    obtain ⟨g, rfl⟩ := fuel hf
    have e1 : p = 16 := by omega
    subst e1
    show f_X9_join_lb96 _ M (nI c) _ (nI 16) = _
    unfold f_X9_join_lb96
    rw [if_pos (by decide +kernel)]
  | succ d ih =>
    intro p f hp hf
    obtain ⟨g, rfl⟩ := fuel hf
    have hI := ih (p + 1) g (by omega) (by omega)
    show f_X9_join_lb96 _ M (nI c) _ (nI p) = _
    unfold f_X9_join_lb96
    rw [show (16 : Int32) = nI 16 from by decide, if_neg (nI_ge (by omega) (by omega)), e_isP9 hc (by omega), rb_ret]
    unfold pV
    have hs : cntP (M 107) c (p + 1) = cntP (M 107) c p + if M 107 (16 * c + p) = -1 then 0 else 1 := rfl
    by_cases e : M 107 (16 * c + p) = -1
    · rw [if_pos e] at hs
      rw [if_pos e, if_pos rfl]
      show f_X9_join_l96 g M (nI c) (nI (cntP (M 107) c p) + 0) (nI p + 1) = _
      rw [nI_1, show nI (cntP (M 107) c p) + 0 = nI (cntP (M 107) c (p + 1)) from by rw [hs, show (0 : Int32) = nI 0 from by decide, nI_add]]
      exact hI
    · rw [if_neg e] at hs
      rw [if_neg e, if_neg i10]
      show f_X9_join_l96 g M (nI c) (nI (cntP (M 107) c p) + 1) (nI p + 1) = _
      rw [nI_1, nI_1, ← hs]
      exact hI
theorem cntP_ne {f : Nat → Int32} {c c2 p : Nat} {s : Int32} (hp : p < 16) (h : c2 ≠ c) : ∀ q, q ≤ 16 → cntP (upd f (16 * c + p) s) c2 q = cntP f c2 q
  | 0, _ => rfl
  | q + 1, hq => by
    unfold cntP
    rw [cntP_ne hp h q (by omega), upd_ne (by omega)]
theorem cntP_up {f : Nat → Int32} {c p : Nat} {s : Int32} (hp : p < 16) (h : f (16 * c + p) = -1) (hs : s ≠ -1) : ∀ q, q ≤ 16 → cntP (upd f (16 * c + p) s) c q = cntP f c q + if p < q then 1 else 0
  | 0, _ => rfl
  | q + 1, hq => by
    unfold cntP
    rw [cntP_up hp h hs q (by omega)]
    by_cases e : q = p
    · subst e
      rw [upd_self, if_neg hs, h, if_pos rfl, if_neg (by omega), if_pos (by omega)]
    · rw [upd_ne (by omega)]
      have h5 : (if p < q + 1 then 1 else 0) = (if p < q then 1 else 0 : Nat) := by
        by_cases e2 : p < q
        · rw [if_pos e2, if_pos (Nat.lt_succ_of_lt e2)]
        · rw [if_neg e2, if_neg (fun z => e2 (by omega))]
      rw [h5]
      omega
/-- a party more -/
theorem Gcase.add {t nc : Nat} {m25 m26 m27 m28 m29 m38 m105 m106 m107 m108 : Nat → Int32} (h : Gcase t nc m25 m26 m27 m28 m29 m38 m105 m106 m107 m108) {c p s : Nat} {d : Int32} (hc : c < nc) (h8 : nc ≤ 8) (hp : p < 16) (hs : s < 2) (hf : m107 (16 * c + p) = -1) :
    Gcase t nc m25 m26 (upd m27 c (m27 c + 1)) (upd m28 c (m28 c ||| (1 <<< (nI p &&& 31)))) (upd m29 (c * 16 + p) (nI s)) (upd m38 (c * 16 + p) d) m105 m106 (upd m107 (16 * c + p) (nI s)) (upd m108 (16 * c + p) d) := by
  obtain ⟨⟨c1, c2, c3⟩, c4, c5, c6, c7⟩ := h
  have hsn : nI s ≠ -1 := m1_ne (by omega)
  refine ⟨⟨c1, c2, ?_⟩, c4, fun x hx q hq => ?_, fun x hx => ⟨fun q hq => ?_, ?_⟩, fun x hx hx8 q hq => ?_⟩
  · rw [c3, show c * 16 + p = 16 * c + p by omega]
  · by_cases e : x = c
    · subst e
      rw [upd_self, b_or, b_one p (by omega) q (by omega)]
      by_cases e2 : q = p
      · subst e2
        rw [upd_self, show x * 16 + q = 16 * x + q by omega, upd_self]
        exact ⟨⟨fun _ => hsn, fun _ => (by simp)⟩, fun _ => ⟨⟨s, hs, rfl⟩, rfl⟩⟩
      · rw [upd_ne (show 16 * x + q ≠ 16 * x + p by omega), upd_ne (show x * 16 + q ≠ x * 16 + p by omega)]
        simp only [e2, decide_false, Bool.or_false]
        exact c5 x hx q hq
    · rw [upd_ne e, upd_ne (show 16 * x + q ≠ 16 * c + p by omega), upd_ne (show x * 16 + q ≠ c * 16 + p by omega)]
      exact c5 x hx q hq
  · by_cases e : x = c
    · subst e
      rw [upd_self, b_or, (c6 x hx).1 q hq, Bool.false_or]
      by_cases h32 : q < 32
      · rw [b_one p (by omega) q h32]
        simp only [decide_eq_false_iff_not]
        omega
      · exact b_big (by omega)
    · rw [upd_ne e]
      exact (c6 x hx).1 q hq
  · by_cases e : x = c
    · subst e
      rw [upd_self, cntP_up hp hf hsn 16 (Nat.le_refl _), if_pos hp, (c6 x hx).2, nI_1]
    · rw [upd_ne e, cntP_ne hp e 16 (Nat.le_refl _)]
      exact (c6 x hx).2
  · rw [upd_ne (by omega)]
    exact c7 x hx hx8 q hq
theorem Gclaim.add {nc nk ne : Nat} {m47 m48 m49 m50 m51 m52 m53 m54 m107 m109 m110 m111 m112 m113 m114 m115 m120 m122 m123 : Nat → Int32} (h : Gclaim nc nk ne m47 m48 m49 m50 m51 m52 m53 m54 m107 m109 m110 m111 m112 m113 m114 m115 m120 m122 m123) {j s : Nat} (hs : s < 2) : Gclaim nc nk ne m47 m48 m49 m50 m51 m52 m53 m54 (upd m107 j (nI s)) m109 m110 m111 m112 m113 m114 m115 m120 m122 m123 := by
  obtain ⟨h1, h2, h3⟩ := h
  refine ⟨h1, fun k hk => ?_, h3⟩
  obtain ⟨c, p, q, a, b, d, e, f, g, i, r, u⟩ := h2 k hk
  have hn : ∀ x, m107 x ≠ -1 → upd m107 j (nI s) x ≠ -1 := by
    intro x hx
    rw [upd_at]
    by_cases z : x = j
    · rw [if_pos z]
      exact m1_ne (by omega)
    · rw [if_neg z]
      exact hx
  exact ⟨c, p, q, a, b, d, e, f, g, i, hn _ r, hn _ u⟩
