theorem kd_lt {K x : Int32} {k j : Nat} (h : K = nI k) (hk : k < 13) (hx : K = x) (hj : nI j = x) (hj9 : j < 2 ^ 31) : k = j := by
  have h1 : nI k = nI j := by rw [← h, hx, hj]
  exact (nI_eq (by omega) hj9).mp h1
/-- an entry of a claim speaks of a claim that is there -/
theorem Gd1.cl {t nc nk ne : Nat} {m55 m56 m57 m58 m59 m61 m62 m120 m121 m122 m123 m124 m130 : Nat → Int32} (h : Gd1 t nc nk ne m55 m56 m57 m58 m59 m61 m62 m120 m121 m122 m123 m124 m130) {e j : Nat} {x : Int32} (he : e < ne) (hx : m55 e = x) (hj : nI j = x) (hj9 : j < 11) : isIx nk (m57 e) := by
  obtain ⟨k, d, a, b, c, f, g, i⟩ := h.2.1 e he
  have := kd_lt c a hx hj (by omega)
  exact i (by omega)
theorem isIx_no {n : Nat} {x : Int32} (h : isIx n x) (hn : n < 2 ^ 31) : x ≠ nI n := by
  obtain ⟨i, hi, rfl⟩ := h
  intro e
  have := (nI_eq (by omega) hn).mp e
  omega
theorem Gd1.nk {t nc nk ne : Nat} {m55 m56 m57 m58 m59 m61 m62 m120 m121 m122 m123 m124 m130 : Nat → Int32} (h : Gd1 t nc nk ne m55 m56 m57 m58 m59 m61 m62 m120 m121 m122 m123 m124 m130) : Gd1 t nc (nk + 1) ne m55 m56 m57 m58 m59 m61 m62 m120 m121 m122 m123 m124 m130 := by
  obtain ⟨h1, h2, h3⟩ := h
  refine ⟨h1, fun e he => ?_, h3⟩
  obtain ⟨k, d, a, b, c, f, g, i⟩ := h2 e he
  exact ⟨k, d, a, b, c, f, g, fun hk => isIx_mono (i hk) (by omega)⟩
theorem Gd3.nk {n t nc nk ne : Nat} {m55 m56 m57 m58 m59 m61 m62 m63 m64 m116 m117 m118 m119 m120 m121 m122 m123 m124 m125 m126 m130 m131 : Nat → Int32} (h : Gd3 n nk ne m55 m57 m58 m63 m64 m116 m117 m118 m119 m125 m126 m131) (h1 : Gd1 t nc nk ne m55 m56 m57 m58 m59 m61 m62 m120 m121 m122 m123 m124 m130) (hk9 : nk < 24) :
    Gd3 n (nk + 1) ne m55 m57 m58 m63 m64 m116 (upd m117 nk (-1)) m118 (upd m119 nk (-1)) m125 m126 m131 := by
  obtain ⟨d1, d2, d3, d4, d5, d6, d7, d8⟩ := h
  refine ⟨d1, d2, d3, fun k hk e he ha hkd => ?_, fun k hk => ?_, fun k hk e he ha hkd => ?_, fun k hk => ?_, d8⟩
  · by_cases c : k = nk
    · subst c
      have hi : isIx k (m57 e) := by
        rcases hkd with q | q | q
        · exact h1.cl he q (j := 0) (by decide) (by omega)
        · exact h1.cl he q (j := 4) (by decide) (by omega)
        · exact h1.cl he q (j := 6) (by decide) (by omega)
      exact absurd ha (isIx_no hi (by omega))
    · rw [upd_ne c]
      exact d4 k (by omega) e he ha hkd
  · by_cases c : k = nk
    · rw [c, upd_self]
      exact Or.inl rfl
    · rw [upd_ne c]
      exact d5 k (by omega)
  · by_cases c : k = nk
    · subst c
      have hi : isIx k (m57 e) := by
        rcases hkd with q | q
        · exact h1.cl he q (j := 5) (by decide) (by omega)
        · exact h1.cl he q (j := 8) (by decide) (by omega)
      exact absurd ha (isIx_no hi (by omega))
    · rw [upd_ne c]
      exact d6 k (by omega) e he ha hkd
  · by_cases c : k = nk
    · rw [c, upd_self]
      exact Or.inl rfl
    · rw [upd_ne c]
      exact d7 k (by omega)
theorem Gd4.nk {t nc nk ne : Nat} {a : Int32} {m50 m51 m52 m53 m55 m56 m57 m58 m59 m60 m61 m62 m120 m121 m122 m123 m124 m127 m128 m129 m130 : Nat → Int32} (h : Gd4 nk ne m50 m51 m52 m53 m55 m56 m57 m58 m60 m61 m127 m128 m129) (h1 : Gd1 t nc nk ne m55 m56 m57 m58 m59 m61 m62 m120 m121 m122 m123 m124 m130) (hk9 : nk < 24) (h0 : m51 nk = 0) :
    Gd4 (nk + 1) ne (upd m50 nk a) m51 (upd m52 nk (-1)) m53 m55 m56 m57 m58 m60 m61 m127 m128 m129 := by
  obtain ⟨d1, d2, d3, d4⟩ := h
  refine ⟨d1, fun k hk hst => ?_, d3, fun k hk o ho ha hkd hno => ?_⟩
  · by_cases c : k = nk
    · rw [c, h0] at hst
      rcases hst with q | q
      · exact absurd q (by decide)
      · exact absurd q (by decide)
    · rw [upd_ne c]
      exact d2 k (by omega) hst
  · by_cases c : k = nk
    · subst c
      have hi : isIx k (m57 o) := by
        rcases hkd with q | q
        · exact h1.cl ho q (j := 4) (by decide) (by omega)
        · exact h1.cl ho q (j := 5) (by decide) (by omega)
      exact absurd ha (isIx_no hi (by omega))
    · rw [upd_ne c]
      exact d4 k (by omega) o ho ha hkd hno
/-- a claim more -/
theorem Gclaim.nk {nc nk ne c p q : Nat} {a : Int32} {m47 m48 m49 m50 m51 m52 m53 m54 m107 m109 m110 m111 m112 m113 m114 m115 m120 m122 m123 : Nat → Int32} (h : Gclaim nc nk ne m47 m48 m49 m50 m51 m52 m53 m54 m107 m109 m110 m111 m112 m113 m114 m115 m120 m122 m123) (hc : c < nc) (hp : p < 16) (hq : q < 16) (hpq : p ≠ q) (h1 : m107 (16 * c + p) ≠ -1) (h2 : m107 (16 * c + q) ≠ -1) :
    Gclaim nc (nk + 1) ne (upd m47 nk (nI c)) (upd m48 nk (nI p)) (upd m49 nk (nI q)) (upd m50 nk a) m51 (upd m52 nk (-1)) m53 m54 m107 (upd m109 nk (nI c)) (upd m110 nk (nI p)) (upd m111 nk (nI q)) m112 (upd m113 nk a) (upd m114 nk (-1)) m115 m120 m122 m123 := by
  obtain ⟨⟨f1, f2, f3, f4, f5, f6, f7⟩, k2, k3, k4, k5⟩ := h
  refine ⟨⟨by rw [f1], by rw [f2], by rw [f3], f4, by rw [f5], by rw [f6], f7⟩, fun k hk => ?_, fun k hk => ?_, fun k hk => k4 k (by omega), k5⟩
  · by_cases e : k = nk
    · subst e
      exact ⟨c, p, q, hc, hp, hq, hpq, upd_self _ _ _, upd_self _ _ _, upd_self _ _ _, h1, h2⟩
    · rw [upd_ne e, upd_ne e, upd_ne e]
      exact k2 k (by omega)
  · by_cases e : k = nk
    · subst e
      obtain ⟨z1, z2, z3⟩ := k4 k (Nat.le_refl _)
      rw [z1, z3]
      exact ⟨⟨0, by omega, by decide⟩, fun w _ => b_0 w⟩
    · exact k3 k (by omega)
