theorem nI_x {a b : Nat} : nI a + nI b = nI (a + b) := nI_add a b
theorem Gd3.ext0 {n nk ne : Nat} {m55 m57 m58 m63 m64 m116 m117 m118 m119 m125 m126 m131 : Nat → Int32} (h : Gd3 n nk ne m55 m57 m58 m63 m64 m116 m117 m118 m119 m125 m126 m131) {k e x : Nat} (hk : k < nk) (he : e < ne) (hne : ne ≤ 160) (hx : x ≤ 60) (h57 : m57 e = nI k) (hk24 : nk ≤ 24)
    (hb : m55 e = 0 ∨ (m55 e = 4 ∧ m58 e ≠ 0) ∨ (m55 e = 6 ∧ m55 (m58 e).toNatClampNeg = 4)) (hle : m117 k = -1 ∨ ∃ f, f ≤ e ∧ m117 k = nI f) :
    Gd3 (n + 1) nk ne m55 m57 m58 (upd m63 e (m63 e + nI x)) m64 (upd m116 k (nI x + (if m117 k = nI e then m116 k else 0))) (upd m117 k (nI e)) m118 m119 m125 m126 m131 := by
  obtain ⟨g1, g2, g3, g4, g5, g6, g7, g8⟩ := h
  have hkd : m55 e = 0 ∨ m55 e = 4 ∨ m55 e = 6 := hb.imp id (fun h => h.imp (fun h => h.1) (fun h => h.1))
  have hn2 : ∀ {z : Int32} {P : Prop}, (m55 e = z) → (z ≠ 0) → (z ≠ 4) → (z ≠ 6) → P := by
    intro z P q z0 z4 z6
    rcases hkd with w | w | w
    · exact absurd (q.symm.trans w) z0
    · exact absurd (q.symm.trans w) z4
    · exact absurd (q.symm.trans w) z6
  refine ⟨fun e' he' hk' => ?_, g2, fun e' he' h2 => ?_, fun k' hk' e' he' h57' hkd' => ?_, fun k' hk' => ?_, fun k' hk' e' he' h57' hkd' => ?_, g7, g8⟩
  · obtain ⟨⟨y, y1, y2, y3⟩, y4⟩ := g1 e' he' hk'
    refine ⟨?_, y4⟩
    rw [upd_at]
    by_cases q : e' = e
    · rw [if_pos q, ← q, y3, nI_add]
      exact ⟨y + x, by omega, by omega, rfl⟩
    · rw [if_neg q]
      exact ⟨y, y1, by omega, y3⟩
  · rw [upd_at]
    by_cases q : e' = e
    · subst q
      exact hn2 h2 (by decide) (by decide) (by decide)
    · rw [if_neg q]
      exact g3 e' he' h2
  · have old := g4 k' hk' e' he' h57' hkd'
    rw [upd_at, upd_at, upd_at]
    by_cases q : e' = e
    · subst q
      have : k' = k := (nI_eq (by omega) (by omega)).mp (h57'.symm.trans h57)
      subst this
      rw [if_pos rfl, if_pos rfl, if_pos rfl]
      refine ⟨fun w => absurd w (Int32.lt_irrefl), fun _ => ?_⟩
      by_cases w : m117 k' = nI e'
      · rw [if_pos w, old.2 w, Int32.add_assoc, Int32.add_comm (m116 k') (nI x)]
      · rw [if_neg w, Int32.add_zero]
        have : m117 k' < nI e' := by
          rcases hle with z | ⟨f, f1, f2⟩
          · rw [z]; exact nI_m1_lt' e' (by omega)
          · rw [f2] at w ⊢
            have : f ≠ e' := fun h => w (by rw [h])
            exact nI_lt (by omega) (by omega)
        rw [old.1 this]
    · rw [if_neg q]
      by_cases w : k' = k
      · subst w
        rw [if_pos rfl, if_pos rfl]
        refine ⟨fun z => old.1 ?_, fun z => absurd ((nI_eq (by omega) (by omega)).mp z).symm q⟩
        rcases hle with y | ⟨f, f1, f2⟩
        · rw [y]; exact nI_m1_lt' e' (by omega)
        · rw [f2]
          have := (nI_ltI (by omega) (by omega)).mp z
          exact nI_lt (by omega) (by omega)
      · rw [if_neg w, if_neg w]
        exact old
  · rw [upd_at]
    by_cases w : k' = k
    · rw [if_pos w, w]
      exact Or.inr ⟨e, he, rfl, h57, hb⟩
    · rw [if_neg w]
      exact g5 k' hk'
  · rw [upd_at]
    by_cases q : e' = e
    · subst q
      rcases hkd' with w | w
      · exact hn2 w (by decide) (by decide) (by decide)
      · exact hn2 w (by decide) (by decide) (by decide)
    · rw [if_neg q]
      exact g6 k' hk' e' he' h57' hkd'
theorem Gd3.ext2 {n nk ne : Nat} {m55 m57 m58 m63 m64 m116 m117 m118 m119 m125 m126 m131 : Nat → Int32} (h : Gd3 n nk ne m55 m57 m58 m63 m64 m116 m117 m118 m119 m125 m126 m131) {k e x : Nat} (hk : k < nk) (he : e < ne) (hne : ne ≤ 160) (hx : x ≤ 60) (h57 : m57 e = nI k) (hk24 : nk ≤ 24)
    (hkd : m55 e = 5 ∨ m55 e = 8) (hle : m119 k = -1 ∨ ∃ f, f ≤ e ∧ m119 k = nI f) :
    Gd3 (n + 1) nk ne m55 m57 m58 (upd m63 e (m63 e + nI x)) m64 m116 m117 (upd m118 k (nI x + (if m119 k = nI e then m118 k else 0))) (upd m119 k (nI e)) m125 m126 m131 := by
  obtain ⟨g1, g2, g3, g4, g5, g6, g7, g8⟩ := h
  have hn2 : ∀ {z : Int32} {P : Prop}, (m55 e = z) → (z ≠ 5) → (z ≠ 8) → P := by
    intro z P q z0 z4
    rcases hkd with w | w
    · exact absurd (q.symm.trans w) z0
    · exact absurd (q.symm.trans w) z4
  refine ⟨fun e' he' hk' => ?_, g2, fun e' he' h2 => ?_, fun k' hk' e' he' h57' hkd' => ?_, g5, fun k' hk' e' he' h57' hkd' => ?_, fun k' hk' => ?_, g8⟩
  · obtain ⟨⟨y, y1, y2, y3⟩, y4⟩ := g1 e' he' hk'
    refine ⟨?_, y4⟩
    rw [upd_at]
    by_cases q : e' = e
    · rw [if_pos q, ← q, y3, nI_add]
      exact ⟨y + x, by omega, by omega, rfl⟩
    · rw [if_neg q]
      exact ⟨y, y1, by omega, y3⟩
  · rw [upd_at]
    by_cases q : e' = e
    · subst q
      exact hn2 h2 (by decide) (by decide)
    · rw [if_neg q]
      exact g3 e' he' h2
  · rw [upd_at]
    by_cases q : e' = e
    · subst q
      rcases hkd' with w | w | w
      · exact hn2 w (by decide) (by decide)
      · exact hn2 w (by decide) (by decide)
      · exact hn2 w (by decide) (by decide)
    · rw [if_neg q]
      exact g4 k' hk' e' he' h57' hkd'
  · have old := g6 k' hk' e' he' h57' hkd'
    rw [upd_at, upd_at, upd_at]
    by_cases q : e' = e
    · subst q
      have : k' = k := (nI_eq (by omega) (by omega)).mp (h57'.symm.trans h57)
      subst this
      rw [if_pos rfl, if_pos rfl, if_pos rfl]
      refine ⟨fun w => absurd w (Int32.lt_irrefl), fun _ => ?_⟩
      by_cases w : m119 k' = nI e'
      · rw [if_pos w, old.2 w, Int32.add_assoc, Int32.add_comm (m118 k') (nI x)]
      · rw [if_neg w, Int32.add_zero]
        have : m119 k' < nI e' := by
          rcases hle with z | ⟨f, f1, f2⟩
          · rw [z]; exact nI_m1_lt' e' (by omega)
          · rw [f2] at w ⊢
            have : f ≠ e' := fun h => w (by rw [h])
            exact nI_lt (by omega) (by omega)
        rw [old.1 this]
    · rw [if_neg q]
      by_cases w : k' = k
      · subst w
        rw [if_pos rfl, if_pos rfl]
        refine ⟨fun z => old.1 ?_, fun z => absurd ((nI_eq (by omega) (by omega)).mp z).symm q⟩
        rcases hle with y | ⟨f, f1, f2⟩
        · rw [y]; exact nI_m1_lt' e' (by omega)
        · rw [f2]
          have := (nI_ltI (by omega) (by omega)).mp z
          exact nI_lt (by omega) (by omega)
      · rw [if_neg w, if_neg w]
        exact old
  · rw [upd_at]
    by_cases w : k' = k
    · rw [if_pos w, w]
      exact Or.inr ⟨e, he, rfl, h57, hkd⟩
    · rw [if_neg w]
      exact g7 k' hk'
theorem Gd3.ext1 {n nk ne : Nat} {m55 m57 m58 m63 m64 m116 m117 m118 m119 m125 m126 m131 : Nat → Int32} (h : Gd3 n nk ne m55 m57 m58 m63 m64 m116 m117 m118 m119 m125 m126 m131) {e x : Nat} (he : e < ne) (hne : ne ≤ 160) (hx : x ≤ 60) (h2 : m55 e = 2) :
    Gd3 (n + 1) nk ne m55 m57 m58 (upd m63 e (m63 e + nI x)) m64 m116 m117 m118 m119 m125 m126 (upd m131 e (m131 e + nI x)) := by
  obtain ⟨g1, g2, g3, g4, g5, g6, g7, g8⟩ := h
  refine ⟨fun e' he' hk' => ?_, g2, fun e' he' q2 => ?_, fun k' hk' e' he' h57' hkd' => ?_, g5, fun k' hk' e' he' h57' hkd' => ?_, g7, fun e' he' => ?_⟩
  · obtain ⟨⟨y, y1, y2, y3⟩, y4⟩ := g1 e' he' hk'
    refine ⟨?_, y4⟩
    rw [upd_at]
    by_cases q : e' = e
    · rw [if_pos q, ← q, y3, nI_add]
      exact ⟨y + x, by omega, by omega, rfl⟩
    · rw [if_neg q]
      exact ⟨y, y1, by omega, y3⟩
  · rw [upd_at, upd_at]
    by_cases q : e' = e
    · rw [if_pos q, if_pos q, g3 e he h2, Int32.add_assoc, q]
    · rw [if_neg q, if_neg q]
      exact g3 e' he' q2
  · rw [upd_at]
    by_cases q : e' = e
    · subst q
      rw [h2] at hkd'
      exact absurd hkd' (by decide)
    · rw [if_neg q]
      exact g4 k' hk' e' he' h57' hkd'
  · rw [upd_at]
    by_cases q : e' = e
    · subst q
      rw [h2] at hkd'
      exact absurd hkd' (by decide)
    · rw [if_neg q]
      exact g6 k' hk' e' he' h57' hkd'
  · rw [upd_at, if_neg (by omega)]
    exact g8 e' he'
