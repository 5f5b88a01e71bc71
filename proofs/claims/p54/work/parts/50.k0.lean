/-! ===== one entry more ===== -/
theorem sAlone_congr {K A D K' A' D' : Nat → Int32} {c d : Int32} : ∀ {n : Nat}, (∀ e, e < n → K e = K' e ∧ A e = A' e ∧ D e = D' e) → sAlone K A D c d n = sAlone K' A' D' c d n
  | 0, _ => rfl
  | n + 1, h => by
    obtain ⟨h1, h2, h3⟩ := h n (by omega)
    show (if K n < 11 then sAlone K A D c d n else if A n = c then if d < D n then sAlone K A D c d n else if K n = 11 then 1 else 0 else sAlone K A D c d n) = (if K' n < 11 then sAlone K' A' D' c d n else if A' n = c then if d < D' n then sAlone K' A' D' c d n else if K' n = 11 then 1 else 0 else sAlone K' A' D' c d n)
    rw [h1, h2, h3, sAlone_congr (fun e he => h e (by omega))]
theorem upd_lt {f : Nat → Int32} {n e : Nat} {v : Int32} (h : e < n) : upd f n v e = f e := by rw [upd_at, if_neg (by omega)]
theorem upd_eq {f : Nat → Int32} {n : Nat} {v : Int32} : upd f n v n = v := by rw [upd_at, if_pos rfl]
theorem sAlone_add {K A D : Nat → Int32} {c d k a t : Int32} {n : Nat} : sAlone (upd K n k) (upd A n a) (upd D n t) c d (n + 1) = if k < 11 then sAlone K A D c d n else if a = c then if d < t then sAlone K A D c d n else if k = 11 then 1 else 0 else sAlone K A D c d n := by
  show (if upd K n k n < 11 then sAlone _ _ _ c d n else if upd A n a n = c then if d < upd D n t n then sAlone _ _ _ c d n else if upd K n k n = 11 then 1 else 0 else sAlone _ _ _ c d n) = _
  rw [upd_eq, upd_eq, upd_eq, sAlone_congr (K' := K) (A' := A) (D' := D) (fun e he => ⟨upd_lt he, upd_lt he, upd_lt he⟩)]
theorem Gstay.add {t ne : Nat} {m11 m15 m24 m120 m121 m122 : Nat → Int32} (h : Gstay t ne m11 m15 m24 m120 m121 m122) {K A D : Int32} (hK : K < 11) : Gstay t (ne + 1) m11 m15 m24 (upd m120 ne K) (upd m121 ne D) (upd m122 ne A) := by
  refine ⟨fun c hc d hd => ?_, fun c hc => ?_⟩
  · rw [sAlone_add, if_pos hK]
    exact h.1 c hc d hd
  · obtain ⟨tc, h1, h2, h3, h4⟩ := h.2 c hc
    refine ⟨tc, by omega, h2, h3, fun d => ?_⟩
    rw [sAlone_add, if_pos hK]
    exact h4 d
theorem sPaid_congr {K A T K' A' T' : Nat → Int32} {k : Int32} : ∀ {n : Nat}, (∀ e, e < n → K e = K' e ∧ A e = A' e ∧ T e = T' e) → sPaid K A T k n = sPaid K' A' T' k n
  | 0, _ => rfl
  | n + 1, h => by
    obtain ⟨h1, h2, h3⟩ := h n (by omega)
    show (if K n = 10 then if A n = k then sPaid K A T k n + T n else sPaid K A T k n + 0 else sPaid K A T k n + 0) = (if K' n = 10 then if A' n = k then sPaid K' A' T' k n + T' n else sPaid K' A' T' k n + 0 else sPaid K' A' T' k n + 0)
    rw [h1, h2, h3, sPaid_congr (fun e he => h e (by omega))]
theorem sPaid_add {K A T : Nat → Int32} {k κ a τ : Int32} {n : Nat} : sPaid (upd K n κ) (upd A n a) (upd T n τ) k (n + 1) = if κ = 10 then if a = k then sPaid K A T k n + τ else sPaid K A T k n else sPaid K A T k n := by
  show (if upd K n κ n = 10 then if upd A n a n = k then sPaid _ _ _ k n + upd T n τ n else sPaid _ _ _ k n + 0 else sPaid _ _ _ k n + 0) = _
  rw [upd_eq, upd_eq, upd_eq, sPaid_congr (K' := K) (A' := A) (T' := T) (fun e he => ⟨upd_lt he, upd_lt he, upd_lt he⟩), Int32.add_zero]
theorem sFold_congr {K D A T K' D' A' T' : Nat → Int32} {k : Int32} : ∀ {n : Nat}, (∀ e, e < n → K e = K' e ∧ D e = D' e ∧ A e = A' e ∧ T e = T' e) → sFold K D A T k n = sFold K' D' A' T' k n
  | 0, _ => rfl
  | n + 1, h => by
    obtain ⟨h1, h2, h3, h4⟩ := h n (by omega)
    show (if A n = k then fStep (K n) (D n) (T n) (sFold K D A T k n) else sFold K D A T k n) = (if A' n = k then fStep (K' n) (D' n) (T' n) (sFold K' D' A' T' k n) else sFold K' D' A' T' k n)
    rw [h1, h2, h3, h4, sFold_congr (fun e he => h e (by omega))]
theorem sFold_add {K D A T : Nat → Int32} {k κ d a τ : Int32} {n : Nat} : sFold (upd K n κ) (upd D n d) (upd A n a) (upd T n τ) k (n + 1) = if a = k then fStep κ d τ (sFold K D A T k n) else sFold K D A T k n := by
  show (if upd A n a n = k then fStep (upd K n κ n) (upd D n d n) (upd T n τ n) (sFold _ _ _ _ k n) else sFold _ _ _ _ k n) = _
  rw [upd_eq, upd_eq, upd_eq, upd_eq, sFold_congr (K' := K) (D' := D) (A' := A) (T' := T) (fun e he => ⟨upd_lt he, upd_lt he, upd_lt he, upd_lt he⟩)]
theorem lt_sx {e n : Nat} (h : e < n + 1) : e < n ∨ e = n := by omega
theorem Gd1.ent {t nc nk ne : Nat} {m55 m56 m57 m58 m59 m61 m62 m120 m121 m122 m123 m124 m130 : Nat → Int32} (h : Gd1 t nc nk ne m55 m56 m57 m58 m59 m61 m62 m120 m121 m122 m123 m124 m130) {m61' m62' m130' : Nat → Int32} {K A T O : Int32} (hne : ne < 1000)
    (hK : ∃ κ, κ < 13 ∧ K = nI κ ∧ (11 ≤ κ → isIx nc A) ∧ (κ < 11 → isIx nk A)) (h0 : K = 0 → isIx 3 T ∧ ∀ s, s < ne → m55 s = 0 → m57 s ≠ A) (h3 : K = 3 → ∃ m, m < ne ∧ T = nI m ∧ m55 m = 2)
    (h4 : K = 4 → ∃ m, m < ne ∧ O = nI m ∧ m55 m = 2 ∧ m57 m = A ∧ m62' = upd m62 m 1) (h4n : K ≠ 4 → m62' = m62)
    (h6 : K = 6 → ∃ o, o < ne ∧ T = nI o ∧ (m55 o = 4 ∨ m55 o = 5) ∧ m57 o = A ∧ m61' = upd m61 o 1) (h6n : K ≠ 6 → m61' = m61)
    (hs : (K = 1 ∨ K = 2 ∨ K = 4 ∨ K = 5 ∨ K = 6) → ∃ s, s < ne ∧ m55 s = 0 ∧ m57 s = A) (h130 : m130' = m61') :
    Gd1 t nc nk (ne + 1) (upd m55 ne K) (upd m56 ne (nI t)) (upd m57 ne A) (upd m58 ne T) (upd m59 ne O) m61' m62' (upd m120 ne K) (upd m121 ne (nI t)) (upd m122 ne A) (upd m123 ne T) (upd m124 ne O) m130' := by
  obtain ⟨⟨q1, q2, q3, q4, q5, q6⟩, d1, d2, d3, d4, d5, d6, d7, d8, d9, d10, d11⟩ := h
  have z61 : ∀ e, z01 (m61' e) := by
    intro e
    by_cases c : K = 6
    · obtain ⟨o, o1, o2, o3, o4, o5⟩ := h6 c
      rw [o5, upd_at]
      by_cases q : e = o
      · rw [if_pos q]; exact Or.inr rfl
      · rw [if_neg q]; exact (d6 e).1
    · rw [h6n c]; exact (d6 e).1
  have z62 : ∀ e, z01 (m62' e) := by
    intro e
    by_cases c : K = 4
    · obtain ⟨o, o1, o2, o3, o4, o5⟩ := h4 c
      rw [o5, upd_at]
      by_cases q : e = o
      · rw [if_pos q]; exact Or.inr rfl
      · rw [if_neg q]; exact (d6 e).2
    · rw [h4n c]; exact (d6 e).2
  refine ⟨⟨by rw [q1], by rw [q2], by rw [q3], by rw [q4], by rw [q5], h130⟩, fun e he => ?_, fun e he w => ?_, fun e he w => ?_, fun e he w => ?_, fun e he w => ?_, fun e => ⟨z61 e, z62 e⟩, fun e he w => ?_, fun e he => ?_, fun m hm => ?_, fun e he w => ?_, fun s r hs1 hr1 w1 w2 w3 => ?_⟩
  · rcases lt_sx he with he | he
    · rw [upd_lt he, upd_lt he, upd_lt he]
      exact d1 e he
    · rw [he, upd_eq, upd_eq, upd_eq]
      obtain ⟨κ, k1, k2, k3, k4⟩ := hK
      exact ⟨κ, t, k1, by omega, k2, rfl, k3, k4⟩
  · rcases lt_sx he with he | he
    · rw [upd_lt he] at w ⊢
      exact d2 e he w
    · rw [he, upd_eq] at w ⊢
      exact (h0 w).1
  · rcases lt_sx he with he | he
    · rw [upd_lt he] at w ⊢
      obtain ⟨m, m1, m2, m3⟩ := d3 e he w
      exact ⟨m, m1, m2, by rw [upd_lt (by omega)]; exact m3⟩
    · rw [he, upd_eq] at w ⊢
      obtain ⟨m, m1, m2, m3⟩ := h3 w
      exact ⟨m, m1, m2, by rw [upd_lt (by omega)]; exact m3⟩
  · rcases lt_sx he with he | he
    · rw [upd_lt he] at w ⊢
      obtain ⟨m, m1, m2, m3, m4⟩ := d4 e he w
      exact ⟨m, m1, m2, by rw [upd_lt (by omega)]; exact m3, by rw [upd_lt (by omega), upd_lt he]; exact m4⟩
    · rw [he, upd_eq] at w ⊢
      obtain ⟨m, m1, m2, m3, m4, -⟩ := h4 w
      exact ⟨m, m1, m2, by rw [upd_lt (by omega)]; exact m3, by rw [upd_lt (by omega), upd_eq]; exact m4⟩
  · rcases lt_sx he with he | he
    · rw [upd_lt he] at w ⊢
      obtain ⟨m, m1, m2, m3, m4⟩ := d5 e he w
      exact ⟨m, m1, m2, by rw [upd_lt (by omega)]; exact m3, by rw [upd_lt (by omega), upd_lt he]; exact m4⟩
    · rw [he, upd_eq] at w ⊢
      obtain ⟨m, m1, m2, m3, m4, -⟩ := h6 w
      exact ⟨m, m1, m2, by rw [upd_lt (by omega)]; exact m3, by rw [upd_lt (by omega), upd_eq]; exact m4⟩
  · rcases lt_sx he with he | he
    · rw [upd_lt he]
      by_cases c : K = 6
      · obtain ⟨o, o1, o2, o3, o4, o5⟩ := h6 c
        rw [o5, upd_at] at w
        by_cases q : e = o
        · rw [q]; exact o3
        · rw [if_neg q] at w
          exact d7 e he w
      · rw [h6n c] at w
        exact d7 e he w
    · rw [he] at w
      exfalso
      by_cases c : K = 6
      · obtain ⟨o, o1, o2, o3, o4, o5⟩ := h6 c
        rw [o5, upd_at, if_neg (by omega), (d8 ne (by omega)).1] at w
        exact absurd w (by decide)
      · rw [h6n c, (d8 ne (by omega)).1] at w
        exact absurd w (by decide)
  · constructor
    · by_cases c : K = 6
      · obtain ⟨o, o1, o2, o3, o4, o5⟩ := h6 c
        rw [o5, upd_at, if_neg (by omega)]
        exact (d8 e (by omega)).1
      · rw [h6n c]
        exact (d8 e (by omega)).1
    · by_cases c : K = 4
      · obtain ⟨o, o1, o2, o3, o4, o5⟩ := h4 c
        rw [o5, upd_at, if_neg (by omega)]
        exact (d8 e (by omega)).2
      · rw [h4n c]
        exact (d8 e (by omega)).2
  · have old : m < ne → ((∃ e, e < ne + 1 ∧ upd m55 ne K e = 4 ∧ upd m59 ne O e = nI m) ↔ ((∃ e, e < ne ∧ m55 e = 4 ∧ m59 e = nI m) ∨ (K = 4 ∧ O = nI m))) := by
      intro _
      constructor
      · rintro ⟨e, e1, e2, e3⟩
        rcases lt_sx e1 with e1 | e1
        · rw [upd_lt e1] at e2 e3
          exact Or.inl ⟨e, e1, e2, e3⟩
        · rw [e1, upd_eq] at e2 e3
          exact Or.inr ⟨e2, e3⟩
      · rintro (⟨e, e1, e2, e3⟩ | ⟨e2, e3⟩)
        · exact ⟨e, by omega, by rw [upd_lt e1]; exact e2, by rw [upd_lt e1]; exact e3⟩
        · exact ⟨ne, by omega, by rw [upd_eq]; exact e2, by rw [upd_eq]; exact e3⟩
    rcases lt_sx hm with hm | hm
    · rw [old hm, ← d9 m hm]
      by_cases c : K = 4
      · obtain ⟨o, o1, o2, o3, o4, o5⟩ := h4 c
        rw [o5, upd_at]
        by_cases q : m = o
        · rw [if_pos q, q]
          exact ⟨fun _ => Or.inr ⟨c, o2⟩, fun _ => rfl⟩
        · rw [if_neg q]
          refine ⟨fun w => Or.inl w, fun w => w.elim id (fun w => ?_)⟩
          rw [o2] at w
          exact absurd ((nI_eq (by omega) (by omega)).mp w.2).symm q
      · rw [h4n c]
        exact ⟨fun w => Or.inl w, fun w => w.elim id (fun w => absurd w.1 c)⟩
    · rw [hm]
      have z : m62' ne = 0 := by
        by_cases c : K = 4
        · obtain ⟨o, o1, o2, o3, o4, o5⟩ := h4 c
          rw [o5, upd_at, if_neg (by omega)]
          exact (d8 ne (by omega)).2
        · rw [h4n c]
          exact (d8 ne (by omega)).2
      rw [z]
      refine ⟨fun w => absurd w (by decide), fun ⟨e, e1, e2, e3⟩ => ?_⟩
      exfalso
      rcases lt_sx e1 with e1 | e1
      · rw [upd_lt e1] at e2 e3
        obtain ⟨m', y1, y2, -⟩ := d4 e e1 e2
        have := (nI_eq (by omega) (by omega)).mp (y2.symm.trans e3)
        omega
      · rw [e1, upd_eq] at e2 e3
        obtain ⟨m', y1, y2, -⟩ := h4 e2
        have := (nI_eq (by omega) (by omega)).mp (y2.symm.trans e3)
        omega
  · rcases lt_sx he with he | he
    · rw [upd_lt he] at w ⊢
      obtain ⟨s, s1, s2, s3⟩ := d10 e he w
      exact ⟨s, s1, by rw [upd_lt (by omega)]; exact s2, by rw [upd_lt (by omega)]; exact s3⟩
    · rw [he, upd_eq] at w ⊢
      obtain ⟨s, s1, s2, s3⟩ := hs w
      exact ⟨s, s1, by rw [upd_lt (by omega)]; exact s2, by rw [upd_lt (by omega)]; exact s3⟩
  · rcases lt_sx hs1 with hs1 | hs1
    · rcases lt_sx hr1 with hr1 | hr1
      · rw [upd_lt hs1] at w1
        rw [upd_lt hr1] at w2
        rw [upd_lt hs1, upd_lt hr1] at w3
        exact d11 s r hs1 hr1 w1 w2 w3
      · rw [upd_lt hs1] at w1
        rw [hr1, upd_eq] at w2
        rw [upd_lt hs1, hr1, upd_eq] at w3
        exact absurd w3 ((h0 w2).2 s hs1 w1)
    · rcases lt_sx hr1 with hr1 | hr1
      · rw [hs1, upd_eq] at w1
        rw [upd_lt hr1] at w2
        rw [upd_lt hr1, hs1, upd_eq] at w3
        exact absurd w3.symm ((h0 w1).2 r hr1 w2)
      · omega
theorem Gd2.ent {t ne : Nat} {m55 m65 m66 m67 m68 m132 m133 m134 m135 : Nat → Int32} (h : Gd2 t ne m55 m65 m66 m67 m68 m132 m133 m134 m135) (K : Int32) : Gd2 t (ne + 1) (upd m55 ne K) (upd m65 ne (-1)) m66 m67 m68 m132 m133 m134 m135 := by
  obtain ⟨h1, h2, h3, h4⟩ := h
  refine ⟨h1, h2, fun e he => ?_, fun e he => h4 e (by omega)⟩
  rcases lt_sx he with he | he
  · rw [upd_lt he, upd_lt he]
    exact h3 e he
  · rw [he, upd_eq, (h4 ne (by omega)).1]
    exact ⟨by decide, Or.inl rfl⟩
theorem Gd3.ent {n nk ne : Nat} {m55 m57 m58 m63 m64 m116 m117 m118 m119 m125 m126 m131 : Nat → Int32} (h : Gd3 n nk ne m55 m57 m58 m63 m64 m116 m117 m118 m119 m125 m126 m131) {m63' m64' : Nat → Int32} {K A T R W : Int32} (hne : ne < 1000)
    (hlt : ∀ e, e < ne → m63' e = m63 e) (hlt2 : ∀ e, e < ne → m64' e = m64 e) (hz : ∀ e, z01 (m64' e)) (hW : z01 W) (hk : kdD K → (∃ x, 1 ≤ x ∧ x ≤ 100 ∧ m63' ne = nI x) ∧ m64' ne = W) (h2 : K = 2 → m63' ne = R)
    (h046 : (K = 0 ∨ K = 4 ∨ K = 6) → m63' ne = R + (if K = 0 then if T = 1 then 3 else if T = 2 then 7 else 0 else 0)) (h58 : (K = 5 ∨ K = 8) → m63' ne = R) (h6 : ∀ f, f < ne → m55 f = 6 → (m58 f).toNatClampNeg < ne) :
    Gd3 (n + 1) nk (ne + 1) (upd m55 ne K) (upd m57 ne A) (upd m58 ne T) m63' m64' m116 m117 m118 m119 (upd m125 ne R) (upd m126 ne W) m131 := by
  obtain ⟨g1, g2, g3, g4, g5, g6, g7, g8⟩ := h
  have lt117 : ∀ k, k < nk → m117 k < nI ne := by
    intro k hk
    rcases g5 k hk with q | ⟨f, f1, f2, -⟩
    · rw [q]; exact nI_m1_lt' ne (by omega)
    · rw [f2]; exact nI_lt f1 (by omega)
  have lt119 : ∀ k, k < nk → m119 k < nI ne := by
    intro k hk
    rcases g7 k hk with q | ⟨f, f1, f2, -⟩
    · rw [q]; exact nI_m1_lt' ne (by omega)
    · rw [f2]; exact nI_lt f1 (by omega)
  refine ⟨fun e he w => ?_, fun e => ⟨hz e, ?_⟩, fun e he w => ?_, fun k hk1 e he w1 w2 => ?_, fun k hk1 => ?_, fun k hk1 e he w1 w2 => ?_, fun k hk1 => ?_, fun e he => g8 e (by omega)⟩
  · rcases lt_sx he with he | he
    · rw [upd_lt he] at w
      rw [hlt e he, hlt2 e he, upd_lt he]
      obtain ⟨⟨x, x1, x2, x3⟩, x4⟩ := g1 e he w
      exact ⟨⟨x, x1, by omega, x3⟩, x4⟩
    · rw [he, upd_eq] at w
      rw [he, upd_eq]
      obtain ⟨⟨x, x1, x2, x3⟩, x4⟩ := hk w
      exact ⟨⟨x, x1, by omega, x3⟩, x4⟩
  · rw [upd_at]
    by_cases q : e = ne
    · rw [if_pos q]; exact hW
    · rw [if_neg q]; exact (g2 e).2
  · rcases lt_sx he with he | he
    · rw [upd_lt he] at w
      rw [hlt e he, upd_lt he]
      exact g3 e he w
    · rw [he, upd_eq] at w
      rw [he, upd_eq, g8 ne (by omega), Int32.add_zero]
      exact h2 w
  · rcases lt_sx he with he | he
    · rw [upd_lt he] at w1 w2
      have e1 : wayD (upd m55 ne K) (upd m58 ne T) e = wayD m55 m58 e := by
        unfold wayD
        rw [upd_lt he, upd_lt he]
      rw [hlt e he, upd_lt he, e1]
      exact g4 k hk1 e he w1 w2
    · rw [he, upd_eq] at w1 w2
      have e1 : wayD (upd m55 ne K) (upd m58 ne T) ne = (if K = 0 then if T = 1 then 3 else if T = 2 then 7 else 0 else 0) := by
        unfold wayD
        rw [upd_eq, upd_eq]
      rw [he, upd_eq, e1]
      refine ⟨fun _ => h046 w2, fun w => ?_⟩
      have q := lt117 k hk1
      rw [w] at q
      exact absurd q Int32.lt_irrefl
  · rcases g5 k hk1 with q | ⟨f, f1, f2, f3, f4⟩
    · exact Or.inl q
    · refine Or.inr ⟨f, by omega, f2, by rw [upd_lt f1]; exact f3, ?_⟩
      rw [upd_lt f1, upd_lt f1]
      rcases f4 with f4 | f4 | f4
      · exact Or.inl f4
      · exact Or.inr (Or.inl f4)
      · exact Or.inr (Or.inr ⟨f4.1, by rw [upd_lt (h6 f f1 f4.1)]; exact f4.2⟩)
  · rcases lt_sx he with he | he
    · rw [upd_lt he] at w1 w2
      rw [hlt e he, upd_lt he]
      exact g6 k hk1 e he w1 w2
    · rw [he, upd_eq] at w1 w2
      rw [he, upd_eq]
      refine ⟨fun _ => h58 w2, fun w => ?_⟩
      have q := lt119 k hk1
      rw [w] at q
      exact absurd q Int32.lt_irrefl
  · rcases g7 k hk1 with q | ⟨f, f1, f2, f3, f4⟩
    · exact Or.inl q
    · exact Or.inr ⟨f, by omega, f2, by rw [upd_lt f1]; exact f3, by rw [upd_lt f1]; exact f4⟩
theorem fStep_keep {K D T : Int32} {q : Int32 × Int32 × Int32 × Int32} (h : K ≠ 5) : (fStep K D T q).2.1 = q.2.1 ∧ (fStep K D T q).2.2.1 = q.2.2.1 := by
  unfold fStep
  by_cases c4 : K = 4
  · rw [if_pos c4]
    by_cases z : T = 0
    · rw [if_pos z]; exact ⟨rfl, rfl⟩
    · rw [if_neg z]; exact ⟨rfl, rfl⟩
  · rw [if_neg c4, if_neg h]
    by_cases c6 : K = 6
    · rw [if_pos c6]; exact ⟨rfl, rfl⟩
    · rw [if_neg c6]
      by_cases c7 : K = 7
      · rw [if_pos c7]; exact ⟨rfl, rfl⟩
      · rw [if_neg c7]
        by_cases c8 : K = 8
        · rw [if_pos c8]; exact ⟨rfl, rfl⟩
        · rw [if_neg c8]
          by_cases c9 : K = 9
          · rw [if_pos c9]; exact ⟨rfl, rfl⟩
          · rw [if_neg c9]
            by_cases ca : K = 10
            · rw [if_pos ca]; exact ⟨rfl, rfl⟩
            · rw [if_neg ca]; exact ⟨rfl, rfl⟩
theorem Gd4.ent {nk ne t : Nat} {m50 m51 m52 m53 m55 m56 m57 m58 m60 m61 m127 m128 m129 : Nat → Int32} (h : Gd4 nk ne m50 m51 m52 m53 m55 m56 m57 m58 m60 m61 m127 m128 m129) {m50' m51' m52' m53' m60' m61' m127' m128' m129' : Nat → Int32} {K A T : Int32} {c : Nat} (hne : ne < 1000) (hnk : nk ≤ 24) (hc : c < nk) (hA : A = nI c)
    (ho : ∀ j, j ≠ c → m50' j = m50 j ∧ m51' j = m51 j ∧ m52' j = m52 j ∧ m53' j = m53 j)
    (hf : (fStep K (nI t) T (sFold m55 m56 m57 m58 (nI c) ne)).1 = m51' c ∧ (fStep K (nI t) T (sFold m55 m56 m57 m58 (nI c) ne)).2.2.2 = m53' c)
    (h61 : ∀ e, e < ne → m57 e ≠ A → m61' e = m61 e)
    (h2 : (m51' c = 2 ∨ m51' c = 3) → ((m51 c = 2 ∨ m51 c = 3) ∧ K ≠ 5 ∧ m50' c = m50 c ∧ ∀ e, e < ne → m61' e = m61 e) ∨ (K = 5 ∧ m50' c = T ∧ m61' ne = 0))
    (h60 : ∀ e, e < ne → m60' e = m60 e ∧ m127' e = m127 e ∧ m128' e = m128 e ∧ m129' e = m129 e) (h45 : (K = 4 ∨ K = 5) → m127' ne = 0 ∧ m128' ne = m60' ne ∧ m129' ne = m52' c) (h8 : K ≠ 8 → m52' c = m52 c) :
    Gd4 nk (ne + 1) m50' m51' m52' m53' (upd m55 ne K) (upd m56 ne (nI t)) (upd m57 ne A) (upd m58 ne T) m60' m61' m127' m128' m129' := by
  obtain ⟨g1, g2, g3, g4⟩ := h
  have inj : ∀ j, j < nk → nI c = nI j → j = c := fun j hj e => ((nI_eq (by omega) (by omega)).mp e).symm
  refine ⟨fun j hj => ?_, fun j hj w => ?_, fun e he w => ?_, fun j hj o ho1 w1 w2 w3 => ?_⟩
  · rw [sFold_add, hA]
    by_cases q : j = c
    · rw [q, if_pos rfl]
      exact hf
    · rw [if_neg (fun e => q ((nI_eq (by omega) (by omega)).mp e).symm), (ho j q).2.1, (ho j q).2.2.2]
      exact g1 j hj
  · rw [sFold_add, hA]
    by_cases q : j = c
    · subst q
      rw [if_pos rfl]
      rcases h2 w with ⟨w1, w2, w3, w4⟩ | ⟨w1, w2, w3⟩
      · obtain ⟨g, j', j1, j2, j3, j4, j5, j6⟩ := g2 j hj w1
        rw [(fStep_keep w2).1, (fStep_keep w2).2, w3]
        refine ⟨g, j', by omega, by rw [upd_lt j1]; exact j2, by rw [upd_lt j1]; exact j3, by rw [w4 j' j1]; exact j4, by rw [upd_lt j1]; exact j5, fun i i1 i2 => ?_⟩
        rcases lt_sx i2 with i2 | i2
        · rw [upd_lt i2, upd_lt i2]
          exact j6 i i1 i2
        · rw [i2, upd_eq]
          exact fun e => w2 e.1
      · rw [w1, w2]
        refine ⟨rfl, ne, by omega, by rw [upd_eq], by rw [upd_eq], w3, by rw [upd_eq]; rfl, fun i i1 i2 => by omega⟩
    · rw [if_neg (fun e => q ((nI_eq (by omega) (by omega)).mp e).symm), (ho j q).1]
      rw [(ho j q).2.1] at w
      obtain ⟨g, j', j1, j2, j3, j4, j5, j6⟩ := g2 j hj w
      refine ⟨g, j', by omega, by rw [upd_lt j1]; exact j2, by rw [upd_lt j1]; exact j3, ?_, by rw [upd_lt j1]; exact j5, fun i i1 i2 => ?_⟩
      · rw [h61 j' j1 (by rw [j3, hA]; exact fun e => q ((nI_eq (by omega) (by omega)).mp e))]
        exact j4
      · rcases lt_sx i2 with i2 | i2
        · rw [upd_lt i2, upd_lt i2]
          exact j6 i i1 i2
        · rw [i2, upd_eq, upd_eq]
          exact fun e => q ((nI_eq (by omega) (by omega)).mp e.2).symm
  · rcases lt_sx he with he | he
    · rw [upd_lt he] at w
      rw [(h60 e he).1, (h60 e he).2.1, (h60 e he).2.2.1]
      exact g3 e he w
    · rw [he, upd_eq] at w
      rw [he]
      exact ⟨(h45 w).1, (h45 w).2.1⟩
  · rcases lt_sx ho1 with ho1 | ho1
    · rw [upd_lt ho1] at w1 w2
      have w3' : ∀ d, o < d → d < ne → ¬ (m55 d = 8 ∧ m57 d = nI j) := by
        intro d d1 d2
        have := w3 d d1 (by omega)
        rw [upd_lt d2, upd_lt d2] at this
        exact this
      rw [(h60 o ho1).2.2.2, g4 j hj o ho1 w1 w2 w3']
      by_cases q : j = c
      · subst q
        refine (h8 (fun e => ?_)).symm
        have := w3 ne ho1 (by omega)
        rw [upd_eq, upd_eq] at this
        exact this ⟨e, hA⟩
      · exact (ho j q).2.2.1.symm
    · rw [ho1, upd_eq] at w1 w2
      rw [ho1]
      have : j = c := inj j hj (hA.symm.trans w1)
      rw [this]
      exact (h45 w2).2.2
theorem Gd4.stay {nk ne t : Nat} {m50 m51 m52 m53 m55 m56 m57 m58 m60 m61 m127 m128 m129 : Nat → Int32} (h : Gd4 nk ne m50 m51 m52 m53 m55 m56 m57 m58 m60 m61 m127 m128 m129) {K A T : Int32} (hne : ne < 1000) (hnk : nk ≤ 24) (hK : K = 11 ∨ K = 12) :
    Gd4 nk (ne + 1) m50 m51 m52 m53 (upd m55 ne K) (upd m56 ne (nI t)) (upd m57 ne A) (upd m58 ne T) m60 m61 m127 m128 m129 := by
  obtain ⟨g1, g2, g3, g4⟩ := h
  have hst : ∀ q, fStep K (nI t) T q = q := by
    intro q
    unfold fStep
    rcases hK with h | h <;> rw [h] <;> rfl
  have hF : ∀ j : Int32, sFold (upd m55 ne K) (upd m56 ne (nI t)) (upd m57 ne A) (upd m58 ne T) j (ne + 1) = sFold m55 m56 m57 m58 j ne := by
    intro j
    rw [sFold_add, hst, ite_self]
  have n5 : ∀ {P : Prop}, (K = 4 ∨ K = 5) → P := by
    intro P w
    exfalso
    rcases hK with h | h <;> rw [h] at w <;> exact absurd w (by decide)
  refine ⟨fun j hj => ?_, fun j hj w => ?_, fun e he w => ?_, fun j hj o ho1 w1 w2 w3 => ?_⟩
  · rw [hF]
    exact g1 j hj
  · rw [hF]
    obtain ⟨g, j', j1, j2, j3, j4, j5, j6⟩ := g2 j hj w
    refine ⟨g, j', by omega, by rw [upd_lt j1]; exact j2, by rw [upd_lt j1]; exact j3, j4, by rw [upd_lt j1]; exact j5, fun i i1 i2 => ?_⟩
    rcases lt_sx i2 with i2 | i2
    · rw [upd_lt i2, upd_lt i2]
      exact j6 i i1 i2
    · rw [i2, upd_eq]
      exact fun e => n5 (Or.inr e.1)
  · rcases lt_sx he with he | he
    · rw [upd_lt he] at w
      exact g3 e he w
    · rw [he, upd_eq] at w
      exact n5 w
  · rcases lt_sx ho1 with ho1 | ho1
    · rw [upd_lt ho1] at w1 w2
      refine g4 j hj o ho1 w1 w2 (fun d d1 d2 => ?_)
      have := w3 d d1 (by omega)
      rw [upd_lt d2, upd_lt d2] at this
      exact this
    · rw [ho1, upd_eq] at w2
      exact n5 w2
