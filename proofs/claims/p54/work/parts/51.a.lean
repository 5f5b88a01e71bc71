/-! ===== what p54 wants of the class besides: amounts, caps, what was paid, the last orders, days, seals, ends ===== -/
def jlast (m55 m57 : Nat → Int32) (ne : Nat) (k : Int32) (j : Nat) : Prop := j < ne ∧ m55 j = 5 ∧ m57 j = k ∧ ∀ i, j < i → i < ne → ¬ (m55 i = 5 ∧ m57 i = k)
def olast (m55 m57 m61 : Nat → Int32) (ne : Nat) (k : Int32) (o : Nat) : Prop := o < ne ∧ ordK (m55 o) = true ∧ m57 o = k ∧ m61 o = 0 ∧ ∀ i, o < i → i < ne → ¬ (ordK (m55 i) = true ∧ m57 i = k ∧ m61 i = 0)
def Xc (t ne : Nat) (m50 m51 m52 m53 m55 m56 m57 m60 m61 : Nat → Int32) (k : Nat) : Prop :=
  (∃ a, 1 ≤ a ∧ a ≤ 99999 ∧ m50 k = nI a ∧ ((m51 k = 2 ∨ m51 k = 3) → ∃ j b d, jlast m55 m57 ne (nI k) j ∧ m60 j = nI b ∧ a ≤ b ∧ b ≤ 99999 ∧ d ≤ t ∧ m56 j = nI d ∧ (m51 k = 2 → ∃ p, m53 k = nI p ∧ p < a + a * ((t - d) / 30) / 100))) ∧
  (m52 k = -1 ∨ ∃ c, c ≤ 99999 ∧ m52 k = nI c) ∧
  (¬ m51 k = 2 → ¬ m51 k = 4 → ¬ m51 k = 5 → m53 k = 0) ∧
  ((¬ m53 k = 0 ∨ m51 k = 4 ∨ m51 k = 5) → ∃ o, olast m55 m57 m61 ne (nI k) o ∧ (m55 o = 9 ∨ m55 o = 10))
def Xg (t nk ne ns : Nat) (m51 m55 m56 m60 m99 m100 m146 : Nat → Int32) : Prop :=
  (∀ e, e < ne → (m55 e = 4 ∨ m55 e = 5) → ∃ x, 1 ≤ x ∧ x ≤ 99999 ∧ m60 e = nI x) ∧
  (∀ i j, i ≤ j → j < ne → ∃ a b, m56 i = nI a ∧ m56 j = nI b ∧ a ≤ b ∧ b ≤ t) ∧
  (∀ i, i < ns → ∃ e a b, e < ne ∧ m99 i = nI e ∧ m56 e = nI a ∧ m100 i = nI b ∧ a ≤ b ∧ b ≤ t) ∧
  (∀ c, c < 24 → ∃ v, v < 6 ∧ m146 c = nI v ∧ (4 ≤ v → c < nk ∧ m51 c = nI v))
def Ex (t nk ne ns : Nat) (M : gM) : Prop := (∀ k, k < nk → Xc t ne (M 50) (M 51) (M 52) (M 53) (M 55) (M 56) (M 57) (M 60) (M 61) k) ∧ Xg t nk ne ns (M 51) (M 55) (M 56) (M 60) (M 99) (M 100) (M 146)
def IE (n t nk ne ns : Nat) (M : gM) : Prop := (∃ nh nr nx, InvP t nh 2 nk ne nr nx ns n M) ∧ Ex t nk ne ns M
theorem IE.inv {n t nk ne ns : Nat} {M : gM} (h : IE n t nk ne ns M) : Inv n M := by
  obtain ⟨⟨nh, nr, nx, I⟩, -⟩ := h
  exact ⟨t, nh, 2, nk, ne, nr, nx, ns, I⟩
theorem jlast.up {m55 m57 : Nat → Int32} {ne j : Nat} {k K A : Int32} (h : jlast m55 m57 ne k j) (hA : A ≠ k ∨ K ≠ 5) : jlast (upd m55 ne K) (upd m57 ne A) (ne + 1) k j := by
  obtain ⟨h1, h2, h3, h4⟩ := h
  refine ⟨by omega, by rw [upd_lt h1]; exact h2, by rw [upd_lt h1]; exact h3, fun i i1 i2 q => ?_⟩
  rcases lt_sx i2 with hi | hi
  · rw [upd_lt hi, upd_lt hi] at q
    exact h4 i i1 hi q
  · subst hi
    rw [upd_eq, upd_eq] at q
    rcases hA with z | z
    · exact z q.2
    · exact z q.1
theorem jlast.nw {m55 m57 : Nat → Int32} {ne : Nat} {k : Int32} : jlast (upd m55 ne 5) (upd m57 ne k) (ne + 1) k ne :=
  ⟨by omega, upd_eq, upd_eq, fun i i1 i2 => by omega⟩
theorem olast.up {m55 m57 m61 m61' : Nat → Int32} {ne o : Nat} {k K A : Int32} (h : olast m55 m57 m61 ne k o) (hA : A ≠ k ∨ ordK K = false) (h61 : ∀ e, e < ne → m57 e = k → m61' e = m61 e) : olast (upd m55 ne K) (upd m57 ne A) m61' (ne + 1) k o := by
  obtain ⟨h1, h2, h3, h4, h5⟩ := h
  refine ⟨by omega, by rw [upd_lt h1]; exact h2, by rw [upd_lt h1]; exact h3, by rw [h61 o h1 h3]; exact h4, fun i i1 i2 q => ?_⟩
  rcases lt_sx i2 with hi | hi
  · rw [upd_lt hi, upd_lt hi] at q
    exact h5 i i1 hi ⟨q.1, q.2.1, by rw [← h61 i hi q.2.1]; exact q.2.2⟩
  · subst hi
    rw [upd_eq, upd_eq] at q
    rcases hA with z | z
    · exact z q.2.1
    · rw [z] at q
      exact absurd q.1 (by decide)
theorem olast.nw {m55 m57 m61 : Nat → Int32} {ne : Nat} {k K : Int32} (hK : ordK K = true) (hz : m61 ne = 0) : olast (upd m55 ne K) (upd m57 ne k) m61 (ne + 1) k ne :=
  ⟨by omega, by rw [upd_eq]; exact hK, upd_eq, hz, fun i i1 i2 => by omega⟩
/-- a claim that the new entry is not about, or by which no order and no judgement came -/
theorem Xc.ent {t ne k : Nat} {m50 m51 m52 m53 m55 m56 m57 m60 m61 m50' m51' m52' m53' m60' m61' : Nat → Int32} {K A D : Int32} (h : Xc t ne m50 m51 m52 m53 m55 m56 m57 m60 m61 k) (hA : A ≠ nI k ∨ (K ≠ 5 ∧ ordK K = false)) (e50 : m50' k = m50 k) (e51 : m51' k = m51 k) (e52 : m52' k = m52 k) (e53 : m53' k = m53 k) (e60 : ∀ e, e < ne → m60' e = m60 e) (e61 : ∀ e, e < ne → m57 e = nI k → m61' e = m61 e) : Xc t (ne + 1) m50' m51' m52' m53' (upd m55 ne K) (upd m56 ne D) (upd m57 ne A) m60' m61' k := by
  obtain ⟨⟨a, a1, a2, a3, a4⟩, h2, h3, h4⟩ := h
  refine ⟨⟨a, a1, a2, e50.trans a3, ?_⟩, by rw [e52]; exact h2, by rw [e51, e53]; exact h3, ?_⟩
  · rw [e51, e53]
    intro q
    obtain ⟨j, b, d, j1, j2, j3, j4, j5, j6, j7⟩ := a4 q
    exact ⟨j, b, d, j1.up (hA.imp id (fun z => z.1)), by rw [e60 j j1.1]; exact j2, j3, j4, j5, by rw [upd_lt j1.1]; exact j6, j7⟩
  · rw [e51, e53]
    intro q
    obtain ⟨o, o1, o2⟩ := h4 q
    exact ⟨o, o1.up (hA.imp id (fun z => z.2)) e61, by rw [upd_lt o1.1]; exact o2⟩
theorem Xg.ent {t nk ne ns : Nat} {m51 m55 m56 m60 m99 m100 m146 m51' m60' : Nat → Int32} {K : Int32} (h : Xg t nk ne ns m51 m55 m56 m60 m99 m100 m146) (hd : ∀ e, e < ne → ∃ d, d ≤ t ∧ m56 e = nI d) (e51 : ∀ k, k < nk → (m51 k = 4 ∨ m51 k = 5) → m51' k = m51 k) (e60 : ∀ e, e < ne → m60' e = m60 e) (hK : K = 4 ∨ K = 5 → ∃ x, 1 ≤ x ∧ x ≤ 99999 ∧ m60' ne = nI x) : Xg t nk (ne + 1) ns m51' (upd m55 ne K) (upd m56 ne (nI t)) m60' m99 m100 m146 := by
  obtain ⟨h1, h2, h3, h4⟩ := h
  refine ⟨fun e he q => ?_, fun i j hij hj => ?_, fun i hi => ?_, fun c hc => ?_⟩
  · rcases lt_sx he with he | he
    · rw [upd_lt he] at q
      rw [e60 e he]
      exact h1 e he q
    · subst he
      rw [upd_eq] at q
      exact hK q
  · rcases lt_sx hj with hj | hj
    · obtain ⟨a, b, x1, x2, x3, x4⟩ := h2 i j hij hj
      exact ⟨a, b, by rw [upd_lt (show i < ne by omega)]; exact x1, by rw [upd_lt hj]; exact x2, x3, x4⟩
    · subst hj
      by_cases q : i = j
      · subst q
        exact ⟨t, t, upd_eq, upd_eq, Nat.le_refl _, Nat.le_refl _⟩
      · obtain ⟨d, d1, d2⟩ := hd i (by omega)
        exact ⟨d, t, by rw [upd_lt (show i < j by omega)]; exact d2, upd_eq, d1, Nat.le_refl _⟩
  · obtain ⟨e, a, b, x1, x2, x3, x4, x5, x6⟩ := h3 i hi
    exact ⟨e, a, b, by omega, x2, by rw [upd_lt x1]; exact x3, x4, x5, x6⟩
  · obtain ⟨v, v1, v2, v3⟩ := h4 c hc
    refine ⟨v, v1, v2, fun q => ?_⟩
    obtain ⟨x1, x2⟩ := v3 q
    refine ⟨x1, (e51 c x1 ?_).trans x2⟩
    have : v = 4 ∨ v = 5 := by omega
    rcases this with z | z
    · left; rw [x2, z]; decide
    · right; rw [x2, z]; decide
/-- time goes on -/
theorem Xc.tm {t x ne k : Nat} {m50 m51 m52 m53 m55 m56 m57 m60 m61 : Nat → Int32} (h : Xc t ne m50 m51 m52 m53 m55 m56 m57 m60 m61 k) : Xc (t + x) ne m50 m51 m52 m53 m55 m56 m57 m60 m61 k := by
  obtain ⟨⟨a, a1, a2, a3, a4⟩, h2, h3, h4⟩ := h
  refine ⟨⟨a, a1, a2, a3, fun q => ?_⟩, h2, h3, h4⟩
  obtain ⟨j, b, d, j1, j2, j3, j4, j5, j6, j7⟩ := a4 q
  refine ⟨j, b, d, j1, j2, j3, j4, by omega, j6, fun z => ?_⟩
  obtain ⟨p, p1, p2⟩ := j7 z
  refine ⟨p, p1, Nat.lt_of_lt_of_le p2 (Nat.add_le_add_left (Nat.div_le_div_right (Nat.mul_le_mul_left a (Nat.div_le_div_right (by omega)))) a)⟩
theorem Xg.tm {t x nk ne ns : Nat} {m51 m55 m56 m60 m99 m100 m146 : Nat → Int32} (h : Xg t nk ne ns m51 m55 m56 m60 m99 m100 m146) : Xg (t + x) nk ne ns m51 m55 m56 m60 m99 m100 m146 := by
  obtain ⟨h1, h2, h3, h4⟩ := h
  refine ⟨h1, fun i j hij hj => ?_, fun i hi => ?_, h4⟩
  · obtain ⟨a, b, x1, x2, x3, x4⟩ := h2 i j hij hj
    exact ⟨a, b, x1, x2, x3, by omega⟩
  · obtain ⟨e, a, b, x1, x2, x3, x4, x5, x6⟩ := h3 i hi
    exact ⟨e, a, b, x1, x2, x3, x4, x5, by omega⟩
theorem Ex.tm {t x nk ne ns : Nat} {M : gM} (h : Ex t nk ne ns M) : Ex (t + x) nk ne ns M := ⟨fun k hk => (h.1 k hk).tm, h.2.tm⟩
/-- cells that stay -/
theorem Ex.eq {t nk ne ns : Nat} {M M1 : gM} (h : Ex t nk ne ns M) (e50 : M1 50 = M 50) (e51 : M1 51 = M 51) (e52 : M1 52 = M 52) (e53 : M1 53 = M 53) (e55 : M1 55 = M 55) (e56 : M1 56 = M 56) (e57 : M1 57 = M 57) (e60 : M1 60 = M 60) (e61 : M1 61 = M 61) (e99 : M1 99 = M 99) (e100 : M1 100 = M 100) (e146 : M1 146 = M 146) : Ex t nk ne ns M1 := by
  unfold Ex
  rw [e50, e51, e52, e53, e55, e56, e57, e60, e61, e99, e100, e146]
  exact h
theorem olast.lo {M : gM} {ne o : Nat} {k : Int32} (h : olast (M 55) (M 57) (M 61) ne k o) (hne : ne < 1000) : loV M ne k = nI o := by
  obtain ⟨h1, h2, h3, h4, h5⟩ := h
  refine lastP_at h1 ?_ (fun i i1 i2 => ?_)
  · unfold ordB
    rw [h2, decide_eq_true h3, decide_eq_true h4]
    rfl
  · cases c : ordB M k i with
    | false => rfl
    | true =>
      unfold ordB at c
      obtain ⟨c1, c2, c3⟩ := and3_t c
      exact absurd ⟨c1, of_decide_eq_true c2, of_decide_eq_true c3⟩ (h5 i i1 i2)
theorem jlast.ls {M : gM} {ne j : Nat} {k : Int32} (h : jlast (M 55) (M 57) ne k j) : lsV M ne 5 k = nI j := by
  obtain ⟨h1, h2, h3, h4⟩ := h
  refine lastP_at h1 ?_ (fun i i1 i2 => ?_)
  · rw [decide_eq_true h2, decide_eq_true h3]
    rfl
  · cases c : (decide (M 55 i = 5) && decide (M 57 i = k)) with
    | false => rfl
    | true =>
      rw [Bool.and_eq_true] at c
      exact absurd ⟨of_decide_eq_true c.1, of_decide_eq_true c.2⟩ (h4 i i1 i2)
/-- the balance of a claim that is WON -/
theorem owe {a t d : Nat} (ha : a ≤ 99999) (ht : t ≤ 900) (hd : d ≤ t) : nI a + nI a * ((nI t - nI d) / 30) / 100 = nI (a + a * ((t - d) / 30) / 100) := by
  have h1 : a * ((t - d) / 30) ≤ 99999 * 30 := Nat.mul_le_mul ha (by omega)
  rw [pk_sub hd, show (30 : Int32) = nI 30 from by decide, pk_div (by omega) (by omega) (by omega), pk_mul, show (100 : Int32) = nI 100 from by decide, pk_div (by omega) (by omega) (by omega), nI_add]
theorem owe_lt {a t d : Nat} (ha : a ≤ 99999) (ht : t ≤ 900) : a + a * ((t - d) / 30) / 100 ≤ 130000 := by
  have h1 : a * ((t - d) / 30) ≤ 99999 * 30 := Nat.mul_le_mul ha (by omega)
  omega
theorem bl_won {t nk ne ns : Nat} {M : gM} (h : Ex t nk ne ns M) (ht : t ≤ 900) (hne : ne < 1000) {k : Nat} (hk : k < nk) (h2 : M 51 k = 2) : ∃ b, 1 ≤ b ∧ b ≤ 130000 ∧ blV M t ne k = nI b ∧ ∃ a p d j, M 50 k = nI a ∧ M 53 k = nI p ∧ jlast (M 55) (M 57) ne (nI k) j ∧ M 56 j = nI d ∧ d ≤ t ∧ a ≤ 99999 ∧ p + b = a + a * ((t - d) / 30) / 100 := by
  obtain ⟨⟨a, a1, a2, a3, a4⟩, -⟩ := h.1 k hk
  obtain ⟨j, b, d, j1, j2, j3, j4, j5, j6, j7⟩ := a4 (Or.inl h2)
  obtain ⟨p, p1, p2⟩ := j7 h2
  have hlt := owe_lt (t := t) (d := d) a2 ht
  refine ⟨a + a * ((t - d) / 30) / 100 - p, by omega, by omega, ?_, a, p, d, j, a3, p1, j1, j6, j5, a2, by omega⟩
  unfold blV
  rw [if_pos h2, j1.ls]
  have hj := j1.1
  rw [nI_clamp (show j < 2 ^ 31 by omega), j6, a3, owe a2 ht j5, p1, pk_sub (by omega)]
theorem bl_no {t ne k : Nat} {M : gM} (h : ¬ M 51 k = 2) : blV M t ne k = 0 := if_neg h
