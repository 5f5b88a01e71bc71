/-! ===== Ex behind an entry ===== -/
theorem Ex.entC {t nk ne ns c : Nat} {M M1 : gM} {K : Int32} (hE : Ex t nk ne ns M) (hd : ∀ e, e < ne → ∃ d, d ≤ t ∧ M 56 e = nI d) (hc : c < nk) (hnk : nk ≤ 24) (e55 : M1 55 = upd (M 55) ne K) (e56 : M1 56 = upd (M 56) ne (nI t)) (e57 : M1 57 = upd (M 57) ne (nI c))
    (eo : ∀ k, k < nk → k ≠ c → M1 50 k = M 50 k ∧ M1 51 k = M 51 k ∧ M1 52 k = M 52 k ∧ M1 53 k = M 53 k) (e60 : ∀ e, e < ne → M1 60 e = M 60 e) (e61 : ∀ e, e < ne → ¬ M 57 e = nI c → M1 61 e = M 61 e) (e99 : M1 99 = M 99) (e100 : M1 100 = M 100) (e146 : M1 146 = M 146)
    (hK : K = 4 ∨ K = 5 → ∃ x, 1 ≤ x ∧ x ≤ 99999 ∧ M1 60 ne = nI x) (h51 : (M 51 c = 4 ∨ M 51 c = 5) → M1 51 c = M 51 c) (hX : Xc t (ne + 1) (M1 50) (M1 51) (M1 52) (M1 53) (M1 55) (M1 56) (M1 57) (M1 60) (M1 61) c) : Ex t nk (ne + 1) ns M1 := by
  refine ⟨fun k hk => ?_, ?_⟩
  · by_cases q : k = c
    · subst q
      exact hX
    · obtain ⟨o1, o2, o3, o4⟩ := eo k hk q
      rw [e55, e56, e57]
      have hne : nI c ≠ nI k := fun z => q ((nI_eq (by omega) (by omega)).mp z).symm
      exact (hE.1 k hk).ent (Or.inl hne) o1 o2 o3 o4 e60 (fun e he z => e61 e he (fun y => hne (y.symm.trans z)))
  · rw [e55, e56, e99, e100, e146]
    refine hE.2.ent hd (fun k hk z => ?_) e60 hK
    by_cases q : k = c
    · subst q
      exact h51 z
    · exact (eo k hk q).2.1
theorem Ex.ent0 {t nk ne ns : Nat} {M M1 : gM} {K A : Int32} (hE : Ex t nk ne ns M) (hd : ∀ e, e < ne → ∃ d, d ≤ t ∧ M 56 e = nI d) (hK5 : K ≠ 5) (hK4 : K ≠ 4) (hKo : ordK K = false) (e55 : M1 55 = upd (M 55) ne K) (e56 : M1 56 = upd (M 56) ne (nI t)) (e57 : M1 57 = upd (M 57) ne A) (e50 : M1 50 = M 50) (e51 : M1 51 = M 51) (e52 : M1 52 = M 52) (e53 : M1 53 = M 53) (e60 : M1 60 = M 60) (e61 : M1 61 = M 61) (e99 : M1 99 = M 99) (e100 : M1 100 = M 100) (e146 : M1 146 = M 146) : Ex t nk (ne + 1) ns M1 := by
  refine ⟨fun k hk => ?_, ?_⟩
  · rw [e55, e56, e57, e50, e51, e52, e53, e60, e61]
    exact (hE.1 k hk).ent (Or.inr ⟨hK5, hKo⟩) rfl rfl rfl rfl (fun _ _ => rfl) (fun _ _ _ => rfl)
  · rw [e55, e56, e99, e100, e146, e51, e60]
    exact hE.2.ent hd (fun _ _ _ => rfl) (fun _ _ => rfl) (fun q => q.elim (fun z => absurd z hK4) (fun z => absurd z hK5))
theorem IE.days {n t nk ne ns : Nat} {M : gM} (h : IE n t nk ne ns M) : ∀ e, e < ne → ∃ d, d ≤ t ∧ M 56 e = nI d := by
  obtain ⟨⟨nh, nr, nx, I⟩, -⟩ := h
  intro e he
  obtain ⟨k, d, h1, h2, h3, h4, -⟩ := I.2.2.2.2.2.2.2.2.2.2.1.2.1 e he
  exact ⟨d, h2, h4⟩
/-- the world behind an entry: what is left to say is Ex -/
theorem IE.ent {n t nk ne ns : Nat} {M M1 E : gM} (h : IE n t nk ne ns M) (hn : n < 512) (c0 : ne < 160) (hI : Inv (n + 1) M1) (hA : Ag M1 E) (e1 : E 1 = M 1) (e2 : E 2 = M 2) (e3 : E 3 = M 3) (e4 : E 4 0 = nI (ne + 1)) (e8 : E 8 = M 8) (hE : Ex t nk (ne + 1) ns M1) : IE (n + 1) t nk (ne + 1) ns M1 := by
  obtain ⟨⟨nh, nr, nx, I⟩, -⟩ := h
  obtain ⟨⟨a1, a2, a3, a4, a5, a6, a7, a8⟩, -, l1, l2, l3, l4, l5, l6, l7, l8⟩ := I.1
  exact IE.of hI (by rw [hA 1 (by decide), e1]; exact a1) (by rw [hA 2 (by decide), e2]; exact a3) (by rw [hA 3 (by decide), e3]; exact a4) (by rw [hA 4 (by decide)]; exact e4) (by rw [hA 8 (by decide), e8]; exact a8) l1 l4 (by omega) (by omega) (by omega) hE
/-! ===== the steps ===== -/
def NOT : Int64 := -9000000000000000003
theorem caB_51 {M : gM} {t ne k : Nat} (h : caB M t ne k = true) : M 51 k = 0 := by
  unfold caB at h
  rw [Bool.and_eq_true] at h
  exact (un_serve h.1).1
/-- a SERVE -/
theorem s_serve {n t nk ne ns : Nat} {M : gM} (h : IE n t nk ne ns M) (hn : n < 512) {k w : Nat} (hk : k < nk) (hw : w < 3) : (f_W_serve M (nI k) (nI w) = qRet (-9000000000000000003) M ∧ ¬ (ne < 160 ∧ seB M ne k = true)) ∨ ∃ M1, f_W_serve M (nI k) (nI w) = qRet (lN ne) M1 ∧ Ag M1 (E_serve M t ne k w) ∧ IE (n + 1) t nk (ne + 1) ns M1 := by
  obtain ⟨⟨nh, nr, nx, I⟩, hE⟩ := h
  obtain ⟨-, -, l1, l2, l3, l4, l5, l6, l7, l8⟩ := I.1
  have ho := o_serve I hk hw
  by_cases c : ne < 160 ∧ seB M ne k = true
  · rw [if_pos c] at ho
    obtain ⟨M1, m1, m2, m3⟩ := w_serve hn (IE.inv ⟨⟨nh, nr, nx, I⟩, hE⟩) ho
    refine Or.inr ⟨M1, by rw [m1, nI_l (by omega)], m2, IE.ent ⟨⟨nh, nr, nx, I⟩, hE⟩ hn c.1 m3 m2 rfl rfl rfl rfl rfl ?_⟩
    exact hE.ent0 (IE.days ⟨⟨nh, nr, nx, I⟩, hE⟩) (K := 0) (by decide) (by decide) (by decide) (m2 55 (by decide)) (m2 56 (by decide)) (m2 57 (by decide)) (m2 50 (by decide)) (m2 51 (by decide)) (m2 52 (by decide)) (m2 53 (by decide)) (m2 60 (by decide)) (m2 61 (by decide)) (m2 99 (by decide)) (m2 100 (by decide)) (m2 146 (by decide))
  · rw [if_neg c] at ho
    exact Or.inl ⟨x2_serve ho, c⟩
theorem s_answer {n t nk ne ns : Nat} {M : gM} (h : IE n t nk ne ns M) (hn : n < 512) {k : Nat} (hk : k < nk) : (f_W_answer M (nI k) = qRet (-9000000000000000003) M ∧ ¬ (ne < 160 ∧ caB M t ne k = true)) ∨ ∃ M1, f_W_answer M (nI k) = qRet (lN ne) M1 ∧ Ag M1 (en8 M ne t 1 (nI k) 0 0) ∧ IE (n + 1) t nk (ne + 1) ns M1 ∧ caB M t ne k = true := by
  obtain ⟨⟨nh, nr, nx, I⟩, hE⟩ := h
  obtain ⟨-, -, l1, l2, l3, l4, l5, l6, l7, l8⟩ := I.1
  have ho := o_answer I (by omega) hk
  by_cases c : ne < 160 ∧ caB M t ne k = true
  · rw [if_pos c] at ho
    obtain ⟨M1, m1, m2, m3⟩ := w_answer hn (IE.inv ⟨⟨nh, nr, nx, I⟩, hE⟩) ho
    refine Or.inr ⟨M1, by rw [m1, nI_l (by omega)], m2, IE.ent ⟨⟨nh, nr, nx, I⟩, hE⟩ hn c.1 m3 m2 rfl rfl rfl rfl rfl ?_, c.2⟩
    exact hE.ent0 (IE.days ⟨⟨nh, nr, nx, I⟩, hE⟩) (K := 1) (by decide) (by decide) (by decide) (m2 55 (by decide)) (m2 56 (by decide)) (m2 57 (by decide)) (m2 50 (by decide)) (m2 51 (by decide)) (m2 52 (by decide)) (m2 53 (by decide)) (m2 60 (by decide)) (m2 61 (by decide)) (m2 99 (by decide)) (m2 100 (by decide)) (m2 146 (by decide))
  · rw [if_neg c] at ho
    exact Or.inl ⟨x2_answer ho, c⟩
theorem s_motion {n t nk ne ns : Nat} {M : gM} (h : IE n t nk ne ns M) (hn : n < 512) {k : Nat} (hk : k < nk) : (f_W_motion M (nI k) = qRet (-9000000000000000003) M ∧ ¬ (ne < 160 ∧ caB M t ne k = true)) ∨ ∃ M1, f_W_motion M (nI k) = qRet (lN ne) M1 ∧ Ag M1 (E_motion M t ne k) ∧ IE (n + 1) t nk (ne + 1) ns M1 ∧ caB M t ne k = true := by
  obtain ⟨⟨nh, nr, nx, I⟩, hE⟩ := h
  obtain ⟨-, -, l1, l2, l3, l4, l5, l6, l7, l8⟩ := I.1
  have ho := o_motion I (by omega) hk
  by_cases c : ne < 160 ∧ caB M t ne k = true
  · rw [if_pos c] at ho
    obtain ⟨M1, m1, m2, m3⟩ := w_motion hn (IE.inv ⟨⟨nh, nr, nx, I⟩, hE⟩) ho
    refine Or.inr ⟨M1, by rw [m1, nI_l (by omega)], m2, IE.ent ⟨⟨nh, nr, nx, I⟩, hE⟩ hn c.1 m3 m2 rfl rfl rfl rfl rfl ?_, c.2⟩
    exact hE.ent0 (IE.days ⟨⟨nh, nr, nx, I⟩, hE⟩) (K := 2) (by decide) (by decide) (by decide) (m2 55 (by decide)) (m2 56 (by decide)) (m2 57 (by decide)) (m2 50 (by decide)) (m2 51 (by decide)) (m2 52 (by decide)) (m2 53 (by decide)) (m2 60 (by decide)) (m2 61 (by decide)) (m2 99 (by decide)) (m2 100 (by decide)) (m2 146 (by decide))
  · rw [if_neg c] at ho
    exact Or.inl ⟨x2_motion ho, c⟩
theorem s_respond {n t nk ne ns : Nat} {M : gM} (h : IE n t nk ne ns M) (hn : n < 512) {m : Nat} (hm : m < ne) (m2 : M 55 m = 2) : (f_W_respond M (nI m) = qRet (-9000000000000000003) M ∧ ¬ (ne < 160 ∧ reB M t ne m = true)) ∨ ∃ M1, f_W_respond M (nI m) = qRet (lN ne) M1 ∧ Ag M1 (en8 M ne t 3 (M 57 m) (nI m) 0) ∧ IE (n + 1) t nk (ne + 1) ns M1 := by
  obtain ⟨⟨nh, nr, nx, I⟩, hE⟩ := h
  obtain ⟨-, -, l1, l2, l3, l4, l5, l6, l7, l8⟩ := I.1
  have ho := o_respond I (by omega) hm m2
  by_cases c : ne < 160 ∧ reB M t ne m = true
  · rw [if_pos c] at ho
    obtain ⟨M1, m1, m2, m3⟩ := w_respond hn (IE.inv ⟨⟨nh, nr, nx, I⟩, hE⟩) ho
    refine Or.inr ⟨M1, by rw [m1, nI_l (by omega)], m2, IE.ent ⟨⟨nh, nr, nx, I⟩, hE⟩ hn c.1 m3 m2 rfl rfl rfl rfl rfl ?_⟩
    exact hE.ent0 (IE.days ⟨⟨nh, nr, nx, I⟩, hE⟩) (K := 3) (by decide) (by decide) (by decide) (m2 55 (by decide)) (m2 56 (by decide)) (m2 57 (by decide)) (m2 50 (by decide)) (m2 51 (by decide)) (m2 52 (by decide)) (m2 53 (by decide)) (m2 60 (by decide)) (m2 61 (by decide)) (m2 99 (by decide)) (m2 100 (by decide)) (m2 146 (by decide))
  · rw [if_neg c] at ho
    exact Or.inl ⟨x2_respond ho, c⟩
