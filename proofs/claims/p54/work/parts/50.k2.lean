theorem Gd4.keep {nk ne t : Nat} {m50 m51 m52 m53 m55 m56 m57 m58 m60 m61 m127 m128 m129 : Nat → Int32} (h : Gd4 nk ne m50 m51 m52 m53 m55 m56 m57 m58 m60 m61 m127 m128 m129) {K A T x y z : Int32} {c : Nat} (hne : ne < 1000) (hnk : nk ≤ 24) (hc : c < nk) (hA : A = nI c) (hK : K = 0 ∨ K = 1 ∨ K = 2 ∨ K = 3) :
    Gd4 nk (ne + 1) m50 m51 m52 m53 (upd m55 ne K) (upd m56 ne (nI t)) (upd m57 ne A) (upd m58 ne T) m60 m61 (upd m127 ne x) (upd m128 ne y) (upd m129 ne z) := by
  have hst : ∀ q, fStep K (nI t) T q = q := by
    intro q
    unfold fStep
    rcases hK with h | h | h | h <;> rw [h] <;> rfl
  have n5 : ∀ {P : Prop}, (K = 4 ∨ K = 5) → P := by
    intro P w
    exfalso
    rcases hK with h | h | h | h <;> rw [h] at w <;> exact absurd w (by decide)
  refine h.ent hne hnk hc hA (fun j _ => ⟨rfl, rfl, rfl, rfl⟩) ?_ (fun _ _ _ => rfl) (fun w => Or.inl ⟨w, fun e => n5 (Or.inr e), rfl, fun _ _ => rfl⟩) (fun e he => ⟨rfl, upd_lt he, upd_lt he, upd_lt he⟩) (fun w => n5 w) (fun _ => rfl)
  rw [hst]
  exact h.1 c (by omega)
/-- the groups of an entry that changes no claim -/
theorem InvP.z61 {t nh nc nk ne nr nx ns n : Nat} {M : gM} (I : InvP t nh nc nk ne nr nx ns n M) : ∀ f, f < ne → M 55 f = 6 → (M 58 f).toNatClampNeg < ne := by
  intro f hf w
  obtain ⟨-, -, l1, l2, l3, l4, l5, l6, l7, l8⟩ := I.1
  obtain ⟨o, o1, o2, -⟩ := I.2.2.2.2.2.2.2.2.2.2.1.2.2.2.2.2.1 f hf w
  rw [o2, nI_clamp (by omega)]
  omega
theorem ls_ex {M : gM} {ne : Nat} {K k : Int32} (h : ¬ lsV M ne K k = -1) : ∃ s, s < ne ∧ M 55 s = K ∧ M 57 s = k := by
  rcases ls_dom M ne K k with q | ⟨e, h1, h2, h3, h4, -⟩
  · exact absurd q h
  · exact ⟨e, h1, h3, h4⟩
theorem un_serve {M : gM} {t ne k : Nat} (h : unB M t ne k = true) : M 51 k = 0 ∧ ∃ s, s < ne ∧ M 55 s = 0 ∧ M 57 s = nI k := by
  unfold unB at h
  rw [Bool.and_eq_true, Bool.and_eq_true] at h
  refine ⟨of_decide_eq_true h.1, ls_ex (fun q => ?_)⟩
  rw [decide_eq_true q] at h
  exact absurd h.2.1 (by decide)
theorem un_mop {M : gM} {t ne k : Nat} (h : unB M t ne k = true) : mopB M t ne (nI k) = false := by
  unfold unB at h
  rw [Bool.and_eq_true, Bool.and_eq_true, Bool.and_eq_true] at h
  have := h.2.2.2
  revert this
  cases mopB M t ne (nI k) with
  | true => intro q; cases q
  | false => intro _; rfl
theorem st_answer : St_answer Inv := by
  intro n M a hn hI
  obtain ⟨t, nh, nc, nk, ne, nr, nx, ns, I⟩ := hI
  obtain ⟨⟨a1, a2, a3, a4, a5, a6, a7, a8⟩, ⟨b1, b2, b3, b4, b5, b6, b7⟩, l1, l2, l3, l4, l5, l6, l7, l8⟩ := I.1
  have gr := I.2.2.1.2.2
  have e104 : M 104 = M 14 := I.2.2.1.2.1
  rcases idx_cases a nk (by omega) with ⟨k, hk, rfl⟩ | hb
  · have k8 : f_X8_answer M (nI k) = if caB M t ne k then f_X8_answer_b34 M (nI k) 1 else f_X8_answer_b34 M (nI k) 0 := by
      unfold f_X8_answer f_X8_answer_b33 caB
      rw [c8_Claim a4 hk (by omega), rb_ret, e_un8 I hk, rb_ret]
      cases hu : unB M t ne k with
      | false => rfl
      | true =>
        rw [if_pos rfl, if_neg i10, e_aStart I, rb_ret, e_lateA I (by omega) hk (un_mop hu), rb_ret]
        rcases paV_z t (adV M t ne (nI k)) with z | z
        · rw [z]; rfl
        · rw [z]; rfl
    have no : (ne < 160 → caB M t ne k = false) → AgI (f_L_answer M (nI k)) (fun M1 => f_X9_answer M1 (nI k)) (Inv (n + 1)) := by
      intro h
      refine agI_no (k := 2) ?_ (by decide) (b := 0) ?_ (inv_no I)
      · have : f_X8_answer M (nI k) = rThr 2 M := by
          rw [k8]
          unfold f_X8_answer_b34
          by_cases c : ne < 160
          · rw [h c, if_neg (by decide), e_allow0, rb_thr]
          · rw [e_allowF a5 c (by omega), e_allowF a5 c (by omega), rb_thr, ite_self]
        unfold f_L_answer
        rw [this, rc_thr]
        rfl
      · unfold f_X9_answer
        rw [c9_Claim b4 hk (by omega), rb_ret, if_neg i10, e_can9 I (Rf.rfl M) (by omega) hk, rb_ret]
        have : (if ne < 160 then if caB M t ne k = true then (1 : Int32) else 0 else 0) = 0 := by
          by_cases c : ne < 160
          · rw [if_pos c, h c]; rfl
          · rw [if_neg c]
        rw [this, if_pos rfl]
        unfold f_X9_answer_b28
        rw [rf_2, rb_ret, if_neg i10]
    by_cases c0 : ne < 160
    · cases cc : caB M t ne k with
      | false => exact no (fun _ => cc)
      | true =>
        obtain ⟨h51, s, s1, s2, s3⟩ := un_serve (show unB M t ne k = true by
          unfold caB at cc
          rw [Bool.and_eq_true] at cc
          exact cc.1)
        refine agI_ok (v := nI ne) (M1 := en8 M ne t 1 (nI k) 0 0) (M2 := gset (gset (gset (gset (en9 (gset (gset (en8 M ne t 1 (nI k) 0 0) 10 0 (nI ne)) 9 0 0) ne t 1 (nI k) 0 0 3) 127 ne (M 112 k)) 128 ne (M 113 k)) 129 ne (M 114 k)) 9 23 (nI (ne + 1))) ?_ ?_ rfl rfl ?_
        · unfold f_L_answer
          rw [k8, cc, if_pos rfl]
          unfold f_X8_answer_b34
          rw [e_allow a5 c0, rb_ret, e_en8n a5 a1 c0 _ _ _ (Or.inl rfl), rb_ret, rc_ret]
        · have R : Rf (gset (en8 M ne t 1 (nI k) 0 0) 10 0 (nI ne)) M := ((((((((Rf.rfl M).s (by omega) (by omega) _ _).s (by omega) (by omega) _ _).s (by omega) (by omega) _ _).s (by omega) (by omega) _ _).s (by omega) (by omega) _ _).s (by omega) (by omega) _ _).s (by omega) (by omega) _ _).o _
          unfold f_X9_answer
          rw [c9_Claim (M := gset (en8 M ne t 1 (nI k) 0 0) 10 0 (nI ne)) b4 hk (by omega), rb_ret, if_neg i10, e_can9 I R (by omega) hk, rb_ret, if_pos c0, cc, if_pos rfl, if_neg i10]
          unfold f_X9_answer_b28
          rw [rf_0, rb_ret, if_pos rfl, e_en9 (K := 1) (M := gset (gset (en8 M ne t 1 (nI k) 0 0) 10 0 (nI ne)) 9 0 0) b5 b1 c0 (show k < 24 by omega) _ _ (by decide) (show z01 (M 104 3) by rw [e104]; exact (gr 3 (by omega)).2), rb_ret]
          rfl
        · have z6 := I.z61
          obtain ⟨g1, g2, g3, g4, g5, g6, g7, g8, g9, g10, g11, g12, g13, g14⟩ := I
          exact ⟨t, nh, nc, nk, ne + 1, nr, nx, ns, ⟨⟨a1, a2, a3, a4, rfl, a6, a7, a8⟩, ⟨b1, b2, b3, b4, rfl, b6, b7⟩, l1, l2, l3, l4, c0, l6, l7, (Nat.le_succ_of_le l8)⟩, g2, g3, g4.add (by decide), g5, g6.ent0 (by decide), g7, g8, g9, g10,
            g11.ent (by omega) ⟨1, by omega, rfl, fun h => absurd h (by omega), fun _ => ⟨k, hk, rfl⟩⟩ (fun h => absurd h (by decide)) (fun h => absurd h (by decide)) (fun h => absurd h (by decide)) (fun _ => rfl) (fun h => absurd h (by decide)) (fun _ => rfl) (fun _ => ⟨s, s1, s2, s3⟩) g11.1.2.2.2.2.2,
            g12.ent _, g13.ent (by omega) (fun _ _ => rfl) (fun _ _ => rfl) (fun e => (g13.2.1 e).1) (show z01 (M 104 3) by rw [e104]; exact (gr 3 (by omega)).2) (fun h => absurd h (by unfold kdD; decide)) (fun h => absurd h (by decide)) (fun h => absurd h (by decide)) (fun h => absurd h (by decide)) z6,
            g14.keep (by omega) l4 hk rfl (Or.inr (Or.inl rfl))⟩
    · exact no (fun h => absurd h c0)
  · refine agI_no (k := 1) ?_ (by decide) (b := 0) ?_ (inv_no I)
    · unfold f_L_answer f_X8_answer
      rw [n8_Claim a4 hb, rb_thr, rc_thr]
      rfl
    · unfold f_X9_answer
      rw [n9_Claim b4 (by omega) hb, rb_ret, if_pos rfl]
      unfold f_X9_answer_b28
      rw [rf_1, rb_ret, if_neg i10]
