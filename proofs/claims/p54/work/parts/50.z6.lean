theorem due_v {t nh nc nk ne nr nx ns n : Nat} {M : gM} (I : InvP t nh nc nk ne nr nx ns n M) (hn : n ≤ 512) {s a st v : Int32} (h1 : f_X8_checkDeadline M s a = rRet 0 M) (h2 : f_X8_startOf M s a = rRet st M) (h5 : (st = -1 ∧ v = -1) ∨ ∃ e, e < ne ∧ st = nI e ∧ ((s ≠ 3 ∧ kdD (M 55 e) ∧ v = duV M ne e) ∨ (s = 3 ∧ M 65 e ≠ -1 ∧ v = cuV M ne e))) : f_X8_due M s a = rRet v M ∧ f_X8_dueByDays M s a = rRet v M := by
  obtain ⟨⟨a1, a2, a3, a4, a5, a6, a7, a8⟩, ⟨b1, b2, b3, b4, b5, b6, b7⟩, l1, l2, l3, l4, l5, l6, l7, l8⟩ := I.1
  constructor
  · unfold f_X8_due
    rw [h1, rb_ret, h2, rb_ret]
    rcases h5 with ⟨rfl, rfl⟩ | ⟨e, e1, rfl, ⟨e2, e3, rfl⟩ | ⟨e2, e3, rfl⟩⟩
    · rw [if_pos rfl]
    · rw [if_neg (m1_ne (by omega)), if_neg e2, e_due8 I (by omega) e1 e3, rb_ret]
    · rw [if_neg (m1_ne (by omega)), if_pos e2, e_cure8 I e1 e3, rb_ret]
  · unfold f_X8_dueByDays
    rw [h1, rb_ret, h2, rb_ret]
    rcases h5 with ⟨rfl, rfl⟩ | ⟨e, e1, rfl, e2⟩
    · rw [if_pos rfl]
    · have hg : ∀ F : gR, gI (nI e) 160 F = F := fun F => gI_nI (by omega) (by omega)
      have hc : (nI e).toNatClampNeg = e := nI_clamp (by omega)
      have go : ∀ (k c : Nat) (F : Int32 → Int32 → gR), k < nk → c < nc → M 57 e = nI k → M 47 k = nI c → gI (nI e) 160 (gI (M 57 (nI e).toNatClampNeg) 24 (bV (M 47 (M 57 (nI e).toNatClampNeg).toNatClampNeg) (fun x5 => gI x5 8 (bV (M 26 x5.toNatClampNeg) (fun x6 => F x5 x6))))) = F (nI c) (M 26 c) := by
        intro k c F k1 c1 q1 q2
        rw [hg, hc, q1, gI_nI (show k < 24 by omega) (by omega), nI_clamp (show k < 2 ^ 31 by omega), q2]
        simp only [bV]
        rw [gI_nI (show c < 8 by omega) (by omega), nI_clamp (show c < 2 ^ 31 by omega)]
      rw [if_neg (m1_ne (by omega))]
      rcases e2 with ⟨e2, e3, rfl⟩ | ⟨e2, e3, rfl⟩
      · obtain ⟨k, c, d, k1, c1, d1, e57, e47, e56⟩ := I.ent e1 (kdD_lt e3)
        obtain ⟨⟨x, x1, x2, x3⟩, -⟩ := I.2.2.2.2.2.2.2.2.2.2.2.2.1.1 e e1 e3
        rw [go k c _ k1 c1 e57 e47, if_neg e2, hg, hg, hg, hc, e56, x3, e_byD I l3 l5 l2 c1 (by omega) (by omega), rb_ret]
        unfold duV clC
        rw [e57, nI_clamp (show k < 2 ^ 31 by omega), e47, e56, x3, nI_clamp (show c < 2 ^ 31 by omega), nI_clamp (show d < 2 ^ 31 by omega), nI_clamp (show x < 2 ^ 31 by omega)]
      · rcases (I.2.2.2.2.2.2.2.2.2.2.2.1.2.2.1 e e1).2 with q | ⟨⟨b, b1, b2⟩, b3, x, x1, x2, x3⟩
        · exact absurd q e3
        · obtain ⟨k, c, d, k1, c1, d1, e57, e47, e56⟩ := I.ent e1 (by rcases b3 with h | h | h <;> rw [h] <;> decide)
          rw [go k c _ k1 c1 e57 e47, if_pos e2, hg, hg, hg, hc, b2, x3, e_byD I l3 l5 l2 c1 (by omega) (by omega), rb_ret]
          unfold cuV clC
          rw [e57, nI_clamp (show k < 2 ^ 31 by omega), e47, b2, x3, nI_clamp (show c < 2 ^ 31 by omega), nI_clamp (show b < 2 ^ 31 by omega), nI_clamp (show x < 2 ^ 31 by omega)]
/-- where a deadline for an answer begins -/
theorem st0 {t nh nc nk ne nr nx ns n : Nat} {M : gM} (I : InvP t nh nc nk ne nr nx ns n M) {k : Nat} (hk : k < nk) : f_X8_checkDeadline M 0 (nI k) = rRet 0 M ∧ f_X8_startOf M 0 (nI k) = rRet (if mopB M t ne (nI k) then -1 else asV M ne (nI k)) M := by
  obtain ⟨⟨a1, a2, a3, a4, a5, a6, a7, a8⟩, -, l1, l2, l3, l4, l5, l6, l7, l8⟩ := I.1
  constructor
  · unfold f_X8_checkDeadline
    rw [if_neg (by decide), if_pos (by decide), if_neg (by decide), if_neg (by decide), c8_Claim a4 hk (by omega), rb_ret]
  · unfold f_X8_startOf
    rw [if_pos rfl, e_mop8 I, rb_ret, e_aStart I, rb_ret]
    cases mopB M t ne (nI k) with
    | true => rfl
    | false => rfl
theorem as_kd {M : gM} {ne : Nat} {k : Int32} : asV M ne k = -1 ∨ ∃ e, e < ne ∧ asV M ne k = nI e ∧ M 57 e = k ∧ kdD (M 55 e) ∧ ∀ f, f < ne → asB M k f = true → f ≤ e := by
  rcases as_dom M ne k with h | ⟨e, h1, h2, h3, h4, h5⟩
  · exact Or.inl h
  · refine Or.inr ⟨e, h1, h2, h3, ?_, h5⟩
    rcases h4 with h | h | h
    · exact Or.inl h
    · exact Or.inr (Or.inr (Or.inl h))
    · exact Or.inr (Or.inr (Or.inr (Or.inr (Or.inl h))))
theorem due0 {t nh nc nk ne nr nx ns n : Nat} {M : gM} (I : InvP t nh nc nk ne nr nx ns n M) (hn : n ≤ 512) {k : Nat} (hk : k < nk) : f_X8_due M 0 (nI k) = rRet (adV M t ne (nI k)) M ∧ f_X8_dueByDays M 0 (nI k) = rRet (adV M t ne (nI k)) M := by
  obtain ⟨-, -, l1, l2, l3, l4, l5, l6, l7, l8⟩ := I.1
  obtain ⟨h1, h2⟩ := st0 I hk
  refine due_v I hn h1 h2 ?_
  unfold adV
  cases hm : mopB M t ne (nI k) with
  | true =>
    refine Or.inl ⟨rfl, ?_⟩
    by_cases c : asV M ne (nI k) = -1
    · rw [if_pos c]
    · rw [if_neg c, if_pos rfl]
  | false =>
    rcases as_kd (M := M) (ne := ne) (k := nI k) with h | ⟨e, h1, h2, h3, h4, h5⟩
    · refine Or.inl ⟨h, ?_⟩
      rw [if_pos h]
    · refine Or.inr ⟨e, h1, h2, Or.inl ⟨by decide, h4, ?_⟩⟩
      rw [h2, if_neg (m1_ne (by omega)), nI_clamp (show e < 2 ^ 31 by omega)]
      rfl
theorem due2 {t nh nc nk ne nr nx ns n : Nat} {M : gM} (I : InvP t nh nc nk ne nr nx ns n M) (hn : n ≤ 512) {k : Nat} (hk : k < nk) : f_X8_due M 2 (nI k) = rRet (epV M ne k) M ∧ f_X8_dueByDays M 2 (nI k) = rRet (epV M ne k) M := by
  obtain ⟨⟨a1, a2, a3, a4, a5, a6, a7, a8⟩, -, l1, l2, l3, l4, l5, l6, l7, l8⟩ := I.1
  have hg : ∀ F : gR, gI (nI k) 24 F = F := fun F => gI_nI (by omega) (by omega)
  have hc : (nI k).toNatClampNeg = k := nI_clamp (by omega)
  refine due_v I hn (st := if M 51 k = 2 then apV M ne (nI k) else -1) ?_ ?_ ?_
  · unfold f_X8_checkDeadline
    rw [if_neg (by decide), if_pos (by decide), if_neg (by decide), if_neg (by decide), c8_Claim a4 hk (by omega), rb_ret]
  · unfold f_X8_startOf
    rw [if_neg (by decide), if_neg (by decide), if_pos rfl, hg, hc, e_apStart a5 l5, rb_ret]
    by_cases c : M 51 k = 2
    · rw [if_pos c, if_pos c]
    · rw [if_neg c, if_neg c]
  · unfold epV
    by_cases c : M 51 k = 2
    · rw [if_pos c, if_pos c]
      obtain ⟨e, e1, e2, e3, e4, -⟩ := ap_dom I hk c
      refine Or.inr ⟨e, e1, e2, Or.inl ⟨by decide, ?_, ?_⟩⟩
      · rcases e4 with h | h
        · exact Or.inr (Or.inr (Or.inr (Or.inl h)))
        · exact Or.inr (Or.inr (Or.inr (Or.inr (Or.inr h))))
      · rw [e2, nI_clamp (show e < 2 ^ 31 by omega)]
    · rw [if_neg c, if_neg c]
      exact Or.inl ⟨rfl, rfl⟩
theorem due3 {t nh nc nk ne nr nx ns n : Nat} {M : gM} (I : InvP t nh nc nk ne nr nx ns n M) (hn : n ≤ 512) {i : Nat} (hi : i < ne) : f_X8_due M 3 (nI i) = rRet (if M 65 i = -1 then -1 else cuV M ne i) M := by
  obtain ⟨⟨a1, a2, a3, a4, a5, a6, a7, a8⟩, -, l1, l2, l3, l4, l5, l6, l7, l8⟩ := I.1
  refine (due_v I hn (st := if M 65 i = -1 then -1 else nI i) ?_ ?_ ?_).1
  · unfold f_X8_checkDeadline
    rw [if_neg (by decide), if_pos (by decide), if_neg (by decide), if_pos rfl, c8_Entry a5 hi (by omega), rb_ret]
  · unfold f_X8_startOf
    rw [if_neg (by decide), if_neg (by decide), if_neg (by decide), e_hasD (by omega), rb_ret]
    by_cases c : M 65 i = -1
    · rw [if_pos c, if_pos c, if_pos rfl]
    · rw [if_neg c, if_neg c, if_neg i10]
  · by_cases c : M 65 i = -1
    · rw [if_pos c, if_pos c]
      exact Or.inl ⟨rfl, rfl⟩
    · rw [if_neg c, if_neg c]
      exact Or.inr ⟨i, hi, rfl, Or.inr ⟨rfl, c, rfl⟩⟩
/-- an extension of a deadline for an answer -/
theorem n_extend {t nh nc nk ne nr nx ns n : Nat} {M : gM} (I : InvP t nh nc nk ne nr nx ns n M) (hn : n ≤ 512) {k x : Nat} (hk : k < nk) (x1 : 1 ≤ x) (x2 : x ≤ 60) (h : adV M t ne (nI k) = -1 ∨ ¬ paV t (adV M t ne (nI k)) = 0) : f_X8_extend M 0 (nI k) (nI x) = rThr 2 M := by
  obtain ⟨⟨a1, a2, a3, a4, a5, a6, a7, a8⟩, -, l1, l2, l3, l4, l5, l6, l7, l8⟩ := I.1
  obtain ⟨h1, h2⟩ := st0 I hk
  rw [l8_extend (by decide) h1 h2, c8_Days x1 x2, rb_ret, h2, rb_ret]
  unfold adV at h
  cases hm : mopB M t ne (nI k) with
  | true =>
    rw [if_pos rfl, if_pos rfl]
    unfold f_X8_extend_b51
    rw [if_pos rfl]
  | false =>
    rw [if_neg (show ¬ (false = true) by decide)]
    rcases as_kd (M := M) (ne := ne) (k := nI k) with hq | ⟨e, e1, e2, e3, e4, e5⟩
    · rw [hq, if_pos rfl]
      unfold f_X8_extend_b51
      rw [if_pos rfl]
    · have hm1 : ¬ nI e = -1 := m1_ne (by omega)
      rw [e2, if_neg hm1, hm, if_neg (show ¬ (false = true) by decide), nI_clamp (show e < 2 ^ 31 by omega)] at h
      rw [e2, if_neg hm1, e_due8 I hn e1 e4, rb_ret]
      unfold f_X8_extend_b51
      rw [if_neg hm1]
      rcases h with h | h
      · rw [h, if_pos rfl]
      · by_cases q : duV M ne e = -1
        · rw [if_pos q]
        · rw [if_neg q, e_past8 a1, rb_ret, if_neg h]
theorem o_extend {t nh nc nk ne nr nx ns n : Nat} {M : gM} (I : InvP t nh nc nk ne nr nx ns n M) (hn : n ≤ 512) {k x : Nat} (hk : k < nk) (x1 : 1 ≤ x) (x2 : x ≤ 60) (h1 : ¬ adV M t ne (nI k) = -1) (h2 : paV t (adV M t ne (nI k)) = 0) : ∃ e v, e < ne ∧ f_X8_extend M 0 (nI k) (nI x) = rRet v (gset M 63 e (M 63 e + nI x)) ∧ (v = -1 ∨ ∃ p q, adV M t ne (nI k) = nI p ∧ v = nI q ∧ p ≤ q ∧ q ≤ 1400) := by
  obtain ⟨⟨a1, a2, a3, a4, a5, a6, a7, a8⟩, -, l1, l2, l3, l4, l5, l6, l7, l8⟩ := I.1
  obtain ⟨s1, s2⟩ := st0 I hk
  unfold adV at h1 h2 ⊢
  cases hm : mopB M t ne (nI k) with
  | true =>
    rw [hm] at h1
    by_cases c : asV M ne (nI k) = -1
    · rw [if_pos c] at h1
      exact absurd rfl h1
    · rw [if_neg c, if_pos rfl] at h1
      exact absurd rfl h1
  | false =>
    rcases as_kd (M := M) (ne := ne) (k := nI k) with hq | ⟨e, e1, e2, e3, e4, e5⟩
    · rw [if_pos hq] at h1
      exact absurd rfl h1
    · have hm1 : ¬ nI e = -1 := m1_ne (by omega)
      have hg : ∀ F : gR, gI (nI e) 160 F = F := fun F => gI_nI (by omega) (by omega)
      have hc : (nI e).toNatClampNeg = e := nI_clamp (by omega)
      rw [e2, if_neg hm1, hm, if_neg (show ¬ (false = true) by decide), hc] at h1 h2
      rw [e2, if_neg hm1, if_neg (show ¬ (false = true) by decide), hc]
      obtain ⟨k', c, d, k1, c1, d1, e57, e47, e56⟩ := I.ent e1 (kdD_lt e4)
      obtain ⟨⟨y, y1, y2, y3⟩, -⟩ := I.2.2.2.2.2.2.2.2.2.2.2.2.1.1 e e1 e4
      have hd := due_gen (N := gset M 63 e (M 63 e + nI x)) I rfl rfl (show e < 160 by omega) (show k' < 24 by omega) l3 c1 e57 e47 e56 (show d ≤ 1400 by omega) (show upd (M 63) e (M 63 e + nI x) e = nI (y + x) by rw [upd_self, y3, nI_add]) (by omega)
      refine ⟨e, dlM M ne c d (y + x) (M 64 e), e1, ?_, ?_⟩
      · rw [l8_extend (by decide) s1 s2, c8_Days x1 x2, rb_ret, s2, rb_ret, hm, if_neg (show ¬ (false = true) by decide), e2, if_neg hm1, e_due8 I hn e1 e4, rb_ret]
        unfold f_X8_extend_b51
        rw [if_neg hm1, if_neg h1, e_past8 a1, rb_ret, h2, if_pos rfl, hg, hg, hc]
        simp only [bM]
        rw [hd, rb_ret]
        rfl
      · have hdu : duV M ne e = dlM M ne c d y (M 64 e) := by
          unfold duV clC
          rw [e57, nI_clamp (show k' < 2 ^ 31 by omega), e47, e56, y3, nI_clamp (show c < 2 ^ 31 by omega), nI_clamp (show d < 2 ^ 31 by omega), nI_clamp (show y < 2 ^ 31 by omega)]
        rw [hdu]
        exact dlM_mono M ne c d y (y + x) (M 64 e) (by omega) (by omega)
theorem o_holiday {t nh nc nk ne nr nx ns n : Nat} {M : gM} (I : InvP t nh nc nk ne nr nx ns n M) {d : Nat} (hdt : t < d) (d2 : d ≤ 1000) : f_X8_holiday M (nI d) = rThr 2 M ∨ ∃ v, z01 v ∧ f_X8_holiday M (nI d) = rRet v (gset (gset (gset M 12 nh (nI d)) 1 3 (nI (nh + 1))) 11 d (M 11 d ||| 256)) := by
  obtain ⟨⟨a1, a2, a3, a4, a5, a6, a7, a8⟩, -, l1, l2, l3, l4, l5, l6, l7, l8⟩ := I.1
  obtain ⟨g1, g2, g3, g4⟩ := I.2.1
  have hk : (1000 : Int32) = nI 1000 := by decide
  have h30 : (30 : Int32) = nI 30 := by decide
  rcases g1 d with z | z
  · have hno : ∀ j, j < nh → M 12 j ≠ nI d := fun j hj e => by
      have := (g3 d d2).mpr ⟨j, hj, e⟩
      rw [z] at this
      exact absurd this (by decide)
    have e8h := (e_isHol (a := nI d) a2 l2).2 hno
    by_cases hc : nh < 30
    · obtain ⟨v, hv, k8⟩ : ∃ v : Int32, z01 v ∧ f_X0_isFree M (nI d) = rRet (1 - v) M := by
        by_cases hf : free (M 102) d
        · exact ⟨0, Or.inl rfl, (e_free8 (by omega) (g4 d (by omega))).1 hf⟩
        · exact ⟨1, Or.inr rfl, (e_free8 (by omega) (g4 d (by omega))).2 hf⟩
      have hvv : ∀ M' : gM, (if (1 - v : Int32) = 0 then rRet 1 M' else rRet 0 M') = rRet v M' := by
        intro M'
        rcases hv with q | q
        · rw [q, if_neg (by decide)]
        · rw [q, if_pos (by decide)]
      refine Or.inr ⟨v, hv, ?_⟩
      unfold f_X8_holiday
      rw [if_neg (nI_pos (by omega)), hk, if_pos (nI_le d2 (by omega)), a1, if_neg (nI_ge (by omega) (by omega)), e8h, rb_ret, if_pos rfl, a2, h30, if_pos (nI_lt hc (by omega)), k8, rb_ret, e_addHol a2 hc d2, rb_ret, hvv]
    · refine Or.inl ?_
      unfold f_X8_holiday
      rw [if_neg (nI_pos (by omega)), hk, if_pos (nI_le d2 (by omega)), a1, if_neg (nI_ge (by omega) (by omega)), e8h, rb_ret, if_pos rfl, a2, h30, if_neg (fun q => hc ((nI_ltI (by omega) (by omega)).mp q))]
  · refine Or.inl ?_
    have e8h := (e_isHol (a := nI d) a2 l2).1 ((g3 d d2).mp z)
    unfold f_X8_holiday
    rw [if_neg (nI_pos (by omega)), hk, if_pos (nI_le d2 (by omega)), a1, if_neg (nI_ge (by omega) (by omega)), e8h, rb_ret, if_neg i10]
theorem o_open {t nh nc nk ne nr nx ns n : Nat} {M : gM} (I : InvP t nh nc nk ne nr nx ns n M) {i : Nat} (hi : i < 3) (hx : nc < 8) : f_X8_open M (nI i) = rRet (nI nc) (gset (gset (gset M 25 nc (nI i)) 26 nc (-1)) 2 0 (nI (nc + 1))) := by
  obtain ⟨⟨a1, a2, a3, a4, a5, a6, a7, a8⟩, -, l1, l2, l3, l4, l5, l6, l7, l8⟩ := I.1
  have h3 : (3 : Int32) = nI 3 := by decide
  unfold f_X8_open
  rw [if_neg (nI_pos (by omega)), h3, if_pos (nI_lt hi (by omega)), a3, show (8 : Int32) = nI 8 from by decide, if_pos (nI_lt hx (by omega)), e_add8 a3 hx, rb_ret]
def E_join (M : gM) (t i p s : Nat) : gM := gset (gset (gset (gset M 28 i (M 28 i ||| (1 <<< (nI p &&& 31)))) 27 i (M 27 i + 1)) 29 (i * 16 + p) (nI s)) 38 (i * 16 + p) (nI t)
theorem o_join {t nh nc nk ne nr nx ns n : Nat} {M : gM} (I : InvP t nh nc nk ne nr nx ns n M) {i p s : Nat} (hi : i < nc) (hp : p < 16) (hs : s < 2) : f_X8_join M (nI i) (nI p) (nI s) = if M 107 (16 * i + p) = -1 then rRet (nI (cntP (M 107) i 16 + 1)) (E_join M t i p s) else rThr 2 M := by
  obtain ⟨⟨a1, a2, a3, a4, a5, a6, a7, a8⟩, -, l1, l2, l3, l4, l5, l6, l7, l8⟩ := I.1
  have gc := I.2.2.2.2.1
  have hbt := (gc.2.2.1 i (by omega) p hp).1
  unfold f_X8_join
  rw [c8_Case a3 hi l3, rb_ret, c8_Person hp, rb_ret, c8_Side hs, rb_ret, e_isP8 (by omega) hp hbt, rb_ret]
  by_cases hz : M 107 (16 * i + p) = -1
  · have hpv : pV (M 107) i p = 0 := if_pos hz
    rw [hpv, if_pos rfl, a1, e_addP (by omega) hp, rb_ret, gI_nI (show i < 8 by omega) (by omega), nI_clamp (show i < 2 ^ 31 by omega), if_pos hz]
    have e27 : M 27 i + 1 = nI (cntP (M 107) i 16 + 1) := by rw [(gc.2.2.2.1 i (by omega)).2, nI_1]
    show rRet (upd (M 27) i (M 27 i + 1) i) (E_join M t i p s) = _
    rw [upd_self, e27]
  · have hpv : pV (M 107) i p = 1 := if_neg hz
    rw [hpv, if_neg i10, if_neg hz]
