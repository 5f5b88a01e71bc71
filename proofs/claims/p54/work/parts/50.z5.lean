/-! ===== deadlines: where they lie ===== -/
theorem dl_dom (F S : Nat → Bool) (w : Bool) : ∀ (r l d : Nat), dl F S w r l d = -1 ∨ ∃ x, d ≤ x ∧ x < d + r ∧ dl F S w r l d = nI x
  | 0, _, _ => Or.inl rfl
  | r + 1, l, d => by
    have up : ∀ l2, dl F S w r l2 (d + 1) = -1 ∨ ∃ x, d ≤ x ∧ x < d + (r + 1) ∧ dl F S w r l2 (d + 1) = nI x := fun l2 => by
      rcases dl_dom F S w r l2 (d + 1) with h | ⟨x, h1, h2, h3⟩
      · exact Or.inl h
      · exact Or.inr ⟨x, by omega, by omega, h3⟩
    cases hS : S d with
    | true =>
      rw [dl_s hS]
      exact up l
    | false =>
      cases hF : F d with
      | true =>
        cases w with
        | true =>
          rw [dl_fw hS hF]
          exact up l
        | false =>
          rw [dl_f hS hF]
          exact up (l - 1)
      | false =>
        rw [dl_n hS hF]
        by_cases c : l ≤ 1
        · rw [if_pos c]
          exact Or.inr ⟨d, Nat.le_refl _, by omega, rfl⟩
        · rw [if_neg c]
          exact up (l - 1)
/-- longer deadlines end no earlier -/
theorem dl_mono (F S : Nat → Bool) (w : Bool) : ∀ (r l m d : Nat), l ≤ m → dl F S w r m d = -1 ∨ ∃ a b, dl F S w r l d = nI a ∧ dl F S w r m d = nI b ∧ a ≤ b ∧ b < d + r
  | 0, _, _, _, _ => Or.inl rfl
  | r + 1, l, m, d, hlm => by
    have up : ∀ l2 m2, l2 ≤ m2 → dl F S w r m2 (d + 1) = -1 ∨ ∃ a b, dl F S w r l2 (d + 1) = nI a ∧ dl F S w r m2 (d + 1) = nI b ∧ a ≤ b ∧ b < d + (r + 1) := fun l2 m2 h => by
      rcases dl_mono F S w r l2 m2 (d + 1) h with h | ⟨a, b, h1, h2, h3, h4⟩
      · exact Or.inl h
      · exact Or.inr ⟨a, b, h1, h2, h3, by omega⟩
    cases hS : S d with
    | true =>
      rw [dl_s hS, dl_s hS]
      exact up l m hlm
    | false =>
      cases hF : F d with
      | true =>
        cases w with
        | true =>
          rw [dl_fw hS hF, dl_fw hS hF]
          exact up l m hlm
        | false =>
          rw [dl_f hS hF, dl_f hS hF]
          exact up (l - 1) (m - 1) (by omega)
      | false =>
        rw [dl_n hS hF, dl_n hS hF]
        by_cases c : l ≤ 1
        · rw [if_pos c]
          by_cases c2 : m ≤ 1
          · rw [if_pos c2]
            exact Or.inr ⟨d, d, rfl, rfl, Nat.le_refl _, by omega⟩
          · rw [if_neg c2]
            rcases dl_dom F S w r (m - 1) (d + 1) with h | ⟨x, h1, h2, h3⟩
            · exact Or.inl h
            · exact Or.inr ⟨d, x, rfl, h3, by omega, by omega⟩
        · rw [if_neg c, if_neg (show ¬ m ≤ 1 by omega)]
          exact up (l - 1) (m - 1) (by omega)
theorem dlM_dom (M : gM) (ne c b x : Nat) (W : Int32) (hb : b ≤ 1400) : dlM M ne c b x W = -1 ∨ ∃ y, b < y ∧ y ≤ 1400 ∧ dlM M ne c b x W = nI y := by
  rcases dl_dom (FBv M) (SBv M ne c) (decide (¬ W = 0)) (1400 - b) x (b + 1) with h | ⟨y, h1, h2, h3⟩
  · exact Or.inl h
  · exact Or.inr ⟨y, by omega, by omega, h3⟩
theorem dlM_mono (M : gM) (ne c b x y : Nat) (W : Int32) (hb : b ≤ 1400) (h : x ≤ y) : dlM M ne c b y W = -1 ∨ ∃ p q, dlM M ne c b x W = nI p ∧ dlM M ne c b y W = nI q ∧ p ≤ q ∧ q ≤ 1400 := by
  rcases dl_mono (FBv M) (SBv M ne c) (decide (¬ W = 0)) (1400 - b) x y (b + 1) h with h | ⟨p, q, h1, h2, h3, h4⟩
  · exact Or.inl h
  · exact Or.inr ⟨p, q, h1, h2, h3, by omega⟩
theorem paV_0 {t y : Nat} (h : t ≤ y) (hy : y < 2 ^ 31) : paV t (nI y) = 0 := by
  unfold paV
  rw [if_neg (m1_ne hy), if_pos (nI_le h hy)]
theorem paV_m1 (t : Nat) : paV t (-1) = 0 := if_pos rfl
theorem cure_gen {t nh nc nk ne nr nx ns n : Nat} {N M : gM} (I : InvP t nh nc nk ne nr nx ns n M) (e11 : N 11 = M 11) (e26 : N 26 = M 26) {e k c b x : Nat} (he : e < 160) (hk : k < 24) (h8 : nc ≤ 8) (hc : c < nc) (h57 : N 57 e = nI k) (h47 : N 47 k = nI c) (h65 : N 65 e = nI b) (hb : b ≤ 1400) (h66 : N 66 e = nI x) (hx : x < 2 ^ 31) : f_X8_cureDue N (nI e) = rRet (dlM M ne c b x (N 67 e)) N := by
  have hg : ∀ F : gR, gI (nI e) 160 F = F := fun F => gI_nI (by omega) (by omega)
  have hm : mkV N c = mkV M c := by
    unfold mkV
    rw [e26]
  unfold f_X8_cureDue
  rw [hg, nI_clamp (show e < 2 ^ 31 by omega), h57, gI_nI hk (by omega), nI_clamp (show k < 2 ^ 31 by omega), h47, e_marks (by omega), rb_ret, hg, hg, hg, h65, h66, hm, e_end (M := N) (F := FBv M) (S := SBv M ne c) (by rw [e11]; exact FB_8 I.2.1) (by rw [e11]; exact SB_8 I.2.2.2.1 h8 hc I.2.2.2.2.1.1.2.1 (I.2.2.2.2.1.2.1 c hc)) hw_ok hb hx, rb_ret]
  rfl
theorem due_gen {t nh nc nk ne nr nx ns n : Nat} {N M : gM} (I : InvP t nh nc nk ne nr nx ns n M) (e11 : N 11 = M 11) (e26 : N 26 = M 26) {e k c b x : Nat} (he : e < 160) (hk : k < 24) (h8 : nc ≤ 8) (hc : c < nc) (h57 : N 57 e = nI k) (h47 : N 47 k = nI c) (h56 : N 56 e = nI b) (hb : b ≤ 1400) (h63 : N 63 e = nI x) (hx : x < 2 ^ 31) : f_X8_dueFrom N (nI e) = rRet (dlM M ne c b x (N 64 e)) N := by
  have hg : ∀ F : gR, gI (nI e) 160 F = F := fun F => gI_nI (by omega) (by omega)
  have hm : mkV N c = mkV M c := by
    unfold mkV
    rw [e26]
  unfold f_X8_dueFrom
  rw [hg, nI_clamp (show e < 2 ^ 31 by omega), h57, gI_nI hk (by omega), nI_clamp (show k < 2 ^ 31 by omega), h47, e_marks (by omega), rb_ret, hg, hg, hg, h56, h63, hm, e_end (M := N) (F := FBv M) (S := SBv M ne c) (by rw [e11]; exact FB_8 I.2.1) (by rw [e11]; exact SB_8 I.2.2.2.1 h8 hc I.2.2.2.2.1.1.2.1 (I.2.2.2.2.1.2.1 c hc)) hw_ok hb hx, rb_ret]
  rfl
theorem Ag.k {M1 E : gM} (h : Ag M1 E) : Kf E M1 := fun a h1 h2 h3 => (h a (by
  show a < 9 ∨ (11 ≤ a ∧ a < 102) ∨ a = 146
  omega)).symm
/-! ===== the class's calls, on ===== -/
theorem k8_stay {t nh nc nk ne nr nx ns n : Nat} {M : gM} (I : InvP t nh nc nk ne nr nx ns n M) {c tc : Nat} (hc : c < nc) (t2 : M 24 c = nI tc) (t1 : tc ≤ 160) (b : Int32) : f_X8_stay M (nI c) b = if (if tc % 2 = 1 then 1 else 0) = b then f_X8_stay_b23 M (nI c) b 0 else f_X8_stay_b23 M (nI c) b 1 := by
  obtain ⟨⟨a1, a2, a3, a4, a5, a6, a7, a8⟩, ⟨b1, b2, b3, b4, b5, b6, b7⟩, l1, l2, l3, l4, l5, l6, l7, l8⟩ := I.1
  have hg8 : ∀ F : gR, gI (nI c) 8 F = F := fun F => gI_nI (by omega) (by omega)
  have hcc : (nI c).toNatClampNeg = c := nI_clamp (by omega)
  have hon : f_X0_isStayOn M (nI c) = rRet (if tc % 2 = 1 then 1 else 0) M := by
    unfold f_X0_isStayOn gNz
    rw [hg8, hcc, t2, if_neg (c := (2 : Int32) = 0) (by decide), show (2 : Int32) = nI 2 from by decide, pk_rem (show tc < 2 ^ 31 by omega) (by omega) (by omega), show (1 : Int32) = nI 1 from by decide]
    have e := nI_eq (show tc % 2 < 2 ^ 31 by omega) (show 1 < 2 ^ 31 by omega)
    by_cases q : tc % 2 = 1
    · rw [if_pos (e.mpr q), if_pos q]
    · rw [if_neg (fun h => q (e.mp h)), if_neg q]
  unfold f_X8_stay
  rw [c8_Case a3 hc (by omega), rb_ret, hon, rb_ret]
theorem n_stay {t nh nc nk ne nr nx ns n : Nat} {M : gM} (I : InvP t nh nc nk ne nr nx ns n M) {c tc : Nat} (hc : c < nc) (t2 : M 24 c = nI tc) (t1 : tc ≤ 160) {b : Int32} (h : ne < 160 → (if tc % 2 = 1 then 1 else 0) = b) : f_X8_stay M (nI c) b = rThr 2 M := by
  obtain ⟨⟨a1, a2, a3, a4, a5, a6, a7, a8⟩, ⟨b1, b2, b3, b4, b5, b6, b7⟩, l1, l2, l3, l4, l5, l6, l7, l8⟩ := I.1
  rw [k8_stay I hc t2 t1]
  unfold f_X8_stay_b23
  by_cases c0 : ne < 160
  · rw [if_pos (h c0), e_allow0, rb_thr]
  · rw [e_allowF a5 c0 (by omega), e_allowF a5 c0 (by omega), rb_thr, ite_self]
def E_stay (M : gM) (t ne c tc : Nat) (K : Int32) (g : Int32 → Int32) : gM := gput (gset (gset (en8 M ne t K (nI c) 0 0) 15 (c * 160 + tc) (nI t)) 24 c (nI (tc + 1))) 11 (mrk (M 11) t g)
theorem o_stay {t nh nc nk ne nr nx ns n : Nat} {M : gM} (I : InvP t nh nc nk ne nr nx ns n M) {c tc : Nat} (hc : c < nc) (t2 : M 24 c = nI tc) (t1 : tc ≤ ne) {b : Int32} (hb : z01 b) (c0 : ne < 160) (cb : ¬ (if tc % 2 = 1 then (1 : Int32) else 0) = b) : ∃ K g, (K = 11 ∨ K = 12) ∧ f_X8_stay M (nI c) b = rRet (nI ne) (E_stay M t ne c tc K g) := by
  obtain ⟨⟨a1, a2, a3, a4, a5, a6, a7, a8⟩, ⟨b1, b2, b3, b4, b5, b6, b7⟩, l1, l2, l3, l4, l5, l6, l7, l8⟩ := I.1
  have hg8 : ∀ F : gR, gI (nI c) 8 F = F := fun F => gI_nI (by omega) (by omega)
  have hcc : (nI c).toNatClampNeg = c := nI_clamp (by omega)
  obtain ⟨K, hK, k23⟩ : ∃ K : Int32, (K = 11 ∨ K = 12) ∧ ∀ N u, f_X8_stay_b23 N (nI c) b u = rb (f_X8_allow N u) (fun _ M5 => f_X8_stay_b38 M5 (nI c) b K) := by
    rcases hb with h | h
    · refine ⟨12, Or.inr rfl, fun N u => ?_⟩
      unfold f_X8_stay_b23
      exact congrArg (rb _) (funext fun x => funext fun M5 => if_pos h)
    · refine ⟨11, Or.inl rfl, fun N u => ?_⟩
      unfold f_X8_stay_b23
      exact congrArg (rb _) (funext fun x => funext fun M5 => if_neg (by rw [h]; exact i10))
  obtain ⟨g, hgd⟩ : ∃ g : Int32 → Int32, ∀ x, g x = if b = 0 then x &&& ((1 <<< (nI c &&& 31)) ^^^ (-1)) else x ||| (1 <<< (nI c &&& 31)) := ⟨_, fun _ => rfl⟩
  refine ⟨K, g, hK, ?_⟩
  have kt : f_X0_turnStay (en8 M ne t K (nI c) 0 0) (nI c) b = rRet 0 (E_stay M t ne c tc K g) := by
    unfold f_X0_turnStay
    rw [hg8, hg8, hcc]
    show gI (M 24 c) 160 (bM (gset (en8 M ne t K (nI c) 0 0) 15 (c * 160 + (M 24 c).toNatClampNeg) (M 1 0)) _) = _
    rw [t2, gI_nI (show tc < 160 by omega) (by omega), nI_clamp (show tc < 2 ^ 31 by omega), a1]
    simp only [bM, bV]
    rw [hg8, hg8]
    show f_X0_turnStay_l37 5000 (gset (gset (en8 M ne t K (nI c) 0 0) 15 (c * 160 + tc) (nI t)) 24 c (M 24 c + 1)) b (1 <<< (nI c &&& 31)) (M 1 0) = _
    rw [t2, nI_1, a1, l_turn (g := g) hgd (1401 - t) t 5000 _ (by omega) (by omega)]
    rfl
  rw [k8_stay I hc t2 (by omega), if_neg cb, k23, e_allow a5 c0, rb_ret]
  unfold f_X8_stay_b38
  rw [e_en8n a5 a1 c0 _ _ _ (Or.inr (Or.inr (Or.inr (Or.inr (Or.inr hK))))), rb_ret, kt, rb_ret]
def E_defect (M : gM) (t i : Nat) : gM := gset (gset (gset M 65 i (nI t)) 66 i (M 13 4)) 67 i (M 14 4)
theorem n_defect {t nh nc nk ne nr nx ns n : Nat} {M : gM} (I : InvP t nh nc nk ne nr nx ns n M) {i : Nat} (hi : i < ne) (h : ¬ ((M 55 i = 1 ∨ M 55 i = 2 ∨ M 55 i = 3) ∧ M 65 i = -1)) : f_X8_defect M (nI i) = rThr 2 M := by
  obtain ⟨⟨a1, a2, a3, a4, a5, a6, a7, a8⟩, ⟨b1, b2, b3, b4, b5, b6, b7⟩, l1, l2, l3, l4, l5, l6, l7, l8⟩ := I.1
  have hg : ∀ F : gR, gI (nI i) 160 F = F := fun F => gI_nI (by omega) (by omega)
  have hc : (nI i).toNatClampNeg = i := nI_clamp (by omega)
  unfold f_X8_defect
  rw [c8_Entry a5 hi (by omega), rb_ret, hg, hc]
  simp only [bV]
  have h1 : ¬ M 65 i = -1 → f_X8_defect_b30 M (nI i) = rThr 2 M := by
    intro q
    unfold f_X8_defect_b30 f_X8_defect_b35
    rw [if_neg i10, e_hasD (by omega), rb_ret, if_neg q, if_neg i10]
  by_cases q1 : M 55 i = 1
  · rw [if_pos q1]
    exact h1 (fun q => h ⟨Or.inl q1, q⟩)
  · rw [if_neg q1]
    by_cases q2 : M 55 i = 2
    · rw [if_pos q2]
      exact h1 (fun q => h ⟨Or.inr (Or.inl q2), q⟩)
    · rw [if_neg q2]
      by_cases q3 : M 55 i = 3
      · rw [if_pos q3]
        exact h1 (fun q => h ⟨Or.inr (Or.inr q3), q⟩)
      · rw [if_neg q3]
        unfold f_X8_defect_b35
        rw [if_pos rfl]
theorem o_defect {t nh nc nk ne nr nx ns n : Nat} {M : gM} (I : InvP t nh nc nk ne nr nx ns n M) {i : Nat} (hi : i < ne) (ck : M 55 i = 1 ∨ M 55 i = 2 ∨ M 55 i = 3) (c1 : M 65 i = -1) : ∃ v, f_X8_defect M (nI i) = rRet v (E_defect M t i) ∧ f_X8_cureDue (E_defect M t i) (nI i) = rRet v (E_defect M t i) := by
  obtain ⟨⟨a1, a2, a3, a4, a5, a6, a7, a8⟩, ⟨b1, b2, b3, b4, b5, b6, b7⟩, l1, l2, l3, l4, l5, l6, l7, l8⟩ := I.1
  have hg : ∀ F : gR, gI (nI i) 160 F = F := fun F => gI_nI (by omega) (by omega)
  have hc : (nI i).toNatClampNeg = i := nI_clamp (by omega)
  have h45 : ∀ F : gR, gI 4 5 F = F := fun F => gI_nI (i := 4) (by omega) (by omega)
  have e4 : (4 : Int32).toNatClampNeg = 4 := by decide
  obtain ⟨⟨x, x1, x2, x3⟩, xz⟩ := I.2.2.1.2.2 4 (by omega)
  obtain ⟨k, c, d, h1, h2, h3, h4, h5, h6⟩ := I.ent hi (by rcases ck with h | h | h <;> rw [h] <;> decide)
  have hcu := cure_gen (N := E_defect M t i) I rfl rfl (show i < 160 by omega) (show k < 24 by omega) l3 h2 h4 h5 (show upd (M 65) i (nI t) i = nI t from upd_self _ _ _) (show t ≤ 1400 by omega) (show upd (M 66) i (M 13 4) i = nI x by rw [upd_self]; exact x3) (by omega)
  refine ⟨_, ?_, hcu⟩
  have k8 : f_X8_defect M (nI i) = f_X8_defect_b30 M (nI i) := by
    unfold f_X8_defect
    rw [c8_Entry a5 hi (by omega), rb_ret, hg, hc]
    simp only [bV]
    by_cases q1 : M 55 i = 1
    · rw [if_pos q1]
    · rw [if_neg q1]
      by_cases q2 : M 55 i = 2
      · rw [if_pos q2]
      · rw [if_neg q2, if_pos (ck.resolve_left q1 |>.resolve_left q2)]
  rw [k8]
  unfold f_X8_defect_b30 f_X8_defect_b35
  rw [if_neg i10, e_hasD (by omega), rb_ret, if_pos c1, if_pos rfl, hg, hc, a1]
  simp only [bM]
  rw [h45, hg, h45]
  show gZ01 (M 14 4) _ = _
  rw [z01_eq (show z01 (M 14 4) from xz), hg]
  show rb (f_X8_cureDue (E_defect M t i) (nI i)) _ = _
  rw [hcu, rb_ret]
theorem o_cure {t nh nc nk ne nr nx ns n : Nat} {M : gM} (I : InvP t nh nc nk ne nr nx ns n M) {i : Nat} (hi : i < ne) : f_X8_cure M (nI i) = if ¬ M 65 i = -1 ∧ M 68 i = 0 ∧ paV t (cuV M ne i) = 0 then rRet 1 (gset M 68 i 1) else rThr 2 M := by
  obtain ⟨⟨a1, a2, a3, a4, a5, a6, a7, a8⟩, ⟨b1, b2, b3, b4, b5, b6, b7⟩, l1, l2, l3, l4, l5, l6, l7, l8⟩ := I.1
  have hg : ∀ F : gR, gI (nI i) 160 F = F := fun F => gI_nI (by omega) (by omega)
  have hc : (nI i).toNatClampNeg = i := nI_clamp (by omega)
  unfold f_X8_cure
  rw [c8_Entry a5 hi (by omega), rb_ret, e_hasD (by omega), rb_ret]
  by_cases c1 : M 65 i = -1
  · rw [if_pos c1, if_pos rfl, if_neg (fun h => h.1 c1)]
  · rw [if_neg c1, if_neg i10, hg, hc]
    by_cases c2 : M 68 i = 0
    · rw [if_pos c2, e_cure8 I hi c1, rb_ret, e_past8 a1, rb_ret]
      by_cases c3 : paV t (cuV M ne i) = 0
      · rw [if_pos c3, z01_eq (Or.inr rfl), hg, if_pos ⟨c1, c2, c3⟩]
        rfl
      · rw [if_neg c3, if_neg (fun h => c3 h.2.2)]
    · rw [if_neg c2, if_neg (fun h => c2 h.2.1)]
def E_seal (M : gM) (t e ns : Nat) (v : Int32) : gM := gset (gset (gset (gset M 99 ns (nI e)) 100 ns (nI t)) 101 ns v) 8 0 (nI (ns + 1))
theorem o_seal {t nh nc nk ne nr nx ns n : Nat} {M : gM} (I : InvP t nh nc nk ne nr nx ns n M) {e : Nat} (he : e < ne) (hn : n < 512) {v : Int32} (hv : z01 v) : f_X8_seal M (nI e) v = if sSeal (M 99) (M 100) (M 101) (nI e) (nI t) ns = v then rRet 0 M else rRet 1 (E_seal M t e ns v) := by
  obtain ⟨⟨a1, a2, a3, a4, a5, a6, a7, a8⟩, ⟨b1, b2, b3, b4, b5, b6, b7⟩, l1, l2, l3, l4, l5, l6, l7, l8⟩ := I.1
  obtain ⟨g1, g2, g3⟩ := I.2.2.2.2.2.2.2.2.2.1
  unfold f_X8_seal
  rw [c8_Entry a5 he (by omega), rb_ret, a1, e_isSealed a8 (by omega) g2, rb_ret]
  unfold f_X8_seal_b29
  by_cases c : sSeal (M 99) (M 100) (M 101) (nI e) (nI t) ns = v
  · rw [if_pos c, if_pos c, if_pos rfl, z01_eq (Or.inl rfl)]
  · rw [if_neg c, if_neg c, if_neg i10, a1, e_add7 a8 (by omega) hv, rb_ret, z01_eq (Or.inr rfl)]
    rfl
def E_claim (M : gM) (nk c p q x : Nat) : gM := gset (gset (gset (gset (gset (gset (gset M 47 nk (nI c)) 48 nk (nI p)) 49 nk (nI q)) 50 nk (nI x)) 51 nk 0) 52 nk (-1)) 3 0 (nI (nk + 1))
theorem o_claim {t nh nc nk ne nr nx ns n : Nat} {M : gM} (I : InvP t nh nc nk ne nr nx ns n M) {c p q x : Nat} (hc : c < nc) (hp : p < 16) (hq : q < 16) (x1 : 1 ≤ x) (x2 : x ≤ 99999) : f_X8_claim M (nI c) (nI p) (nI q) (nI x) = if opp (M 107) c p q ∧ nk < 24 then rRet (nI nk) (E_claim M nk c p q x) else rThr 2 M := by
  obtain ⟨⟨a1, a2, a3, a4, a5, a6, a7, a8⟩, ⟨b1, b2, b3, b4, b5, b6, b7⟩, l1, l2, l3, l4, l5, l6, l7, l8⟩ := I.1
  have gc := I.2.2.2.2.1
  have gp := gc.2.2.1 c (by omega) p hp
  have gq := gc.2.2.1 c (by omega) q hq
  have k8 : f_X1_areOpposed M (nI c) (nI p) (nI q) = rRet (if opp (M 107) c p q then 1 else 0) M := e_opp8 (by omega) hp hq gp.1 gq.1 (fun h => (gp.2 h).2) (fun h => (gq.2 h).2)
  have h1r : nI 1 = (1 : Int32) := by decide
  have h9r : nI 99999 = (99999 : Int32) := by decide
  have hca : f_X8_checkAmount M (nI x) 99999 = rRet 0 M := by
    unfold f_X8_checkAmount
    rw [← h1r, ← h9r, if_neg (nI_nlt x1 (by omega)), if_pos (nI_le x2 (by omega))]
  unfold f_X8_claim
  rw [c8_Case a3 hc l3, rb_ret, c8_Person hp, rb_ret, c8_Person hq, rb_ret, hca, rb_ret, k8, rb_ret]
  by_cases ho1 : opp (M 107) c p q
  · rw [if_pos ho1, if_neg i10, a4, show (24 : Int32) = nI 24 from by decide]
    by_cases ho2 : nk < 24
    · rw [if_pos (nI_lt ho2 (by omega)), e_add2 a4 ho2, rb_ret, if_pos ⟨ho1, ho2⟩]
      rfl
    · rw [if_neg (fun z => ho2 ((nI_ltI (by omega) (by omega)).mp z)), if_neg (fun h => ho2 h.2)]
  · rw [if_neg ho1, if_pos rfl, if_neg (fun h => ho1 h.1)]
theorem o_pass {t nh nc nk ne nr nx ns n : Nat} {M : gM} (I : InvP t nh nc nk ne nr nx ns n M) {x : Nat} (x1 : 1 ≤ x) (x2 : x ≤ 60) (h : t + x ≤ 900) : f_X8_pass M (nI x) = rRet (nI (t + x)) (gset M 1 0 (nI (t + x))) := by
  obtain ⟨⟨a1, a2, a3, a4, a5, a6, a7, a8⟩, -⟩ := I.1
  unfold f_X8_pass
  rw [c8_Days x1 x2, rb_ret, a1, nI_add, show (900 : Int32) = nI 900 from by decide, if_pos (nI_le h (by omega))]
  rfl
theorem o_setRule {t nh nc nk ne nr nx ns n : Nat} {M : gM} (I : InvP t nh nc nk ne nr nx ns n M) {i x : Nat} (hi : i < 5) (x1 : 1 ≤ x) (x2 : x ≤ 60) {c : Int32} (hz : z01 c) : f_X8_setRule M (nI i) (nI x) c = rRet (M 13 i) (gset (gset M 13 i (nI x)) 14 i c) := by
  have hzg : ∀ F : gR, gZ01 c F = F := fun F => z01_eq hz
  have hc : (nI i).toNatClampNeg = i := nI_clamp (by omega)
  have hg : ∀ F : gR, gI (nI i) 5 F = F := fun F => gI_nI hi (by omega)
  have h5 : (5 : Int32) = nI 5 := by decide
  unfold f_X8_setRule
  rw [if_neg (nI_pos (by omega)), h5, if_pos (nI_lt hi (by omega)), c8_Days x1 x2, rb_ret, hg, hc]
  simp only [bV, bM, hg, hzg]
