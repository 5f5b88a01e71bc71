/-! ===== the class's cells alone ===== -/
def Kf (M' M : gM) : Prop := ∀ a, a < 102 → a ≠ 9 → a ≠ 10 → M' a = M a
theorem Kf.rfl (M : gM) : Kf M M := fun _ _ _ _ => Eq.refl _
theorem Kf.m {M' M : gM} (h : Kf M' M) {a : Nat} (ha : 102 ≤ a ∨ a = 9 ∨ a = 10) (j : Nat) (v : Int32) : Kf M' (gset M a j v) := by
  intro b h1 h2 h3
  rw [gset_ne (by omega)]
  exact h b h1 h2 h3
theorem Kf.l {M' M : gM} (h : Kf M' M) {a : Nat} (ha : 102 ≤ a ∨ a = 9 ∨ a = 10) (j : Nat) (v : Int32) : Kf (gset M' a j v) M := by
  intro b h1 h2 h3
  rw [gset_ne (by omega)]
  exact h b h1 h2 h3
theorem Rf.b {M' M : gM} (h : Rf M' M) (a j : Nat) (v : Int32) : Rf (gset M' a j v) (gset M a j v) := by
  refine ⟨fun i hi => ?_, fun b hb => ?_⟩
  · rw [gset_at, gset_at]
    by_cases c : 9 = a
    · rw [if_pos c, if_pos c, upd_at, upd_at]
      by_cases d : i = j
      · rw [if_pos d, if_pos d]
      · rw [if_neg d, if_neg d]
        exact h.1 i hi
    · rw [if_neg c, if_neg c]
      exact h.1 i hi
  · rw [gset_at, gset_at, h.2 b hb]
theorem Rf.m {M' M : gM} (h : Rf M' M) {a : Nat} (h1 : a < 102) (h2 : a ≠ 9) (j : Nat) (v : Int32) : Rf M' (gset M a j v) := by
  refine ⟨fun i hi => ?_, fun b hb => ?_⟩
  · rw [gset_ne (fun e => h2 e.symm)]
    exact h.1 i hi
  · rw [gset_ne (by omega)]
    exact h.2 b hb
theorem e_marksk {M' M : gM} (K : Kf M' M) {c : Nat} (hc : c < 8) : f_X1_stayMarks M' (nI c) = rRet (mkV M c) M' := by
  rw [e_marks hc]
  unfold mkV
  rw [K 26 (by omega) (by omega) (by omega)]
theorem e_dl8k {t nh nc nk ne nr nx ns n : Nat} {M' M : gM} (I : InvP t nh nc nk ne nr nx ns n M) (K : Kf M' M) (h8 : nc ≤ 8) {c b x : Nat} {W : Int32} (hc : c < nc) (hb : b ≤ 1400) (hx : x < 2 ^ 31) : f_X0_end M' (nI b) (nI x) W (mkV M c) = rRet (dlM M ne c b x W) M' :=
  e_end (by rw [K 11 (by omega) (by omega) (by omega)]; exact FB_8 I.2.1) (by rw [K 11 (by omega) (by omega) (by omega)]; exact SB_8 I.2.2.2.1 h8 hc I.2.2.2.2.1.1.2.1 (I.2.2.2.2.1.2.1 c hc)) hw_ok hb hx
theorem e_due8k {t nh nc nk ne nr nx ns n : Nat} {M' M : gM} (I : InvP t nh nc nk ne nr nx ns n M) (K : Kf M' M) (hn : n ≤ 513) {e : Nat} (he : e < ne) (hk : kdD (M 55 e)) : f_X8_dueFrom M' (nI e) = rRet (duV M ne e) M' := by
  obtain ⟨-, -, l1, l2, l3, l4, l5, l6, l7, l8⟩ := I.1
  obtain ⟨k, c, d, h1, h2, h3, h4, h5, h6⟩ := I.ent he (kdD_lt hk)
  obtain ⟨⟨x, x1, x2, x3⟩, -⟩ := I.2.2.2.2.2.2.2.2.2.2.2.2.1.1 e he hk
  have hg : ∀ F : gR, gI (nI e) 160 F = F := fun F => gI_nI (by omega) (by omega)
  have hc : clC M e = c := by
    unfold clC
    rw [h4, nI_clamp (by omega), h5, nI_clamp (by omega)]
  unfold f_X8_dueFrom duV
  rw [hg, nI_clamp (show e < 2 ^ 31 by omega), K 57 (by omega) (by omega) (by omega), h4, gI_nI (show k < 24 by omega) (by omega), nI_clamp (show k < 2 ^ 31 by omega), K 47 (by omega) (by omega) (by omega), h5, e_marksk K (by omega), rb_ret, hg, hg, hg, K 56 (by omega) (by omega) (by omega), K 63 (by omega) (by omega) (by omega), K 64 (by omega) (by omega) (by omega), h6, x3, e_dl8k I K (by omega) h2 (by omega) (by omega), rb_ret, hc, nI_clamp (show d < 2 ^ 31 by omega), nI_clamp (show x < 2 ^ 31 by omega)]
theorem e_cure8k {t nh nc nk ne nr nx ns n : Nat} {M' M : gM} (I : InvP t nh nc nk ne nr nx ns n M) (K : Kf M' M) {e : Nat} (he : e < ne) (hk : ¬ M 65 e = -1) : f_X8_cureDue M' (nI e) = rRet (cuV M ne e) M' := by
  obtain ⟨-, -, l1, l2, l3, l4, l5, l6, l7, l8⟩ := I.1
  obtain ⟨⟨v1, v2, v3⟩, v4, v5, v6⟩ := I.2.2.2.2.2.2.2.2.2.2.2.1
  rcases (v5 e he).2 with q | ⟨⟨b, b1, b2⟩, b3, x, x1, x2, x3⟩
  · exact absurd q hk
  · obtain ⟨k, c, d, h1, h2, h3, h4, h5, h6⟩ := I.ent he (by rcases b3 with h | h | h <;> rw [h] <;> decide)
    have hg : ∀ F : gR, gI (nI e) 160 F = F := fun F => gI_nI (by omega) (by omega)
    have hc : clC M e = c := by
      unfold clC
      rw [h4, nI_clamp (by omega), h5, nI_clamp (by omega)]
    unfold f_X8_cureDue cuV
    rw [hg, nI_clamp (show e < 2 ^ 31 by omega), K 57 (by omega) (by omega) (by omega), h4, gI_nI (show k < 24 by omega) (by omega), nI_clamp (show k < 2 ^ 31 by omega), K 47 (by omega) (by omega) (by omega), h5, e_marksk K (by omega), rb_ret, hg, hg, hg, K 65 (by omega) (by omega) (by omega), K 66 (by omega) (by omega) (by omega), K 67 (by omega) (by omega) (by omega), b2, x3, e_dl8k I K (by omega) h2 (by omega) (by omega), rb_ret, hc, nI_clamp (show b < 2 ^ 31 by omega), nI_clamp (show x < 2 ^ 31 by omega)]
theorem bB (b : Bool) : z01 (if b then 1 else 0) := by
  cases b with
  | true => exact Or.inr rfl
  | false => exact Or.inl rfl
theorem st_counts : St_counts Inv := by
  intro n M a hn hI
  obtain ⟨t, nh, nc, nk, ne, nr, nx, ns, I⟩ := hI
  obtain ⟨⟨a1, a2, a3, a4, a5, a6, a7, a8⟩, ⟨b1, b2, b3, b4, b5, b6, b7⟩, l1, l2, l3, l4, l5, l6, l7, l8⟩ := I.1
  rcases idx_cases a ne (by omega) with ⟨i, hi, rfl⟩ | hb
  · refine agB_ok (v := cnV M t ne i) (M1 := M) (M2 := gset (gset M 10 0 (gb (cnV M t ne i))) 9 0 0) ?_ ?_ rfl rfl (inv_rd I)
    · unfold f_L_counts f_X8_counts
      rw [c8_Entry a5 hi (by omega), rb_ret, e_cnt8 I hi, rb_ret, z01_eq cnV_z, rc_ret]
      unfold gb
      by_cases c : cnV M t ne i = 0
      · rw [if_pos c, if_pos c]
      · rw [if_neg c, if_neg c]
    · unfold f_X9_counts
      rw [c9_Entry (M := gset M 10 0 (gb (cnV M t ne i))) b5 hi (by omega), rb_ret, if_neg i10]
      unfold f_X9_counts_b14
      rw [rf_0, rb_ret, if_pos rfl, e_cnt9 I (((Rf.rfl M).o _).r 0) hi, rb_ret]
      rcases cnV_z (M := M) (t := t) (ne := ne) (e := i) with z | z
      · rw [z, if_pos rfl]
      · rw [z, if_neg i10]
  · refine agB_no (k := 1) ?_ (by decide) (b := 0) ?_ (inv_no I)
    · unfold f_L_counts f_X8_counts
      rw [n8_Entry a5 hb, rb_thr, rc_thr]
      rfl
    · unfold f_X9_counts
      rw [n9_Entry b5 (by omega) hb, rb_ret, if_pos rfl]
      unfold f_X9_counts_b14
      rw [rf_1, rb_ret, if_neg i10]
theorem st_isAnswered : St_isAnswered Inv := by
  intro n M a hn hI
  obtain ⟨t, nh, nc, nk, ne, nr, nx, ns, I⟩ := hI
  obtain ⟨⟨a1, a2, a3, a4, a5, a6, a7, a8⟩, ⟨b1, b2, b3, b4, b5, b6, b7⟩, l1, l2, l3, l4, l5, l6, l7, l8⟩ := I.1
  rcases idx_cases a nk (by omega) with ⟨i, hi, rfl⟩ | hb
  · refine agB_ok (v := if ansB M t ne (nI i) then 1 else 0) (M1 := M) (M2 := gset (gset M 10 0 (gb (if ansB M t ne (nI i) then 1 else 0))) 9 0 0) ?_ ?_ rfl rfl (inv_rd I)
    · unfold f_L_isAnswered f_X8_isAnswered
      rw [c8_Claim a4 hi (by omega), rb_ret, e_ans8 I, rb_ret, z01_eq (bB _), rc_ret]
      cases ansB M t ne (nI i) with
      | true => rfl
      | false => rfl
    · unfold f_X9_isAnswered
      rw [c9_Claim (M := gset M 10 0 (gb (if ansB M t ne (nI i) then 1 else 0))) b4 hi (by omega), rb_ret, if_neg i10]
      unfold f_X9_isAnswered_b14
      rw [rf_0, rb_ret, if_pos rfl, e_ans9 I (((Rf.rfl M).o _).r 0), rb_ret]
      cases ansB M t ne (nI i) with
      | true => rfl
      | false => rfl
  · refine agB_no (k := 1) ?_ (by decide) (b := 0) ?_ (inv_no I)
    · unfold f_L_isAnswered f_X8_isAnswered
      rw [n8_Claim a4 hb, rb_thr, rc_thr]
      rfl
    · unfold f_X9_isAnswered
      rw [n9_Claim b4 (by omega) hb, rb_ret, if_pos rfl]
      unfold f_X9_isAnswered_b14
      rw [rf_1, rb_ret, if_neg i10]
/-- a sort and a number: refused, or with a beginning and what is due -/
def DuA (M : gM) (t nk ne : Nat) (s a : Int32) : Prop :=
  (f_X8_checkDeadline M s a = rThr 0 M ∧ ∀ M', Rf M' M → f_X9_isOfSort M' s a = rRet 0 M') ∨
  ∃ st v, f_X8_checkDeadline M s a = rRet 0 M ∧ f_X8_startOf M s a = rRet st M ∧ (∀ M', Rf M' M → f_X9_isOfSort M' s a = rRet 1 M') ∧ (∀ M', Rf M' M → f_X9_dueOf M' s a = rRet v M') ∧
    ((st = -1 ∧ v = -1) ∨ ∃ e, e < ne ∧ st = nI e ∧ ((s ≠ 3 ∧ kdD (M 55 e) ∧ v = duV M ne e) ∨ (s = 3 ∧ M 65 e ≠ -1 ∧ v = cuV M ne e))) ∧
    ((s = 0 ∧ ∃ k, k < nk ∧ a = nI k ∧ (st ≠ -1 → st = asV M ne (nI k))) ∨ (s = 1 ∧ ∃ m, m < ne ∧ a = nI m ∧ M 55 m = 2 ∧ st = nI m) ∨ (s = 2 ∧ ∃ k, k < nk ∧ a = nI k ∧ (st ≠ -1 → M 51 k = 2 ∧ st = apV M ne (nI k))) ∨ s = 3)
theorem n4_cases {i : Nat} (h : i < 4) : nI i = 0 ∨ nI i = 1 ∨ nI i = 2 ∨ nI i = 3 := by
  match i, h with
  | 0, _ => exact Or.inl (by decide)
  | 1, _ => exact Or.inr (Or.inl (by decide))
  | 2, _ => exact Or.inr (Or.inr (Or.inl (by decide)))
  | 3, _ => exact Or.inr (Or.inr (Or.inr (by decide)))
  | n + 4, h => omega
theorem due_all {t nh nc nk ne nr nx ns n : Nat} {M : gM} (I : InvP t nh nc nk ne nr nx ns n M) (hn : n ≤ 512) (s a : Int32) : DuA M t nk ne s a := by
  obtain ⟨⟨a1, a2, a3, a4, a5, a6, a7, a8⟩, ⟨b1, b2, b3, b4, b5, b6, b7⟩, l1, l2, l3, l4, l5, l6, l7, l8⟩ := I.1
  rcases idx_cases s 4 (by omega) with ⟨i, hi, rfl⟩ | hb
  · rcases n4_cases hi with e | e | e | e
    · rw [e]
      rcases idx_cases a nk (by omega) with ⟨k, hk, rfl⟩ | hb
      · refine Or.inr ⟨if mopB M t ne (nI k) then -1 else asV M ne (nI k), adV M t ne (nI k), ?_, ?_, fun M' R => ?_, fun M' R => ?_, ?_, Or.inl ⟨rfl, k, hk, rfl, fun h => ?_⟩⟩
        · unfold f_X8_checkDeadline
          rw [if_neg (by decide), if_pos (by decide), if_neg (by decide), if_neg (by decide), c8_Claim a4 hk (by omega), rb_ret]
        · unfold f_X8_startOf
          rw [if_pos rfl, e_mop8 I, rb_ret, e_aStart I, rb_ret]
          cases mopB M t ne (nI k) with
          | true => rfl
          | false => rfl
        · unfold f_X9_isOfSort
          rw [if_neg (by decide), if_neg (by decide), wit_eq, rb_ret, if_neg (c := (0 : Int32) < 0) (by decide), if_neg (c := (2 : Int32) < 0) (by decide), if_neg i10, c9_Claim ((R.1 11 (by omega)).trans b4) hk (by omega), rb_ret, if_neg i10]
        · unfold f_X9_dueOf
          rw [if_pos rfl, e_aDue I R hn hk, rb_ret]
        · unfold adV
          cases hm : mopB M t ne (nI k) with
          | true =>
            refine Or.inl ⟨rfl, ?_⟩
            by_cases c : asV M ne (nI k) = -1
            · rw [if_pos c]
            · rw [if_neg c, if_pos rfl]
          | false =>
            rcases as_dom M ne (nI k) with h | ⟨e, h1, h2, h3, h4, h5⟩
            · refine Or.inl ⟨h, ?_⟩
              rw [if_pos h]
            · refine Or.inr ⟨e, h1, h2, Or.inl ⟨by decide, ?_, ?_⟩⟩
              · rcases h4 with h | h | h
                · exact Or.inl h
                · exact Or.inr (Or.inr (Or.inl h))
                · exact Or.inr (Or.inr (Or.inr (Or.inr (Or.inl h))))
              · rw [h2, if_neg (m1_ne (by omega)), nI_clamp (show e < 2 ^ 31 by omega)]
                rfl
        · cases hm : mopB M t ne (nI k) with
          | true => rw [hm] at h; exact absurd rfl h
          | false => rfl
      · refine Or.inl ⟨?_, fun M' R => ?_⟩
        · unfold f_X8_checkDeadline
          rw [if_neg (by decide), if_pos (by decide), if_neg (by decide), if_neg (by decide), n8_Claim a4 hb, rb_thr]
        · unfold f_X9_isOfSort
          rw [if_neg (by decide), if_neg (by decide), wit_eq, rb_ret, if_neg (c := (0 : Int32) < 0) (by decide), if_neg (c := (2 : Int32) < 0) (by decide), if_neg i10, n9_Claim ((R.1 11 (by omega)).trans b4) (by omega) hb, rb_ret, if_pos rfl]
    · rw [e]
      have e120 : ∀ M', Rf M' M → M' 120 = M 55 := fun M' R => (R.2 120 (by omega)).trans I.2.2.2.2.2.2.2.2.2.2.1.1.1
      rcases idx_cases a ne (by omega) with ⟨m, hm, rfl⟩ | hb
      · have hg : ∀ F : gR, gI (nI m) 160 F = F := fun F => gI_nI (by omega) (by omega)
        have hc : (nI m).toNatClampNeg = m := nI_clamp (by omega)
        by_cases c2 : M 55 m = 2
        · refine Or.inr ⟨nI m, duV M ne m, ?_, ?_, fun M' R => ?_, fun M' R => ?_, Or.inr ⟨m, hm, rfl, Or.inl ⟨by decide, Or.inr (Or.inl c2), rfl⟩⟩, Or.inr (Or.inl ⟨rfl, m, hm, rfl, c2, rfl⟩)⟩
          · unfold f_X8_checkDeadline f_X8_checkMotion
            rw [if_neg (by decide), if_pos (by decide), if_pos rfl, c8_Entry a5 hm (by omega), rb_ret, hg, hc, if_pos c2, rb_ret]
          · unfold f_X8_startOf
            rw [if_neg (by decide), if_pos rfl]
          · unfold f_X9_isOfSort f_X9_isMotion
            rw [if_pos rfl, c9_Entry ((R.1 23 (by omega)).trans b5) hm (by omega), rb_ret, if_neg i10, hg, hc, e120 M' R, if_pos c2, rb_ret, z01_eq (Or.inr rfl)]
          · unfold f_X9_dueOf
            rw [if_neg (by decide), if_pos rfl, e_rDue I R hn hm c2, rb_ret]
        · refine Or.inl ⟨?_, fun M' R => ?_⟩
          · unfold f_X8_checkDeadline f_X8_checkMotion
            rw [if_neg (by decide), if_pos (by decide), if_pos rfl, c8_Entry a5 hm (by omega), rb_ret, hg, hc, if_neg c2, rb_thr]
          · unfold f_X9_isOfSort f_X9_isMotion
            rw [if_pos rfl, c9_Entry ((R.1 23 (by omega)).trans b5) hm (by omega), rb_ret, if_neg i10, hg, hc, e120 M' R, if_neg c2, rb_ret, z01_eq (Or.inl rfl)]
      · refine Or.inl ⟨?_, fun M' R => ?_⟩
        · unfold f_X8_checkDeadline f_X8_checkMotion
          rw [if_neg (by decide), if_pos (by decide), if_pos rfl, n8_Entry a5 hb, rb_thr, rb_thr]
        · unfold f_X9_isOfSort f_X9_isMotion
          rw [if_pos rfl, n9_Entry ((R.1 23 (by omega)).trans b5) (by omega) hb, rb_ret, if_pos rfl, rb_ret, z01_eq (Or.inl rfl)]
    · rw [e]
      rcases idx_cases a nk (by omega) with ⟨k, hk, rfl⟩ | hb
      · have hg : ∀ F : gR, gI (nI k) 24 F = F := fun F => gI_nI (by omega) (by omega)
        have hc : (nI k).toNatClampNeg = k := nI_clamp (by omega)
        refine Or.inr ⟨if M 51 k = 2 then apV M ne (nI k) else -1, epV M ne k, ?_, ?_, fun M' R => ?_, fun M' R => ?_, ?_, Or.inr (Or.inr (Or.inl ⟨rfl, k, hk, rfl, fun h => ?_⟩))⟩
        · unfold f_X8_checkDeadline
          rw [if_neg (by decide), if_pos (by decide), if_neg (by decide), if_neg (by decide), c8_Claim a4 hk (by omega), rb_ret]
        · unfold f_X8_startOf
          rw [if_neg (by decide), if_neg (by decide), if_pos rfl, hg, hc, e_apStart a5 l5, rb_ret]
          by_cases c : M 51 k = 2
          · rw [if_pos c, if_pos c]
          · rw [if_neg c, if_neg c]
        · unfold f_X9_isOfSort
          rw [if_neg (by decide), if_neg (by decide), wit_eq, rb_ret, if_neg (c := (2 : Int32) < 0) (by decide), if_neg (c := (2 : Int32) < 2) (by decide), if_neg i10, c9_Claim ((R.1 11 (by omega)).trans b4) hk (by omega), rb_ret, if_neg i10]
        · unfold f_X9_dueOf
          rw [if_neg (by decide), if_neg (by decide), if_pos rfl, e_apDue I R hn hk, rb_ret]
        · unfold epV
          by_cases c : M 51 k = 2
          · rw [if_pos c, if_pos c]
            obtain ⟨e, h1, h2, h3, h4, h5⟩ := ap_dom I hk c
            refine Or.inr ⟨e, h1, h2, Or.inl ⟨by decide, ?_, by rw [h2, nI_clamp (show e < 2 ^ 31 by omega)]⟩⟩
            rcases h4 with h | h
            · exact Or.inr (Or.inr (Or.inr (Or.inl h)))
            · exact Or.inr (Or.inr (Or.inr (Or.inr (Or.inr h))))
          · rw [if_neg c, if_neg c]
            exact Or.inl ⟨rfl, rfl⟩
        · by_cases c : M 51 k = 2
          · rw [if_pos c]
            exact ⟨c, rfl⟩
          · rw [if_neg c] at h
            exact absurd rfl h
      · refine Or.inl ⟨?_, fun M' R => ?_⟩
        · unfold f_X8_checkDeadline
          rw [if_neg (by decide), if_pos (by decide), if_neg (by decide), if_neg (by decide), n8_Claim a4 hb, rb_thr]
        · unfold f_X9_isOfSort
          rw [if_neg (by decide), if_neg (by decide), wit_eq, rb_ret, if_neg (c := (2 : Int32) < 0) (by decide), if_neg (c := (2 : Int32) < 2) (by decide), if_neg i10, n9_Claim ((R.1 11 (by omega)).trans b4) (by omega) hb, rb_ret, if_pos rfl]
    · rw [e]
      rcases idx_cases a ne (by omega) with ⟨m, hm, rfl⟩ | hb
      · refine Or.inr ⟨if M 65 m = -1 then -1 else nI m, if M 65 m = -1 then -1 else cuV M ne m, ?_, ?_, fun M' R => ?_, fun M' R => ?_, ?_, Or.inr (Or.inr (Or.inr rfl))⟩
        · unfold f_X8_checkDeadline
          rw [if_neg (by decide), if_pos (by decide), if_neg (by decide), if_pos rfl, c8_Entry a5 hm (by omega), rb_ret]
        · unfold f_X8_startOf
          rw [if_neg (by decide), if_neg (by decide), if_neg (by decide), e_hasD (by omega), rb_ret]
          by_cases c : M 65 m = -1
          · rw [if_pos c, if_pos rfl, if_pos c]
          · rw [if_neg c, if_neg i10, if_neg c]
        · unfold f_X9_isOfSort
          rw [if_neg (by decide), if_pos rfl, c9_Entry ((R.1 23 (by omega)).trans b5) hm (by omega), rb_ret, z01_eq (Or.inr rfl)]
        · unfold f_X9_dueOf
          rw [if_neg (by decide), if_neg (by decide), if_neg (by decide), e_cure9 I R hm, rb_ret]
        · by_cases c : M 65 m = -1
          · rw [if_pos c, if_pos c]
            exact Or.inl ⟨rfl, rfl⟩
          · rw [if_neg c, if_neg c]
            exact Or.inr ⟨m, hm, rfl, Or.inr ⟨rfl, c, rfl⟩⟩
      · refine Or.inl ⟨?_, fun M' R => ?_⟩
        · unfold f_X8_checkDeadline
          rw [if_neg (by decide), if_pos (by decide), if_neg (by decide), if_pos rfl, n8_Entry a5 hb, rb_thr]
        · unfold f_X9_isOfSort
          rw [if_neg (by decide), if_pos rfl, n9_Entry ((R.1 23 (by omega)).trans b5) (by omega) hb, rb_ret, z01_eq (Or.inl rfl)]
  · have h4 : nI 4 = (4 : Int32) := by decide
    have h1 : ¬ s = 1 := by
      intro q
      rw [q, h4] at hb
      revert hb; decide
    have h3 : ¬ s = 3 := by
      intro q
      rw [q, h4] at hb
      revert hb; decide
    refine Or.inl ⟨?_, fun M' R => ?_⟩
    · unfold f_X8_checkDeadline
      rw [h4] at hb
      rcases hb with h | ⟨h, h2⟩
      · rw [if_pos h]
      · rw [if_neg h, if_neg h2]
    · unfold f_X9_isOfSort
      rw [if_neg h1, if_neg h3, wit_eq, rb_ret]
      rcases hb with h | ⟨h, h2⟩
      · rw [if_pos (c := s < 0) h, if_pos rfl]
      · have : (2 : Int32) < s := by
          rw [h4] at h2
          have q := Int32.not_lt.mp h2
          exact Int32.lt_of_lt_of_le (by decide) q
        rw [if_neg (c := s < 0) h, if_pos this, if_pos rfl]
