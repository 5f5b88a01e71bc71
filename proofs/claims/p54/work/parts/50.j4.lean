theorem as_hit {M : gM} {ne : Nat} {k : Int32} {e : Nat} (he : e < 2 ^ 31) (hne : ne < 2 ^ 31) (h : asV M ne k = nI e) : asB M k e = true := by
  rcases lastP_cases (asB M k) ne with ⟨h1, -⟩ | ⟨e', h1, h2, h3, h4⟩
  · exact absurd ((show asV M ne k = -1 from h1).symm.trans h).symm (m1_ne he)
  · have : e' = e := (nI_eq (by omega) he).mp (h2.symm.trans h)
    rw [← this]
    exact h3
theorem asB_cases {M : gM} {k : Int32} {e : Nat} (h : asB M k e = true) : M 57 e = k ∧ (M 55 e = 0 ∨ (M 55 e = 4 ∧ M 58 e ≠ 0) ∨ (M 55 e = 6 ∧ M 55 (M 58 e).toNatClampNeg = 4)) := by
  unfold asB beB at h
  rw [Bool.and_eq_true, Bool.or_eq_true, Bool.or_eq_true] at h
  exact ⟨of_decide_eq_true h.1, h.2.imp of_decide_eq_true (fun h => h.imp of_decide_eq_true of_decide_eq_true)⟩
theorem asB_of {M : gM} {k : Int32} {e : Nat} (h57 : M 57 e = k) (h : M 55 e = 0 ∨ (M 55 e = 4 ∧ M 58 e ≠ 0) ∨ (M 55 e = 6 ∧ M 55 (M 58 e).toNatClampNeg = 4)) : asB M k e = true := by
  unfold asB beB
  rw [decide_eq_true h57, Bool.true_and]
  rcases h with f4 | f4 | f4
  · rw [decide_eq_true f4, Bool.true_or]
  · rw [decide_eq_true (p := M 55 e = 4 ∧ M 58 e ≠ 0) f4, Bool.true_or, Bool.or_true]
  · rw [decide_eq_true (p := M 55 e = 6 ∧ M 55 (M 58 e).toNatClampNeg = 4) f4, Bool.or_true, Bool.or_true]
/-- the reference's extend, up to its refusal -/
theorem x9_extend {M' : gM} {s a d v : Int32} (h3 : s ≠ 3) (h1 : f_X9_isOfSort M' s a = rRet 1 M') (h2 : f_X9_dueOf M' s a = rRet v M') : f_X9_extend M' s a d = rb (f_X9_within M' d 1 60) (fun x15 M14 => if x15 = 0 then f_X9_extend_b82 M14 s a d 2 else if v = -1 then f_X9_extend_b77 M14 s a d else rb (f_X9_isBehind M14 v) (fun x17 M16 => if x17 = 0 then f_X9_extend_b82 M16 s a d 0 else f_X9_extend_b77 M16 s a d)) := by
  unfold f_X9_extend
  rw [if_neg h3, h1, rb_ret, if_neg i10]
  unfold f_X9_extend_b19
  rw [if_neg i10, h2, rb_ret]
  unfold f_X9_extend_b36
  rw [if_neg i10]
theorem x9_no {M' : gM} {s a d : Int32} (w : Int32) (hw : w = 1 ∨ w = 2 ∨ w = 3) : f_X9_extend_b82 M' s a d w = rRet 0 (gset M' 9 0 w) := by
  unfold f_X9_extend_b82
  rcases hw with h | h | h
  · rw [h, rf_1, rb_ret, if_neg i10]
  · rw [h, rf_2, rb_ret, if_neg i10]
  · rw [h, rf_3, rb_ret, if_neg i10]
theorem l8_extend {M : gM} {s a d st : Int32} (h3 : s ≠ 3) (h1 : f_X8_checkDeadline M s a = rRet 0 M) (h2 : f_X8_startOf M s a = rRet st M) : f_X8_extend M s a d = rb (f_X8_checkDays M d) (fun _ M8 => rb (f_X8_startOf M8 s a) (fun x11 M10 => if x11 = -1 then f_X8_extend_b51 M10 d x11 (-1) else rb (f_X8_dueFrom M10 x11) (fun x13 M12 => f_X8_extend_b51 M12 d x11 x13))) := by
  unfold f_X8_extend
  rw [if_neg h3, h1, rb_ret]
theorem st_extend : St_extend Inv := by
  intro n M s a d hn hI
  obtain ⟨t, nh, nc, nk, ne, nr, nx, ns, I⟩ := hI
  obtain ⟨⟨a1, a2, a3, a4, a5, a6, a7, a8⟩, ⟨b1, b2, b3, b4, b5, b6, b7⟩, l1, l2, l3, l4, l5, l6, l7, l8⟩ := I.1
  by_cases s3 : s = 3
  · refine agI_no (k := 1) ?_ (by decide) (b := 0) ?_ (inv_no I)
    · unfold f_L_extend f_X8_extend
      rw [if_pos s3, rc_thr]
      rfl
    · unfold f_X9_extend
      rw [if_pos s3]
      unfold f_X9_extend_b18 f_X9_extend_b19
      rw [if_pos rfl]
      unfold f_X9_extend_b36
      rw [if_pos rfl]
      exact x9_no 1 (Or.inl rfl)
  · rcases due_all I (by omega) s a with ⟨h1, h2⟩ | ⟨st, v, h1, h2, h3, h4, h5, h6⟩
    · refine agI_no (k := 1) ?_ (by decide) (b := 0) ?_ (inv_no I)
      · unfold f_L_extend f_X8_extend
        rw [if_neg s3, h1, rb_thr, rc_thr]
        rfl
      · unfold f_X9_extend
        rw [if_neg s3, h2 M (Rf.rfl M), rb_ret, if_pos rfl]
        unfold f_X9_extend_b18 f_X9_extend_b19
        rw [if_pos rfl]
        unfold f_X9_extend_b36
        rw [if_pos rfl]
        exact x9_no 1 (Or.inl rfl)
    · have i60 : nI 60 = (60 : Int32) := by decide
      have i1 : nI 1 = (1 : Int32) := by decide
      rcases rng_cases d 1 60 (by omega) (by omega) with ⟨x, x1, x2, rfl⟩ | hb
      · have no : f_X8_extend M s a (nI x) = rThr 2 M → (v = -1 ∨ ¬ paV t v = 0) → AgI (f_L_extend M s a (nI x)) (fun M1 => f_X9_extend M1 s a (nI x)) (Inv (n + 1)) := by
          intro k8 k9
          refine agI_no (k := 3) ?_ (by decide) (b := 0) ?_ (inv_no I)
          · unfold f_L_extend
            rw [k8, rc_thr]
            rfl
          · show f_X9_extend M s a (nI x) = _
            rw [x9_extend s3 (h3 M (Rf.rfl M)) (h4 M (Rf.rfl M)), rg_ok i1 i60 x1 x2 (by omega), rb_ret, if_neg i10]
            unfold f_X9_extend_b77
            by_cases q : v = -1
            · rw [if_pos q]
              exact x9_no 3 (Or.inr (Or.inr rfl))
            · rw [if_neg q, e_past9 b1, rb_ret, if_neg (k9.resolve_left q)]
              exact x9_no 3 (Or.inr (Or.inr rfl))
        rcases h5 with ⟨rfl, rfl⟩ | ⟨e, e1, rfl, e2⟩
        · refine no ?_ (Or.inl rfl)
          rw [l8_extend s3 h1 h2, c8_Days x1 x2, rb_ret, h2, rb_ret, if_pos rfl]
          unfold f_X8_extend_b51
          rw [if_pos rfl]
        · obtain ⟨-, ek, ev⟩ : s ≠ 3 ∧ kdD (M 55 e) ∧ v = duV M ne e := e2.resolve_right (fun h => s3 h.1)
          have hm1 : ¬ nI e = -1 := m1_ne (by omega)
          have hg : ∀ F : gR, gI (nI e) 160 F = F := fun F => gI_nI (by omega) (by omega)
          have hc : (nI e).toNatClampNeg = e := nI_clamp (by omega)
          have k8 : f_X8_extend M s a (nI x) = if v = -1 then rThr 2 M else if paV t v = 0 then rb (f_X8_dueFrom (gset M 63 e (M 63 e + nI x)) (nI e)) (fun x5 M4 => rRet x5 M4) else rThr 2 M := by
            rw [l8_extend s3 h1 h2, c8_Days x1 x2, rb_ret, h2, rb_ret, if_neg hm1, e_due8 I (by omega) e1 ek, rb_ret, ← ev]
            unfold f_X8_extend_b51
            rw [if_neg hm1]
            by_cases q : v = -1
            · rw [if_pos q, if_pos q]
            · rw [if_neg q, if_neg q, e_past8 a1, rb_ret, hg, hg, hc]
              rfl
          by_cases q : v = -1
          · exact no (by rw [k8, if_pos q]) (Or.inl q)
          · by_cases p : paV t v = 0
            · rw [if_neg q, if_pos p] at k8
              -- accepted: one end for the three sorts
              have fin : ∀ (X Y : gM → gM), (∀ w, Rf (Y (gset (gset (gset M 63 e (M 63 e + nI x)) 10 0 w) 9 0 0)) (X M)) → Kf (gset M 63 e (M 63 e + nI x)) (X M) → InvP t nh nc nk ne nr nx ns (n + 1) (X M) → kdD (X M 55 e) → (∀ w, f_X9_extend_b82 (gset (gset M 63 e (M 63 e + nI x)) 10 0 w) s a (nI x) 0 = f_X9_extend_b203 (Y (gset (gset (gset M 63 e (M 63 e + nI x)) 10 0 w) 9 0 0)) s a) → (∀ M', Rf M' (X M) → f_X9_dueOf M' s a = rRet (duV (X M) ne e) M') → (∀ w, Y (gset (gset (gset M 63 e (M 63 e + nI x)) 10 0 w) 9 0 0) 9 0 = 0) → (∀ w, Y (gset (gset (gset M 63 e (M 63 e + nI x)) 10 0 w) 9 0 0) 10 0 = w) → (∀ w, InvP t nh nc nk ne nr nx ns (n + 1) (Y (gset (gset (gset M 63 e (M 63 e + nI x)) 10 0 w) 9 0 0))) → AgI (f_L_extend M s a (nI x)) (fun M1 => f_X9_extend M1 s a (nI x)) (Inv (n + 1)) := by
                intro X Y R K I3 hk k9 kd y1 y2 y3
                refine agI_ok (v := duV (X M) ne e) (M1 := gset M 63 e (M 63 e + nI x)) (M2 := Y (gset (gset (gset M 63 e (M 63 e + nI x)) 10 0 (duV (X M) ne e)) 9 0 0)) ?_ ?_ (y1 _) (y2 _) ⟨t, nh, nc, nk, ne, nr, nx, ns, y3 _⟩
                · unfold f_L_extend
                  rw [k8, e_due8k I3 K (by omega) e1 hk, rb_ret, rc_ret]
                · have R0 : Rf (gset (gset M 63 e (M 63 e + nI x)) 10 0 (duV (X M) ne e)) M := ((Rf.rfl M).s (by omega) (by omega) _ _).o _
                  show f_X9_extend _ s a (nI x) = _
                  rw [x9_extend s3 (h3 _ R0) (h4 _ R0), rg_ok i1 i60 x1 x2 (by omega), rb_ret, if_neg i10, if_neg q, e_past9 (M := gset (gset M 63 e (M 63 e + nI x)) 10 0 (duV (X M) ne e)) b1, rb_ret, if_pos p, k9]
                  unfold f_X9_extend_b203
                  rw [kd _ (R _), rb_ret]
              rcases h6 with ⟨rfl, k, hk, rfl, hs⟩ | ⟨rfl, m, hm, rfl, m2, hs⟩ | ⟨rfl, k, hk, rfl, hs⟩ | h
              · have hk24 : ∀ F : gR, gI (nI k) 24 F = F := fun F => gI_nI (by omega) (by omega)
                have hck : (nI k).toNatClampNeg = k := nI_clamp (by omega)
                have has := (hs hm1).symm
                obtain ⟨h57, hbe⟩ := asB_cases (as_hit (by omega) (by omega) has)
                have hmop : mopB M t ne (nI k) = false := by
                  have z := h4 M (Rf.rfl M)
                  unfold f_X9_dueOf at z
                  rw [if_pos rfl, e_aDue I (Rf.rfl M) (by omega) hk, rb_ret] at z
                  have z2 : adV M t ne (nI k) = v := congrArg (fun r : gR => r.2.1) z
                  unfold adV at z2
                  cases c : mopB M t ne (nI k) with
                  | false => rfl
                  | true =>
                    rw [c, if_pos rfl] at z2
                    by_cases y : asV M ne (nI k) = -1
                    · rw [if_pos y] at z2
                      exact absurd z2.symm q
                    · rw [if_neg y] at z2
                      exact absurd z2.symm q
                have hle : M 117 k = -1 ∨ ∃ f, f ≤ e ∧ M 117 k = nI f := by
                  rcases I.2.2.2.2.2.2.2.2.2.2.2.2.1.2.2.2.2.1 k hk with z | ⟨f, f1, f2, f3, f4⟩
                  · exact Or.inl z
                  · rcases as_dom M ne (nI k) with y | ⟨e', y1, y2, y3, y4, y5⟩
                    · exact absurd (has.symm.trans y) hm1
                    · have : e' = e := (nI_eq (by omega) (by omega)).mp (y2.symm.trans has)
                      subst this
                      exact Or.inr ⟨f, y5 f f1 (asB_of f3 f4), f2⟩
                refine fin (fun N => gset (gset (gset N 63 e (M 63 e + nI x)) 116 k (nI x + (if M 117 k = nI e then M 116 k else 0))) 117 k (nI e)) (fun N => gset (gset N 116 k (nI x + (if M 117 k = nI e then M 116 k else 0))) 117 k (nI e)) (fun w => ((((Rf.rfl (gset M 63 e (M 63 e + nI x))).o w).r 0).b _ _ _).b _ _ _) (((Kf.rfl _).m (by omega) _ _).m (by omega) _ _) ?_ ek (fun w => ?_) (fun M' R => ?_) (fun w => rfl) (fun w => rfl) (fun w => ?_)
                · obtain ⟨g1, g2, g3, g4, g5, g6, g7, g8, g9, g10, g11, g12, g13, g14⟩ := I
                  exact ⟨g1.up, g2, g3, g4, g5, g6, g7, g8, g9, g10, g11, g12, g13.ext0 hk e1 l5 x2 h57 l4 hbe hle, g14⟩
                · have R1 : Rf (gset (gset (gset M 63 e (M 63 e + nI x)) 10 0 w) 9 0 0) M := (((Rf.rfl M).s (by omega) (by omega) _ _).o _).r 0
                  unfold f_X9_extend_b82
                  rw [rf_0, rb_ret, if_pos rfl, if_pos rfl, e_aFrom I R1, rb_ret, has, hk24, hk24, hck]
                  show (if M 117 k = nI e then f_X9_extend_b128 _ _ _ _ _ _ (M 116 k) else _) = _
                  unfold f_X9_extend_b128
                  rw [hk24, hk24, hck]
                  by_cases z : M 117 k = nI e
                  · rw [if_pos z, if_pos z]
                    simp only [bM]
                    rw [hk24]
                  · rw [if_neg z, if_neg z]
                    simp only [bM]
                    rw [hk24]
                · have I3 : InvP t nh nc nk ne nr nx ns (n + 1) (gset (gset (gset M 63 e (M 63 e + nI x)) 116 k (nI x + (if M 117 k = nI e then M 116 k else 0))) 117 k (nI e)) := by
                    obtain ⟨g1, g2, g3, g4, g5, g6, g7, g8, g9, g10, g11, g12, g13, g14⟩ := I
                    exact ⟨g1.up, g2, g3, g4, g5, g6, g7, g8, g9, g10, g11, g12, g13.ext0 hk e1 l5 x2 h57 l4 hbe hle, g14⟩
                  unfold f_X9_dueOf
                  rw [if_pos rfl, e_aDue I3 R (by omega) hk, rb_ret]
                  refine congrArg (fun w => rRet w M') ?_
                  have z1 : asV (gset (gset (gset M 63 e (M 63 e + nI x)) 116 k (nI x + (if M 117 k = nI e then M 116 k else 0))) 117 k (nI e)) ne (nI k) = nI e := has
                  have z2 : mopB (gset (gset (gset M 63 e (M 63 e + nI x)) 116 k (nI x + (if M 117 k = nI e then M 116 k else 0))) 117 k (nI e)) t ne (nI k) = false := hmop
                  unfold adV
                  rw [z1, z2, if_neg hm1, hc]
                  rfl
                · obtain ⟨g1, g2, g3, g4, g5, g6, g7, g8, g9, g10, g11, g12, g13, g14⟩ := I
                  exact ⟨g1.up, g2, g3, g4, g5, g6, g7, g8, g9, g10, g11, g12, g13.ext0 hk e1 l5 x2 h57 l4 hbe hle, g14⟩
              · have : m = e := (nI_eq (by omega) (by omega)).mp hs.symm
                subst this
                refine fin (fun N => gset (gset N 63 m (M 63 m + nI x)) 131 m (M 131 m + nI x)) (fun N => gset N 131 m (M 131 m + nI x)) (fun w => ((((Rf.rfl (gset M 63 m (M 63 m + nI x))).o w).r 0).b _ _ _)) ((Kf.rfl _).m (by omega) _ _) ?_ ek (fun w => ?_) (fun M' R => ?_) (fun w => rfl) (fun w => rfl) (fun w => ?_)
                · obtain ⟨g1, g2, g3, g4, g5, g6, g7, g8, g9, g10, g11, g12, g13, g14⟩ := I
                  exact ⟨g1.up, g2, g3, g4, g5, g6, g7, g8, g9, g10, g11, g12, g13.ext1 e1 l5 x2 m2, g14⟩
                · unfold f_X9_extend_b82
                  rw [rf_0, rb_ret, if_pos rfl, if_neg (by decide), if_pos rfl, hg, hg, hc]
                  rfl
                · have I3 : InvP t nh nc nk ne nr nx ns (n + 1) (gset (gset M 63 m (M 63 m + nI x)) 131 m (M 131 m + nI x)) := by
                    obtain ⟨g1, g2, g3, g4, g5, g6, g7, g8, g9, g10, g11, g12, g13, g14⟩ := I
                    exact ⟨g1.up, g2, g3, g4, g5, g6, g7, g8, g9, g10, g11, g12, g13.ext1 e1 l5 x2 m2, g14⟩
                  unfold f_X9_dueOf
                  rw [if_neg (by decide), if_pos rfl, e_rDue I3 R (by omega) e1 m2, rb_ret]
                · obtain ⟨g1, g2, g3, g4, g5, g6, g7, g8, g9, g10, g11, g12, g13, g14⟩ := I
                  exact ⟨g1.up, g2, g3, g4, g5, g6, g7, g8, g9, g10, g11, g12, g13.ext1 e1 l5 x2 m2, g14⟩
              · have hk24 : ∀ F : gR, gI (nI k) 24 F = F := fun F => gI_nI (by omega) (by omega)
                have hck : (nI k).toNatClampNeg = k := nI_clamp (by omega)
                obtain ⟨k51, hs2⟩ := hs hm1
                obtain ⟨e', y1, y2, y3, y4, y5⟩ := ap_dom I hk k51
                have : e' = e := (nI_eq (by omega) (by omega)).mp (y2.symm.trans hs2.symm)
                subst this
                have hle : M 119 k = -1 ∨ ∃ f, f ≤ e' ∧ M 119 k = nI f := by
                  rcases I.2.2.2.2.2.2.2.2.2.2.2.2.1.2.2.2.2.2.2.1 k hk with z | ⟨f, f1, f2, f3, f4⟩
                  · exact Or.inl z
                  · exact Or.inr ⟨f, y5 f f1 f3 f4, f2⟩
                refine fin (fun N => gset (gset (gset N 63 e' (M 63 e' + nI x)) 118 k (nI x + (if M 119 k = nI e' then M 118 k else 0))) 119 k (nI e')) (fun N => gset (gset N 118 k (nI x + (if M 119 k = nI e' then M 118 k else 0))) 119 k (nI e')) (fun w => ((((Rf.rfl (gset M 63 e' (M 63 e' + nI x))).o w).r 0).b _ _ _).b _ _ _) (((Kf.rfl _).m (by omega) _ _).m (by omega) _ _) ?_ ek (fun w => ?_) (fun M' R => ?_) (fun w => rfl) (fun w => rfl) (fun w => ?_)
                · obtain ⟨g1, g2, g3, g4, g5, g6, g7, g8, g9, g10, g11, g12, g13, g14⟩ := I
                  exact ⟨g1.up, g2, g3, g4, g5, g6, g7, g8, g9, g10, g11, g12, g13.ext2 hk e1 l5 x2 y3 l4 y4 hle, g14⟩
                · have R1 : Rf (gset (gset (gset M 63 e' (M 63 e' + nI x)) 10 0 w) 9 0 0) M := (((Rf.rfl M).s (by omega) (by omega) _ _).o _).r 0
                  unfold f_X9_extend_b82
                  rw [rf_0, rb_ret, if_pos rfl, if_neg (by decide), if_neg (by decide), e_apFrom I R1 hk, rb_ret, if_pos k51, y2, hk24, hk24, hck]
                  show (if M 119 k = nI e' then f_X9_extend_b193 _ _ _ _ _ _ (M 118 k) else _) = _
                  unfold f_X9_extend_b193
                  rw [hk24, hk24, hck]
                  by_cases z : M 119 k = nI e'
                  · rw [if_pos z, if_pos z]
                    simp only [bM]
                    rw [hk24]
                  · rw [if_neg z, if_neg z]
                    simp only [bM]
                    rw [hk24]
                · have I3 : InvP t nh nc nk ne nr nx ns (n + 1) (gset (gset (gset M 63 e' (M 63 e' + nI x)) 118 k (nI x + (if M 119 k = nI e' then M 118 k else 0))) 119 k (nI e')) := by
                    obtain ⟨g1, g2, g3, g4, g5, g6, g7, g8, g9, g10, g11, g12, g13, g14⟩ := I
                    exact ⟨g1.up, g2, g3, g4, g5, g6, g7, g8, g9, g10, g11, g12, g13.ext2 hk e1 l5 x2 y3 l4 y4 hle, g14⟩
                  unfold f_X9_dueOf
                  rw [if_neg (by decide), if_neg (by decide), if_pos rfl, e_apDue I3 R (by omega) hk, rb_ret]
                  refine congrArg (fun w => rRet w M') ?_
                  have z1 : apV (gset (gset (gset M 63 e' (M 63 e' + nI x)) 118 k (nI x + (if M 119 k = nI e' then M 118 k else 0))) 119 k (nI e')) ne (nI k) = nI e' := y2
                  unfold epV
                  rw [z1, hc]
                  exact if_pos k51
                · obtain ⟨g1, g2, g3, g4, g5, g6, g7, g8, g9, g10, g11, g12, g13, g14⟩ := I
                  exact ⟨g1.up, g2, g3, g4, g5, g6, g7, g8, g9, g10, g11, g12, g13.ext2 hk e1 l5 x2 y3 l4 y4 hle, g14⟩
              · exact absurd h s3
            · exact no (by rw [k8, if_neg q, if_neg p]) (Or.inr p)
      · refine agI_no (k := 2) ?_ (by decide) (b := 0) ?_ (inv_no I)
        · unfold f_L_extend
          rw [l8_extend s3 h1 h2, n8_Days hb, rb_thr, rc_thr]
          rfl
        · show f_X9_extend M s a d = _
          rw [x9_extend s3 (h3 M (Rf.rfl M)) (h4 M (Rf.rfl M)), rg_no i1 i60 hb, rb_ret, if_pos rfl]
          exact x9_no 2 (Or.inr (Or.inl rfl))
