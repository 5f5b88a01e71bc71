/-- marks from a day on -/
def mrk (f : Nat → Int32) (lo : Nat) (g : Int32 → Int32) : Nat → Int32 := fun d => if lo ≤ d ∧ d < 1401 then g (f d) else f d
theorem mrk_e (f : Nat → Int32) (g : Int32 → Int32) : mrk f 1401 g = f := by
  funext d
  unfold mrk
  rw [if_neg (by omega)]
theorem mrk_s (f : Nat → Int32) (lo : Nat) (g : Int32 → Int32) (h : lo < 1401) : mrk (upd f lo (g (f lo))) (lo + 1) g = mrk f lo g := by
  funext d
  unfold mrk
  rw [upd_at]
  by_cases c : d = lo
  · rw [if_neg (by omega), if_pos c, if_pos (by omega), c]
  · rw [if_neg c]
    by_cases c2 : lo ≤ d ∧ d < 1401
    · rw [if_pos (by omega), if_pos c2]
    · rw [if_neg (by omega), if_neg c2]
theorem l_turn {a m : Int32} {g : Int32 → Int32} (hg : ∀ x, g x = if a = 0 then x &&& (m ^^^ (-1)) else x ||| m) : ∀ (r d f : Nat) (M : gM), d + r = 1401 → r < f → f_X0_turnStay_l37 f M a m (nI d) = rRet 0 (gput M 11 (mrk (M 11) d g)) := by
  intro r
  induction r with
  | zero =>
    intro d f M hd hf
    obtain ⟨k, rfl⟩ : ∃ k, f = k + 1 := ⟨f - 1, by omega⟩
    obtain rfl : d = 1401 := by omega
    show f_X0_turnStay_lb37 _ M a m (nI 1401) = _
    unfold f_X0_turnStay_lb37
    rw [if_pos (by decide), mrk_e]
    refine congrArg (rRet 0) (funext fun b => ?_)
    unfold gput
    by_cases c : b = 11
    · rw [if_pos c, c]
    · rw [if_neg c]
  | succ r ih =>
    intro d f M hd hf
    obtain ⟨k, rfl⟩ : ∃ k, f = k + 1 := ⟨f - 1, by omega⟩
    have hh : ∀ F : gR, gI (nI d) 1401 F = F := fun F => gI_nI (by omega) (by omega)
    have go : f_X0_turnStay_l37 k (gset M 11 d (g (M 11 d))) a m (nI (d + 1)) = rRet 0 (gput M 11 (mrk (M 11) d g)) := by
      rw [ih (d + 1) k _ (by omega) (by omega)]
      refine congrArg (rRet 0) (funext fun b => ?_)
      unfold gput
      by_cases c : b = 11
      · rw [if_pos c, if_pos c, gset_self, mrk_s _ _ _ (by omega)]
      · rw [if_neg c, if_neg c, gset_ne c]
    show f_X0_turnStay_lb37 _ M a m (nI d) = _
    unfold f_X0_turnStay_lb37
    rw [show (1400 : Int32) = nI 1400 from by decide, if_neg (nI_nlt (by omega) (by omega)), hh, hh, nI_clamp (show d < 2 ^ 31 by omega), hh, hh]
    simp only [bM, bV]
    rw [nI_1, ← go]
    by_cases z : a = 0
    · rw [if_pos z, hg, if_pos z]
    · rw [if_neg z, hg, if_neg z]
theorem sTurn_congr {T T' : Nat → Int32} {d : Int32} : ∀ {n : Nat}, (∀ k, k < n → T k = T' k) → sTurn T d n = sTurn T' d n
  | 0, _ => rfl
  | n + 1, h => by
    show (if d < T n then sTurn T d n else if n % 2 = 0 then 1 else 0) = (if d < T' n then sTurn T' d n else if n % 2 = 0 then 1 else 0)
    rw [h n (by omega), sTurn_congr (fun k hk => h k (by omega))]
theorem sTurn_end {T : Nat → Int32} {t tc : Nat} (ht : t ≤ 900) (h : ∀ k, k < tc → ∃ x, x ≤ t ∧ T k = nI x) : sTurn T (nI 1400) tc = if tc % 2 = 1 then 1 else 0 := by
  cases tc with
  | zero => rfl
  | succ n =>
    obtain ⟨x, x1, x2⟩ := h n (by omega)
    show (if nI 1400 < T n then _ else if n % 2 = 0 then 1 else 0) = _
    rw [x2, if_neg (nI_nlt (by omega) (by omega))]
    by_cases c : n % 2 = 0
    · rw [if_pos c, if_pos (by omega)]
    · rw [if_neg c, if_neg (by omega)]
theorem st_stay : St_stay Inv := by
  intro n M a b' hn hI
  obtain ⟨t, nh, nc, nk, ne, nr, nx, ns, I⟩ := hI
  obtain ⟨⟨a1, a2, a3, a4, a5, a6, a7, a8⟩, ⟨b1, b2, b3, b4, b5, b6, b7⟩, l1, l2, l3, l4, l5, l6, l7, l8⟩ := I.1
  have gr := I.2.2.1.2.2
  have e104 : M 104 = M 14 := I.2.2.1.2.1
  have hb := gb01 b'
  generalize gb b' = b at *
  rcases idx_cases a nc (by omega) with ⟨c, hc, rfl⟩ | hbad
  · have hg8 : ∀ F : gR, gI (nI c) 8 F = F := fun F => gI_nI (by omega) (by omega)
    have hcc : (nI c).toNatClampNeg = c := nI_clamp (by omega)
    obtain ⟨tc, t1, t2, t3, t4⟩ := I.2.2.2.1.2 c (by omega)
    have hon : f_X0_isStayOn M (nI c) = rRet (if tc % 2 = 1 then 1 else 0) M := by
      unfold f_X0_isStayOn gNz
      rw [hg8, hcc, t2, if_neg (c := (2 : Int32) = 0) (by decide), show (2 : Int32) = nI 2 from by decide, pk_rem (show tc < 2 ^ 31 by omega) (by omega) (by omega), show (1 : Int32) = nI 1 from by decide]
      have e := nI_eq (show tc % 2 < 2 ^ 31 by omega) (show 1 < 2 ^ 31 by omega)
      by_cases q : tc % 2 = 1
      · rw [if_pos (e.mpr q), if_pos q]
      · rw [if_neg (fun h => q (e.mp h)), if_neg q]
    have hal : ∀ M', Rf M' M → f_X9_isStayedAlone M' (nI c) 1400 = rRet (if tc % 2 = 1 then 1 else 0) M' := by
      intro M' R
      rw [e_alone ((R.1 23 (by omega)).trans b5) l5, R.2 120 (by omega), R.2 121 (by omega), R.2 122 (by omega), ← t4, show (1400 : Int32) = nI 1400 from by decide, sTurn_end l1 t3]
    have k8 : f_X8_stay M (nI c) b = if (if tc % 2 = 1 then 1 else 0) = b then f_X8_stay_b23 M (nI c) b 0 else f_X8_stay_b23 M (nI c) b 1 := by
      unfold f_X8_stay
      rw [c8_Case a3 hc (by omega), rb_ret, hon, rb_ret]
    have k9 : ∀ M', Rf M' M → f_X9_stay M' (nI c) b = if ne < 160 then (if (if tc % 2 = 1 then 1 else 0) = b then f_X9_stay_b55 M' (nI c) b 2 else f_X9_stay_b55 M' (nI c) b 0) else f_X9_stay_b55 M' (nI c) b 2 := by
      intro M' R
      unfold f_X9_stay f_X9_stay_b33 f_X9_stay_b34
      rw [c9_Case ((R.1 6 (by omega)).trans b3) hc (by omega), rb_ret, if_neg i10, e_room ((R.1 23 (by omega)).trans b5) (by omega), rb_ret, hal M' R, rb_ret, if_neg i10, if_neg i10, if_pos rfl, if_neg i10]
      by_cases c0 : ne < 160
      · rw [if_pos c0, if_neg i10, if_pos c0]
      · rw [if_neg c0, if_pos rfl, if_neg c0]
    by_cases ok : ne < 160 ∧ ¬ (if tc % 2 = 1 then (1 : Int32) else 0) = b
    · obtain ⟨c0, cb⟩ := ok
      have hz3 : z01 (M 104 3) := by rw [e104]; exact (gr 3 (by omega)).2
      have hK : ∃ K : Int32, (K = 11 ∨ K = 12) ∧ (K = 11 ↔ tc % 2 = 0) ∧ (b = 0 ↔ K = 12) ∧ ∀ N u, f_X8_stay_b23 N (nI c) b u = rb (f_X8_allow N u) (fun _ M5 => f_X8_stay_b38 M5 (nI c) b K) := by
        rcases hb with h | h
        · refine ⟨12, Or.inr rfl, ?_, ?_, fun N u => ?_⟩
          · by_cases q : tc % 2 = 1
            · exact ⟨fun h => absurd h (by decide), fun h => by omega⟩
            · rw [if_neg q, h] at cb
              exact absurd rfl cb
          · exact ⟨fun _ => rfl, fun _ => h⟩
          · unfold f_X8_stay_b23
            exact congrArg (rb _) (funext fun x => funext fun M5 => if_pos h)
        · refine ⟨11, Or.inl rfl, ?_, ?_, fun N u => ?_⟩
          · by_cases q : tc % 2 = 1
            · rw [if_pos q, h] at cb
              exact absurd rfl cb
            · exact ⟨fun _ => by omega, fun _ => rfl⟩
          · rw [h]
            exact ⟨fun h => absurd h i10, fun h => absurd h (by decide)⟩
          · unfold f_X8_stay_b23
            exact congrArg (rb _) (funext fun x => funext fun M5 => if_neg (by rw [h]; exact i10))
      obtain ⟨K, hK, hK2, hK3, k23⟩ := hK
      have hK11 : 11 ≤ K := by rcases hK with h | h <;> rw [h] <;> decide
      have hKn : ∀ {z : Int32} {P : Prop}, K = z → z ≠ 11 → z ≠ 12 → P := by
        intro z P h h1 h2
        rcases hK with q | q
        · exact absurd (h.symm.trans q) h1
        · exact absurd (h.symm.trans q) h2
      obtain ⟨g, hgd⟩ : ∃ g : Int32 → Int32, ∀ x, g x = if b = 0 then x &&& ((1 <<< (nI c &&& 31)) ^^^ (-1)) else x ||| (1 <<< (nI c &&& 31)) := ⟨_, fun _ => rfl⟩
      have hr9 : ru9 K = 3 := by rcases hK with h | h <;> rw [h] <;> rfl
      refine agI_ok (v := nI ne) (M1 := gput (gset (gset (en8 M ne t K (nI c) 0 0) 15 (c * 160 + tc) (nI t)) 24 c (nI (tc + 1))) 11 (mrk (M 11) t g)) (M2 := gset (en9 (gset (gset (gput (gset (gset (en8 M ne t K (nI c) 0 0) 15 (c * 160 + tc) (nI t)) 24 c (nI (tc + 1))) 11 (mrk (M 11) t g)) 10 0 (nI ne)) 9 0 0) ne t K (nI c) 0 0 3) 9 23 (nI (ne + 1))) ?_ ?_ rfl rfl ?_
      · have kt : f_X0_turnStay (en8 M ne t K (nI c) 0 0) (nI c) b = rRet 0 (gput (gset (gset (en8 M ne t K (nI c) 0 0) 15 (c * 160 + tc) (nI t)) 24 c (nI (tc + 1))) 11 (mrk (M 11) t g)) := by
          unfold f_X0_turnStay
          rw [hg8, hg8, hcc]
          show gI (M 24 c) 160 (bM (gset (en8 M ne t K (nI c) 0 0) 15 (c * 160 + (M 24 c).toNatClampNeg) (M 1 0)) _) = _
          rw [t2, gI_nI (show tc < 160 by omega) (by omega), nI_clamp (show tc < 2 ^ 31 by omega), a1]
          simp only [bM, bV]
          rw [hg8, hg8]
          show f_X0_turnStay_l37 5000 (gset (gset (en8 M ne t K (nI c) 0 0) 15 (c * 160 + tc) (nI t)) 24 c (M 24 c + 1)) b (1 <<< (nI c &&& 31)) (M 1 0) = _
          rw [t2, nI_1, a1, l_turn (g := g) hgd (1401 - t) t 5000 _ (by omega) (by omega)]
          rfl
        unfold f_L_stay
        rw [k8, if_neg cb, k23, e_allow a5 c0, rb_ret]
        unfold f_X8_stay_b38
        rw [e_en8n a5 a1 c0 _ _ _ (Or.inr (Or.inr (Or.inr (Or.inr (Or.inr hK))))), rb_ret, kt, rb_ret, rc_ret]
      · have R : Rf (gset (gput (gset (gset (en8 M ne t K (nI c) 0 0) 15 (c * 160 + tc) (nI t)) 24 c (nI (tc + 1))) 11 (mrk (M 11) t g)) 10 0 (nI ne)) M := by
          refine Rf.o ?_ _
          have R0 : Rf (gset (gset (en8 M ne t K (nI c) 0 0) 15 (c * 160 + tc) (nI t)) 24 c (nI (tc + 1))) M := (((((((((Rf.rfl M).s (by omega) (by omega) _ _).s (by omega) (by omega) _ _).s (by omega) (by omega) _ _).s (by omega) (by omega) _ _).s (by omega) (by omega) _ _).s (by omega) (by omega) _ _).s (by omega) (by omega) _ _).s (by omega) (by omega) _ _).s (by omega) (by omega) _ _
          refine ⟨fun i hi => ?_, fun e he => ?_⟩
          · unfold gput
            rw [if_neg (by omega)]
            exact R0.1 i hi
          · unfold gput
            rw [if_neg (by omega)]
            exact R0.2 e he
        show f_X9_stay _ (nI c) b = _
        rw [k9 _ R, if_pos c0, if_neg cb]
        unfold f_X9_stay_b55 f_X9_stay_b77
        rw [rf_0, rb_ret, if_pos rfl]
        have en : ∀ N : gM, N = gset (gset (gput (gset (gset (en8 M ne t K (nI c) 0 0) 15 (c * 160 + tc) (nI t)) 24 c (nI (tc + 1))) 11 (mrk (M 11) t g)) 10 0 (nI ne)) 9 0 0 → f_X9_enter N K (nI c) 0 0 = rRet (nI ne) (gset (en9 N ne t K (nI c) 0 0 3) 9 23 (nI (ne + 1))) := by
          intro N hN
          rw [e_en9s (M := N) (by rw [hN]; exact b5) (by rw [hN]; exact b1) c0 _ _ _ hK11 (by rw [hr9, hN]; exact hz3), hr9]
        rcases hb with h | h
        · have hk := hK3.mp h
          rw [if_pos h, ← hk, en _ rfl, rb_ret]
        · have hk : K = 11 := by
            rcases hK with q | q
            · exact q
            · rw [hK3.mpr q] at h
              exact absurd h (by decide)
          rw [if_neg (show ¬ b = 0 by rw [h]; exact i10), ← hk, en _ rfl, rb_ret]
      · have z6 := I.z61
        obtain ⟨g1, g2, g3, g4, g5, g6, g7, g8, g9, g10, g11, g12, g13, g14⟩ := I
        have hbt : ∀ d i, i < 32 → bt (mrk (M 11) t g d) i = if t ≤ d ∧ d < 1401 ∧ i = c then decide (¬ b = 0) else bt (M 11 d) i := by
          intro d i hi
          unfold mrk
          by_cases q : t ≤ d ∧ d < 1401
          · rw [if_pos q]
            rw [hgd]
            by_cases z : b = 0
            · rw [if_pos z, b_and, b_not _ hi, b_one c (by omega) i hi, decide_eq_false (show ¬ ¬ b = 0 from fun h => h z)]
              by_cases y : i = c
              · rw [if_pos ⟨q.1, q.2, y⟩, decide_eq_true y]; simp
              · rw [if_neg (fun h => y h.2.2), decide_eq_false y]; simp
            · rw [if_neg z, b_or, b_one c (by omega) i hi, decide_eq_true z]
              by_cases y : i = c
              · rw [if_pos ⟨q.1, q.2, y⟩, decide_eq_true y]; simp
              · rw [if_neg (fun h => y h.2.2), decide_eq_false y]; simp
          · rw [if_neg q, if_neg (fun h => q ⟨h.1, h.2.1⟩)]
        have hKb : decide (¬ b = 0) = true ↔ K = 11 := by
          rcases hK with q | q
          · have : ¬ b = 0 := fun h => by
              have := hK3.mp h
              rw [q] at this
              exact absurd this (by decide)
            rw [decide_eq_true this]
            exact ⟨fun _ => q, fun _ => rfl⟩
          · have : b = 0 := hK3.mpr q
            rw [decide_eq_false (fun h => h this), q]
            exact ⟨fun h => (by cases h), fun h => absurd h (by decide)⟩
        have G2 : Ghol nh (mrk (M 11) t g) (M 12) (M 102) := by
          refine ⟨g2.1, g2.2.1, g2.2.2.1, fun d hd => ?_⟩
          rw [hbt d 8 (by omega), if_neg (by omega)]
          exact g2.2.2.2 d hd
        have G4 : Gstay t (ne + 1) (mrk (M 11) t g) (upd (M 15) (c * 160 + tc) (nI t)) (upd (M 24) c (nI (tc + 1))) (upd (M 120) ne K) (upd (M 121) ne (nI t)) (upd (M 122) ne (nI c)) := by
          refine ⟨fun c' hc' d hd => ?_, fun c' hc' => ?_⟩
          · rw [hbt d c' (by omega), sAlone_add, if_neg (Int32.not_lt.mpr hK11)]
            have old := g4.1 c' hc' d hd
            by_cases q : c' = c
            · rw [if_pos (c := nI c = nI c') (by rw [q])]
              by_cases y : t ≤ d
              · rw [if_pos ⟨y, by omega, q⟩, if_neg (nI_nlt y (by omega)), hKb]
                by_cases z : K = 11
                · rw [if_pos z]; exact ⟨fun _ => rfl, fun _ => z⟩
                · rw [if_neg z]; exact ⟨fun h => absurd h z, fun h => absurd h (by decide)⟩
              · rw [if_neg (fun h => y h.1), if_pos (nI_lt (by omega) (by omega))]
                exact old
            · rw [if_neg (fun h => q h.2.2), if_neg (fun h => q ((nI_eq (by omega) (by omega)).mp h).symm)]
              exact old
          · by_cases q : c' = c
            · subst q
              refine ⟨tc + 1, by omega, upd_eq, fun k hk => ?_, fun d => ?_⟩
              · rcases lt_sx hk with hk | hk
                · rw [upd_nx (by omega)]
                  exact t3 k hk
                · rw [hk, upd_eq]
                  exact ⟨t, by omega, rfl⟩
              · rw [sAlone_add, if_neg (Int32.not_lt.mpr hK11), if_pos rfl]
                show (if d < upd (M 15) (c' * 160 + tc) (nI t) (c' * 160 + tc) then sTurn _ d tc else if tc % 2 = 0 then 1 else 0) = _
                rw [upd_eq, sTurn_congr (T' := fun k => M 15 (c' * 160 + k)) (fun k hk => upd_nx (by omega)), t4]
                by_cases y : d < nI t
                · rw [if_pos y, if_pos y]
                · rw [if_neg y, if_neg y]
                  by_cases z : K = 11
                  · rw [if_pos z, if_pos (hK2.mp z)]
                  · rw [if_neg z, if_neg (fun h => z (hK2.mpr h))]
            · obtain ⟨tc', u1, u2, u3, u4⟩ := g4.2 c' hc'
              refine ⟨tc', by omega, by rw [upd_nx q]; exact u2, fun k hk => ?_, fun d => ?_⟩
              · rw [upd_nx (by omega)]
                exact u3 k hk
              · rw [sTurn_congr (T' := fun k => M 15 (c' * 160 + k)) (fun k hk => upd_nx (by omega)), u4, sAlone_add, if_neg (Int32.not_lt.mpr hK11), if_neg (fun h => q ((nI_eq (by omega) (by omega)).mp h).symm)]
        exact ⟨t, nh, nc, nk, ne + 1, nr, nx, ns, ⟨⟨a1, a2, a3, a4, rfl, a6, a7, a8⟩, ⟨b1, b2, b3, b4, rfl, b6, b7⟩, l1, l2, l3, l4, c0, l6, l7, (Nat.le_succ_of_le l8)⟩, G2, g3, G4, g5, g6.ent0 (fun h => hKn h (by decide) (by decide)), g7, g8, g9, g10,
          g11.ent (by omega) (by
            rcases hK with q | q
            · exact ⟨11, by omega, q, fun _ => ⟨c, hc, rfl⟩, fun h => absurd h (by omega)⟩
            · exact ⟨12, by omega, q, fun _ => ⟨c, hc, rfl⟩, fun h => absurd h (by omega)⟩) (fun h => hKn h (by decide) (by decide)) (fun h => hKn h (by decide) (by decide)) (fun h => hKn h (by decide) (by decide)) (fun _ => rfl) (fun h => hKn h (by decide) (by decide)) (fun _ => rfl) (fun h => by rcases hK with q | q <;> rw [q] at h <;> exact absurd h (by decide)) g11.1.2.2.2.2.2,
          g12.ent _, g13.ent (by omega) (fun _ _ => rfl) (fun _ _ => rfl) (fun e => (g13.2.1 e).1) hz3 (fun h => by unfold kdD at h; rcases hK with q | q <;> rw [q] at h <;> exact absurd h (by decide)) (fun h => hKn h (by decide) (by decide)) (fun h => by rcases hK with q | q <;> rw [q] at h <;> exact absurd h (by decide)) (fun h => by rcases hK with q | q <;> rw [q] at h <;> exact absurd h (by decide)) z6,
          g14.stay (by omega) l4 hK⟩
    · refine agI_no (k := 2) ?_ (by decide) (b := 0) ?_ (inv_no I)
      · have : f_X8_stay M (nI c) b = rThr 2 M := by
          rw [k8]
          unfold f_X8_stay_b23
          by_cases q : ne < 160
          · have : (if tc % 2 = 1 then (1 : Int32) else 0) = b := by
              by_cases h : (if tc % 2 = 1 then (1 : Int32) else 0) = b
              · exact h
              · exact absurd ⟨q, h⟩ ok
            rw [if_pos this, e_allow0, rb_thr]
          · rw [e_allowF a5 q (by omega), e_allowF a5 q (by omega), rb_thr, ite_self]
        unfold f_L_stay
        rw [this, rc_thr]
        rfl
      · show f_X9_stay M (nI c) b = _
        have : f_X9_stay M (nI c) b = f_X9_stay_b55 M (nI c) b 2 := by
          rw [k9 M (Rf.rfl M)]
          by_cases q : ne < 160
          · have : (if tc % 2 = 1 then (1 : Int32) else 0) = b := by
              by_cases h : (if tc % 2 = 1 then (1 : Int32) else 0) = b
              · exact h
              · exact absurd ⟨q, h⟩ ok
            rw [if_pos q, if_pos this]
          · rw [if_neg q]
        rw [this]
        unfold f_X9_stay_b55
        rw [rf_2, rb_ret, if_neg i10]
  · refine agI_no (k := 1) ?_ (by decide) (b := 0) ?_ (inv_no I)
    · unfold f_L_stay f_X8_stay
      rw [n8_Case a3 hbad, rb_thr, rc_thr]
      rfl
    · unfold f_X9_stay
      rw [n9_Case b3 (by omega) hbad, rb_ret, if_pos rfl]
      unfold f_X9_stay_b33 f_X9_stay_b34 f_X9_stay_b55
      rw [if_pos rfl, rf_1, rb_ret, if_neg i10]
