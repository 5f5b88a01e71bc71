theorem upd_nx {f : Nat → Int32} {j k : Nat} {v : Int32} (h : j ≠ k) : upd f k v j = f j := by rw [upd_at, if_neg h]
theorem isIx_upd {n j e : Nat} {f : Nat → Int32} {v : Int32} (h : isIx n v) (h2 : isIx n (f e)) : isIx n (upd f j v e) := by
  rw [upd_at]
  by_cases q : e = j
  · rw [if_pos q]; exact h
  · rw [if_neg q]; exact h2
theorem Gclaim.st {nc nk ne : Nat} {m47 m48 m49 m50 m51 m52 m53 m54 m107 m109 m110 m111 m112 m113 m114 m115 m120 m122 m123 : Nat → Int32} (h : Gclaim nc nk ne m47 m48 m49 m50 m51 m52 m53 m54 m107 m109 m110 m111 m112 m113 m114 m115 m120 m122 m123) {K A T v : Int32} {k : Nat} (hk : k < nk) (hv : isIx 6 v) (hK : K ≠ 10) :
    Gclaim nc nk (ne + 1) m47 m48 m49 m50 (upd m51 k v) m52 m53 m54 m107 m109 m110 m111 (upd m112 k v) m113 m114 m115 (upd m120 ne K) (upd m122 ne A) (upd m123 ne T) :=
  h.ent (by rw [h.1.2.2.2.1]) h.1.2.2.2.2.1 h.1.2.2.2.2.2.1 (fun j hj => isIx_upd hv (h.2.2.1 j hj).1) (fun j hj => ⟨by rw [upd_nx (by omega)]; exact (h.2.2.2.1 j hj).1, (h.2.2.2.1 j hj).2.1⟩) (fun k _ => by rw [if_neg hK])
def stB (M : gM) (k : Nat) : Bool := decide (M 51 k = 0) || (decide (M 51 k = 2) || decide (M 51 k = 3))
theorem st_settle : St_settle Inv := by
  intro n M a hn hI
  obtain ⟨t, nh, nc, nk, ne, nr, nx, ns, I⟩ := hI
  obtain ⟨⟨a1, a2, a3, a4, a5, a6, a7, a8⟩, ⟨b1, b2, b3, b4, b5, b6, b7⟩, l1, l2, l3, l4, l5, l6, l7, l8⟩ := I.1
  have gr := I.2.2.1.2.2
  have e104 : M 104 = M 14 := I.2.2.1.2.1
  have e112 : M 112 = M 51 := I.2.2.2.2.2.1.1.2.2.2.1
  rcases idx_cases a nk (by omega) with ⟨k, hk, rfl⟩ | hb
  · have hg24 : ∀ F : gR, gI (nI k) 24 F = F := fun F => gI_nI (by omega) (by omega)
    have hck : (nI k).toNatClampNeg = k := nI_clamp (by omega)
    have k8 : f_X8_settle M (nI k) = if stB M k then f_X8_settle_b35 M (nI k) 1 else f_X8_settle_b35 M (nI k) 0 := by
      unfold f_X8_settle f_X8_settle_b30 stB
      rw [c8_Claim a4 hk (by omega), rb_ret, hg24, hck]
      simp only [bV]
      by_cases c1 : M 51 k = 0
      · rw [if_pos c1, decide_eq_true c1]; rfl
      · rw [if_neg c1, decide_eq_false c1]
        by_cases c2 : M 51 k = 2
        · rw [if_pos c2, decide_eq_true c2]; rfl
        · rw [if_neg c2, decide_eq_false c2]
          by_cases c3 : M 51 k = 3
          · rw [if_pos c3, decide_eq_true c3]; rfl
          · rw [if_neg c3, decide_eq_false c3]; rfl
    have k9 : ∀ M', Rf M' M → f_X9_settle M' (nI k) = if ne < 160 then (if stB M k then f_X9_settle_b70 M' (nI k) 0 else f_X9_settle_b70 M' (nI k) 2) else f_X9_settle_b70 M' (nI k) 2 := by
      intro M' R
      unfold f_X9_settle f_X9_settle_b46 f_X9_settle_b50 f_X9_settle_b51 stB
      rw [c9_Claim ((R.1 11 (by omega)).trans b4) hk (by omega), rb_ret, if_neg i10, e_room ((R.1 23 (by omega)).trans b5) (by omega), rb_ret, hg24, hg24, hg24, hck, R.2 112 (by omega), e112]
      by_cases c0 : ne < 160
      · rw [if_pos c0, if_neg i10, if_pos c0]
        by_cases c1 : M 51 k = 0
        · rw [if_pos c1, decide_eq_true c1]; rfl
        · rw [if_neg c1, decide_eq_false c1]
          by_cases c2 : M 51 k = 2
          · rw [if_pos c2, decide_eq_true c2]; rfl
          · rw [if_neg c2, decide_eq_false c2]
            by_cases c3 : M 51 k = 3
            · rw [if_pos c3, decide_eq_true c3]; rfl
            · rw [if_neg c3, decide_eq_false c3]; rfl
      · rw [if_neg c0, if_pos rfl, if_neg c0, if_neg i10, if_pos rfl]
    have no : (ne < 160 → stB M k = false) → AgI (f_L_settle M (nI k)) (fun M1 => f_X9_settle M1 (nI k)) (Inv (n + 1)) := by
      intro h
      refine agI_no (k := 2) ?_ (by decide) (b := 0) ?_ (inv_no I)
      · have : f_X8_settle M (nI k) = rThr 2 M := by
          rw [k8]
          unfold f_X8_settle_b35
          by_cases c : ne < 160
          · rw [h c, if_neg (by decide), e_allow0, rb_thr]
          · rw [e_allowF a5 c (by omega), e_allowF a5 c (by omega), rb_thr, ite_self]
        unfold f_L_settle
        rw [this, rc_thr]
        rfl
      · show f_X9_settle M (nI k) = _
        have : f_X9_settle M (nI k) = f_X9_settle_b70 M (nI k) 2 := by
          rw [k9 M (Rf.rfl M)]
          by_cases c : ne < 160
          · rw [if_pos c, h c]; rfl
          · rw [if_neg c]
        rw [this]
        unfold f_X9_settle_b70
        rw [rf_2, rb_ret, if_neg i10]
    by_cases c0 : ne < 160
    · cases cc : stB M k with
      | false => exact no (fun _ => cc)
      | true =>
        refine agI_ok (v := nI ne) (M1 := gset (en8 M ne t 9 (nI k) 0 0) 51 k 4) (M2 := gset (gset (gset (gset (gset (en9 (gset (gset (gset (en8 M ne t 9 (nI k) 0 0) 51 k 4) 10 0 (nI ne)) 9 0 0) ne t 9 (nI k) 0 0 3) 127 ne (M 112 k)) 128 ne (M 113 k)) 129 ne (M 114 k)) 9 23 (nI (ne + 1))) 112 k 4) ?_ ?_ rfl rfl ?_
        · unfold f_L_settle
          rw [k8, cc, if_pos rfl]
          unfold f_X8_settle_b35
          rw [e_allow a5 c0, rb_ret, e_en8n a5 a1 c0 _ _ _ (Or.inr (Or.inr (Or.inr (Or.inl rfl)))), rb_ret, hg24, hck]
          rfl
        · have R : Rf (gset (gset (en8 M ne t 9 (nI k) 0 0) 51 k 4) 10 0 (nI ne)) M := (((((((((Rf.rfl M).s (by omega) (by omega) _ _).s (by omega) (by omega) _ _).s (by omega) (by omega) _ _).s (by omega) (by omega) _ _).s (by omega) (by omega) _ _).s (by omega) (by omega) _ _).s (by omega) (by omega) _ _).s (by omega) (by omega) _ _).o _
          show f_X9_settle _ (nI k) = _
          rw [k9 _ R, if_pos c0, cc, if_pos rfl]
          unfold f_X9_settle_b70
          rw [rf_0, rb_ret, if_pos rfl, e_en9 (K := 9) (M := gset (gset (gset (en8 M ne t 9 (nI k) 0 0) 51 k 4) 10 0 (nI ne)) 9 0 0) b5 b1 c0 (show k < 24 by omega) _ _ (by decide) (show z01 (M 104 3) by rw [e104]; exact (gr 3 (by omega)).2), rb_ret, hg24, hck]
          rfl
        · have z6 := I.z61
          obtain ⟨g1, g2, g3, g4, g5, g6, g7, g8, g9, g10, g11, g12, g13, g14⟩ := I
          exact ⟨t, nh, nc, nk, ne + 1, nr, nx, ns, ⟨⟨a1, a2, a3, a4, rfl, a6, a7, a8⟩, ⟨b1, b2, b3, b4, rfl, b6, b7⟩, l1, l2, l3, l4, c0, l6, l7, (Nat.le_succ_of_le l8)⟩, g2, g3, g4.add (by decide), g5, g6.st hk ⟨4, by omega, rfl⟩ (by decide), g7, g8, g9, g10,
            g11.ent (by omega) ⟨9, by omega, rfl, fun h => absurd h (by omega), fun _ => ⟨k, hk, rfl⟩⟩ (fun h => absurd h (by decide)) (fun h => absurd h (by decide)) (fun h => absurd h (by decide)) (fun _ => rfl) (fun h => absurd h (by decide)) (fun _ => rfl) (fun h => absurd h (by decide)) g11.1.2.2.2.2.2,
            g12.ent _, g13.ent (by omega) (fun _ _ => rfl) (fun _ _ => rfl) (fun e => (g13.2.1 e).1) (show z01 (M 104 3) by rw [e104]; exact (gr 3 (by omega)).2) (fun h => absurd h (by unfold kdD; decide)) (fun h => absurd h (by decide)) (fun h => absurd h (by decide)) (fun h => absurd h (by decide)) z6,
            g14.ent (m50' := M 50) (m51' := upd (M 51) k 4) (m52' := M 52) (m53' := M 53) (m60' := M 60) (m61' := M 61) (c := k) (by omega) l4 hk rfl (fun j hj => ⟨rfl, upd_nx hj, rfl, rfl⟩) ⟨upd_eq.symm, (g14.1 k (by omega)).2⟩ (fun _ _ _ => rfl) (fun w => by rw [upd_eq] at w; exact absurd w (by decide)) (fun e he => ⟨rfl, upd_lt he, upd_lt he, upd_lt he⟩) (fun w => absurd w (by decide)) (fun _ => rfl)⟩
    · exact no (fun h => absurd h c0)
  · refine agI_no (k := 1) ?_ (by decide) (b := 0) ?_ (inv_no I)
    · unfold f_L_settle f_X8_settle
      rw [n8_Claim a4 hb, rb_thr, rc_thr]
      rfl
    · unfold f_X9_settle
      rw [n9_Claim b4 (by omega) hb, rb_ret, if_pos rfl]
      unfold f_X9_settle_b50 f_X9_settle_b51 f_X9_settle_b70
      rw [if_pos rfl, rf_1, rb_ret, if_neg i10]
