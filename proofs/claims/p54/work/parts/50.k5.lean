def reB (M : gM) (t ne m : Nat) : Bool := opnV M t ne m && (!rspB M t ne (nI m) && decide (paV t (duV M ne m) = 0))
/-- a motion, or none -/
theorem mot_cases {t nh nc nk ne nr nx ns n : Nat} {M : gM} (I : InvP t nh nc nk ne nr nx ns n M) (a : Int32) : (∃ m, m < ne ∧ a = nI m ∧ M 55 m = 2 ∧ f_X8_checkMotion M a = rRet 0 M ∧ ∀ M', Rf M' M → f_X9_isMotion M' a = rRet 1 M') ∨ (f_X8_checkMotion M a = rThr 0 M ∧ ∀ M', Rf M' M → f_X9_isMotion M' a = rRet 0 M') := by
  obtain ⟨⟨a1, a2, a3, a4, a5, a6, a7, a8⟩, ⟨b1, b2, b3, b4, b5, b6, b7⟩, l1, l2, l3, l4, l5, l6, l7, l8⟩ := I.1
  have e120 : ∀ M', Rf M' M → M' 120 = M 55 := fun M' R => (R.2 120 (by omega)).trans I.2.2.2.2.2.2.2.2.2.2.1.1.1
  rcases idx_cases a ne (by omega) with ⟨m, hm, rfl⟩ | hb
  · have hg : ∀ F : gR, gI (nI m) 160 F = F := fun F => gI_nI (by omega) (by omega)
    have hc : (nI m).toNatClampNeg = m := nI_clamp (by omega)
    by_cases c2 : M 55 m = 2
    · refine Or.inl ⟨m, hm, rfl, c2, ?_, fun M' R => ?_⟩
      · unfold f_X8_checkMotion
        rw [c8_Entry a5 hm (by omega), rb_ret, hg, hc, if_pos c2]
      · unfold f_X9_isMotion
        rw [c9_Entry ((R.1 23 (by omega)).trans b5) hm (by omega), rb_ret, if_neg i10, hg, hc, e120 M' R, if_pos c2]
    · refine Or.inr ⟨?_, fun M' R => ?_⟩
      · unfold f_X8_checkMotion
        rw [c8_Entry a5 hm (by omega), rb_ret, hg, hc, if_neg c2]
      · unfold f_X9_isMotion
        rw [c9_Entry ((R.1 23 (by omega)).trans b5) hm (by omega), rb_ret, if_neg i10, hg, hc, e120 M' R, if_neg c2]
  · refine Or.inr ⟨?_, fun M' R => ?_⟩
    · unfold f_X8_checkMotion
      rw [n8_Entry a5 hb, rb_thr]
    · unfold f_X9_isMotion
      rw [n9_Entry ((R.1 23 (by omega)).trans b5) (by omega) hb, rb_ret, if_pos rfl]
theorem st_respond : St_respond Inv := by
  intro n M a hn hI
  obtain ⟨t, nh, nc, nk, ne, nr, nx, ns, I⟩ := hI
  obtain ⟨⟨a1, a2, a3, a4, a5, a6, a7, a8⟩, ⟨b1, b2, b3, b4, b5, b6, b7⟩, l1, l2, l3, l4, l5, l6, l7, l8⟩ := I.1
  have gr := I.2.2.1.2.2
  have e104 : M 104 = M 14 := I.2.2.1.2.1
  have e122 : M 122 = M 57 := I.2.2.2.2.2.2.2.2.2.2.1.1.2.2.1
  rcases mot_cases I a with ⟨m, hm, rfl, m2, q8, q9⟩ | ⟨q8, q9⟩
  · have hg : ∀ F : gR, gI (nI m) 160 F = F := fun F => gI_nI (by omega) (by omega)
    have hc : (nI m).toNatClampNeg = m := nI_clamp (by omega)
    obtain ⟨k, c, d, hk, c1, d1, e57, e47, e56⟩ := I.ent hm (by rw [m2]; decide)
    have k8 : f_X8_respond M (nI m) = if reB M t ne m then f_X8_respond_b35 M (nI m) 1 else f_X8_respond_b35 M (nI m) 0 := by
      unfold f_X8_respond f_X8_respond_b34 reB
      rw [q8, rb_ret, e_opn8 I hm, rb_ret, e_rsp8 I hm, rb_ret, e_late8 I (by omega) hm (Or.inr (Or.inl m2)), rb_ret]
      rcases paV_z t (duV M ne m) with z | z
      · rw [z]
        cases opnV M t ne m <;> cases rspB M t ne (nI m) <;> simp
      · rw [z]
        cases opnV M t ne m <;> cases rspB M t ne (nI m) <;> simp
    have k9 : ∀ M', Rf M' M → f_X9_respond M' (nI m) = if ne < 160 then (if reB M t ne m then f_X9_respond_b69 M' (nI m) 0 else f_X9_respond_b69 M' (nI m) 2) else f_X9_respond_b69 M' (nI m) 2 := by
      intro M' R
      unfold f_X9_respond f_X9_respond_b49 f_X9_respond_b50 reB
      rw [q9 M' R, rb_ret, if_neg i10, e_room ((R.1 23 (by omega)).trans b5) (by omega), rb_ret, e_opn9 I R hm, rb_ret, e_rsp9 I R hm, rb_ret, e_rDue I R (by omega) hm m2, rb_ret, e_past9 ((R.1 1 (by omega)).trans b1), rb_ret]
      by_cases c0 : ne < 160
      · rw [if_pos c0, if_neg i10, if_pos c0]
        rcases paV_z t (duV M ne m) with z | z
        · rw [z]
          cases opnV M t ne m <;> cases rspB M t ne (nI m) <;> simp
        · rw [z]
          cases opnV M t ne m <;> cases rspB M t ne (nI m) <;> simp
      · rw [if_neg c0, if_pos rfl, if_neg c0, if_neg i10, if_pos rfl]
    have no : (ne < 160 → reB M t ne m = false) → AgI (f_L_respond M (nI m)) (fun M1 => f_X9_respond M1 (nI m)) (Inv (n + 1)) := by
      intro h
      refine agI_no (k := 2) ?_ (by decide) (b := 0) ?_ (inv_no I)
      · have : f_X8_respond M (nI m) = rThr 2 M := by
          rw [k8]
          unfold f_X8_respond_b35
          by_cases c : ne < 160
          · rw [h c, if_neg (by decide), e_allow0, rb_thr]
          · rw [e_allowF a5 c (by omega), e_allowF a5 c (by omega), rb_thr, ite_self]
        unfold f_L_respond
        rw [this, rc_thr]
        rfl
      · show f_X9_respond M (nI m) = _
        have : f_X9_respond M (nI m) = f_X9_respond_b69 M (nI m) 2 := by
          rw [k9 M (Rf.rfl M)]
          by_cases c : ne < 160
          · rw [if_pos c, h c]; rfl
          · rw [if_neg c]
        rw [this]
        unfold f_X9_respond_b69
        rw [rf_2, rb_ret, if_neg i10]
    by_cases c0 : ne < 160
    · cases cc : reB M t ne m with
      | false => exact no (fun _ => cc)
      | true =>
        refine agI_ok (v := nI ne) (M1 := en8 M ne t 3 (nI k) (nI m) 0) (M2 := gset (gset (gset (gset (en9 (gset (gset (en8 M ne t 3 (nI k) (nI m) 0) 10 0 (nI ne)) 9 0 0) ne t 3 (nI k) (nI m) 0 3) 127 ne (M 112 k)) 128 ne (M 113 k)) 129 ne (M 114 k)) 9 23 (nI (ne + 1))) ?_ ?_ rfl rfl ?_
        · unfold f_L_respond
          rw [k8, cc, if_pos rfl]
          unfold f_X8_respond_b35
          rw [e_allow a5 c0, rb_ret, hg, hc, e57, e_en8n a5 a1 c0 _ _ _ (Or.inr (Or.inl rfl)), rb_ret, rc_ret]
        · have R : Rf (gset (en8 M ne t 3 (nI k) (nI m) 0) 10 0 (nI ne)) M := ((((((((Rf.rfl M).s (by omega) (by omega) _ _).s (by omega) (by omega) _ _).s (by omega) (by omega) _ _).s (by omega) (by omega) _ _).s (by omega) (by omega) _ _).s (by omega) (by omega) _ _).s (by omega) (by omega) _ _).o _
          show f_X9_respond _ (nI m) = _
          rw [k9 _ R, if_pos c0, cc, if_pos rfl]
          unfold f_X9_respond_b69
          rw [rf_0, rb_ret, if_pos rfl, hg, hc]
          show rb (f_X9_enter _ 3 (M 122 m) (nI m) 0) _ = _
          rw [e122, e57, e_en9 (K := 3) (M := gset (gset (en8 M ne t 3 (nI k) (nI m) 0) 10 0 (nI ne)) 9 0 0) b5 b1 c0 (show k < 24 by omega) _ _ (by decide) (show z01 (M 104 3) by rw [e104]; exact (gr 3 (by omega)).2), rb_ret]
          rfl
        · have z6 := I.z61
          obtain ⟨g1, g2, g3, g4, g5, g6, g7, g8, g9, g10, g11, g12, g13, g14⟩ := I
          exact ⟨t, nh, nc, nk, ne + 1, nr, nx, ns, ⟨⟨a1, a2, a3, a4, rfl, a6, a7, a8⟩, ⟨b1, b2, b3, b4, rfl, b6, b7⟩, l1, l2, l3, l4, c0, l6, l7, (Nat.le_succ_of_le l8)⟩, g2, g3, g4.add (by decide), g5, g6.ent0 (by decide), g7, g8, g9, g10,
            g11.ent (by omega) ⟨3, by omega, rfl, fun h => absurd h (by omega), fun _ => ⟨k, hk, rfl⟩⟩ (fun h => absurd h (by decide)) (fun _ => ⟨m, hm, rfl, m2⟩) (fun h => absurd h (by decide)) (fun _ => rfl) (fun h => absurd h (by decide)) (fun _ => rfl) (fun h => absurd h (by decide)) g11.1.2.2.2.2.2,
            g12.ent _, g13.ent (by omega) (fun _ _ => rfl) (fun _ _ => rfl) (fun e => (g13.2.1 e).1) (show z01 (M 104 3) by rw [e104]; exact (gr 3 (by omega)).2) (fun h => absurd h (by unfold kdD; decide)) (fun h => absurd h (by decide)) (fun h => absurd h (by decide)) (fun h => absurd h (by decide)) z6,
            g14.keep (by omega) l4 hk rfl (Or.inr (Or.inr (Or.inr rfl)))⟩
    · exact no (fun h => absurd h c0)
  · refine agI_no (k := 1) ?_ (by decide) (b := 0) ?_ (inv_no I)
    · unfold f_L_respond f_X8_respond
      rw [q8, rb_thr, rc_thr]
      rfl
    · unfold f_X9_respond
      rw [q9 M (Rf.rfl M), rb_ret, if_pos rfl]
      unfold f_X9_respond_b49 f_X9_respond_b50 f_X9_respond_b69
      rw [if_pos rfl, rf_1, rb_ret, if_neg i10]
