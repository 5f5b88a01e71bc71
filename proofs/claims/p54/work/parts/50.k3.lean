theorem z01_upd {f : Nat → Int32} {j e : Nat} {v : Int32} (h : z01 v) (h2 : z01 (f e)) : z01 (upd f j v e) := by
  rw [upd_at]
  by_cases q : e = j
  · rw [if_pos q]; exact h
  · rw [if_neg q]; exact h2
theorem st_motion : St_motion Inv := by
  intro n M a hn hI
  obtain ⟨t, nh, nc, nk, ne, nr, nx, ns, I⟩ := hI
  obtain ⟨⟨a1, a2, a3, a4, a5, a6, a7, a8⟩, ⟨b1, b2, b3, b4, b5, b6, b7⟩, l1, l2, l3, l4, l5, l6, l7, l8⟩ := I.1
  have gr := I.2.2.1.2.2
  have e104 : M 104 = M 14 := I.2.2.1.2.1
  have e103 : M 103 = M 13 := I.2.2.1.1
  obtain ⟨⟨x, x1, x2, x3⟩, -⟩ := gr 1 (by omega)
  rcases idx_cases a nk (by omega) with ⟨k, hk, rfl⟩ | hb
  · have k8 : f_X8_motion M (nI k) = if caB M t ne k then f_X8_motion_b34 M (nI k) 1 else f_X8_motion_b34 M (nI k) 0 := by
      unfold f_X8_motion f_X8_motion_b33 caB
      rw [c8_Claim a4 hk (by omega), rb_ret, e_un8 I hk, rb_ret]
      cases hu : unB M t ne k with
      | false => rfl
      | true =>
        rw [if_pos rfl, if_neg i10, e_aStart I, rb_ret, e_lateA I (by omega) hk (un_mop hu), rb_ret]
        rcases paV_z t (adV M t ne (nI k)) with z | z
        · rw [z]; rfl
        · rw [z]; rfl
    have no : (ne < 160 → caB M t ne k = false) → AgI (f_L_motion M (nI k)) (fun M1 => f_X9_motion M1 (nI k)) (Inv (n + 1)) := by
      intro h
      refine agI_no (k := 2) ?_ (by decide) (b := 0) ?_ (inv_no I)
      · have : f_X8_motion M (nI k) = rThr 2 M := by
          rw [k8]
          unfold f_X8_motion_b34
          by_cases c : ne < 160
          · rw [h c, if_neg (by decide), e_allow0, rb_thr]
          · rw [e_allowF a5 c (by omega), e_allowF a5 c (by omega), rb_thr, ite_self]
        unfold f_L_motion
        rw [this, rc_thr]
        rfl
      · unfold f_X9_motion
        rw [c9_Claim b4 hk (by omega), rb_ret, if_neg i10, e_can9 I (Rf.rfl M) (by omega) hk, rb_ret]
        have : (if ne < 160 then if caB M t ne k = true then (1 : Int32) else 0 else 0) = 0 := by
          by_cases c : ne < 160
          · rw [if_pos c, h c]; rfl
          · rw [if_neg c]
        rw [this, if_pos rfl]
        unfold f_X9_motion_b28
        rw [rf_2, rb_ret, if_neg i10]
    by_cases c0 : ne < 160
    · cases cc : caB M t ne k with
      | false => exact no (fun _ => cc)
      | true =>
        obtain ⟨h51, s, s1, s2, s3⟩ := un_serve (show unB M t ne k = true by
          unfold caB at cc
          rw [Bool.and_eq_true] at cc
          exact cc.1)
        refine agI_ok (v := nI ne) (M1 := gset (gset (en8 M ne t 2 (nI k) 0 0) 63 ne (M 13 1)) 64 ne (M 14 1)) (M2 := gset (gset (gset (gset (en9 (gset (gset (gset (gset (en8 M ne t 2 (nI k) 0 0) 63 ne (M 13 1)) 64 ne (M 14 1)) 10 0 (nI ne)) 9 0 0) ne t 2 (nI k) 0 0 1) 127 ne (M 112 k)) 128 ne (M 113 k)) 129 ne (M 114 k)) 9 23 (nI (ne + 1))) ?_ ?_ rfl rfl ?_
        · unfold f_L_motion
          rw [k8, cc, if_pos rfl]
          unfold f_X8_motion_b34
          rw [e_allow a5 c0, rb_ret, e_en8r (r := 1) a5 a1 c0 _ _ _ (by decide) (by decide) (fun N => rfl) (by omega) (gr 1 (by omega)).2, rb_ret, rc_ret]
        · have R : Rf (gset (gset (gset (en8 M ne t 2 (nI k) 0 0) 63 ne (M 13 1)) 64 ne (M 14 1)) 10 0 (nI ne)) M := ((((((((((Rf.rfl M).s (by omega) (by omega) _ _).s (by omega) (by omega) _ _).s (by omega) (by omega) _ _).s (by omega) (by omega) _ _).s (by omega) (by omega) _ _).s (by omega) (by omega) _ _).s (by omega) (by omega) _ _).s (by omega) (by omega) _ _).s (by omega) (by omega) _ _).o _
          unfold f_X9_motion
          rw [c9_Claim (M := gset (gset (gset (en8 M ne t 2 (nI k) 0 0) 63 ne (M 13 1)) 64 ne (M 14 1)) 10 0 (nI ne)) b4 hk (by omega), rb_ret, if_neg i10, e_can9 I R (by omega) hk, rb_ret, if_pos c0, cc, if_pos rfl, if_neg i10]
          unfold f_X9_motion_b28
          rw [rf_0, rb_ret, if_pos rfl, e_en9 (K := 2) (M := gset (gset (gset (gset (en8 M ne t 2 (nI k) 0 0) 63 ne (M 13 1)) 64 ne (M 14 1)) 10 0 (nI ne)) 9 0 0) b5 b1 c0 (show k < 24 by omega) _ _ (by decide) (show z01 (M 104 1) by rw [e104]; exact (gr 1 (by omega)).2), rb_ret]
          rfl
        · have z6 := I.z61
          obtain ⟨g1, g2, g3, g4, g5, g6, g7, g8, g9, g10, g11, g12, g13, g14⟩ := I
          exact ⟨t, nh, nc, nk, ne + 1, nr, nx, ns, ⟨⟨a1, a2, a3, a4, rfl, a6, a7, a8⟩, ⟨b1, b2, b3, b4, rfl, b6, b7⟩, l1, l2, l3, l4, c0, l6, l7, (Nat.le_succ_of_le l8)⟩, g2, g3, g4.add (by decide), g5, g6.ent0 (by decide), g7, g8, g9, g10,
            g11.ent (by omega) ⟨2, by omega, rfl, fun h => absurd h (by omega), fun _ => ⟨k, hk, rfl⟩⟩ (fun h => absurd h (by decide)) (fun h => absurd h (by decide)) (fun h => absurd h (by decide)) (fun _ => rfl) (fun h => absurd h (by decide)) (fun _ => rfl) (fun _ => ⟨s, s1, s2, s3⟩) g11.1.2.2.2.2.2,
            g12.ent _, g13.ent (m63' := upd (M 63) ne (M 13 1)) (m64' := upd (M 64) ne (M 14 1)) (R := M 103 1) (W := M 104 1) (by omega) (fun e he => upd_lt he) (fun e he => upd_lt he) (fun e => z01_upd (gr 1 (by omega)).2 (g13.2.1 e).1) (show z01 (M 104 1) by rw [e104]; exact (gr 1 (by omega)).2) (fun _ => ⟨⟨x, x1, by omega, by rw [upd_eq]; exact x3⟩, by rw [upd_eq, e104]⟩) (fun _ => by rw [upd_eq, e103]) (fun h => absurd h (by decide)) (fun h => absurd h (by decide)) z6,
            g14.keep (by omega) l4 hk rfl (Or.inr (Or.inr (Or.inl rfl)))⟩
    · exact no (fun h => absurd h c0)
  · refine agI_no (k := 1) ?_ (by decide) (b := 0) ?_ (inv_no I)
    · unfold f_L_motion f_X8_motion
      rw [n8_Claim a4 hb, rb_thr, rc_thr]
      rfl
    · unfold f_X9_motion
      rw [n9_Claim b4 (by omega) hb, rb_ret, if_pos rfl]
      unfold f_X9_motion_b28
      rw [rf_1, rb_ret, if_neg i10]
