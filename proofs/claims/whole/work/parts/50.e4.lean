theorem st_exhibit : St_exhibit Inv := by
  intro n M a b hn hI
  obtain ⟨t, nh, nc, nk, ne, nr, nx, ns, I⟩ := hI
  obtain ⟨⟨a1, a2, a3, a4, a5, a6, a7, a8⟩, ⟨b1, b2, b3, b4, b5, b6, b7⟩, l1, l2, l3, l4, l5, l6, l7, l8⟩ := I.1
  have bb : bad a nc ∨ bad b 16 → AgI (f_L_exhibit M a b) (fun M1 => f_X9_exhibit M1 a b) (Inv (n + 1)) := by
    intro hbad
    refine agI_no (k := 1) ?_ (by decide) (b := 0) ?_ (inv_no I)
    · unfold f_L_exhibit f_X8_exhibit
      rcases idx_cases a nc (by omega) with ⟨i, hi, rfl⟩ | hb
      · rw [c8_Case a3 hi (by omega), rb_ret]
        rcases hbad with h | h
        · rw [n8_Person (h := by
            rcases h with h | ⟨-, h⟩
            · exact absurd h (nI_pos (by omega))
            · exact absurd (nI_lt hi (by omega)) h), rb_thr, rc_thr]
          rfl
        · rw [n8_Person h, rb_thr, rc_thr]
          rfl
      · rw [n8_Case a3 hb, rb_thr, rc_thr]
        rfl
    · unfold f_X9_exhibit
      rcases idx_cases a nc (by omega) with ⟨i, hi, rfl⟩ | hb
      · rw [c9_Case b3 hi (by omega), rb_ret, if_neg i10]
        rcases hbad with h | h
        · exact absurd h (fun h => by
            rcases h with h | ⟨-, h⟩
            · exact nI_pos (by omega) h
            · exact h (nI_lt hi (by omega)))
        · rw [n9_Person h, rb_ret]
          rfl
      · rw [n9_Case b3 (by omega) hb, rb_ret]
        rfl
  rcases idx_cases a nc (by omega) with ⟨i, hi, rfl⟩ | hb
  · rcases idx_cases b 16 (by omega) with ⟨p, hp, rfl⟩ | hb
    · by_cases hx : nx < 12
      · have e8 : f_X8_exhibit M (nI i) (nI p) = rRet (nI nx) (gset (gset M 84 nx (nI p)) 7 0 (nI (nx + 1))) := by
          unfold f_X8_exhibit f_X4_add
          rw [c8_Case a3 hi (by omega), rb_ret, c8_Person hp, rb_ret, a7, show (12 : Int32) = nI 12 from by decide, if_pos (nI_lt hx (by omega))]
          simp only [bV, bM, gI_nI hx (show 12 < 2 ^ 31 by omega), nI_clamp (show nx < 2 ^ 31 by omega), rb_ret]
          show rRet _ (gset _ 7 0 (M 7 0 + 1)) = _
          rw [a7, nI_1]
        refine agI_ok (v := nI nx) (M1 := gset (gset M 84 nx (nI p)) 7 0 (nI (nx + 1))) (M2 := gset (gset (gset (gset (gset (gset M 84 nx (nI p)) 7 0 (nI (nx + 1))) 10 0 (nI nx)) 9 0 0) 143 nx (nI p)) 9 48 (nI (nx + 1))) ?_ ?_ rfl rfl ?_
        · unfold f_L_exhibit
          rw [e8, rc_ret]
        · unfold f_X9_exhibit
          rw [c9_Case (M := gset (gset (gset M 84 nx (nI p)) 7 0 (nI (nx + 1))) 10 0 (nI nx)) b3 hi (by omega), rb_ret, if_neg i10, c9_Person hp, rb_ret, if_neg i10]
          show (if M 9 48 = 12 then _ else _) = _
          rw [b7, if_neg (fun h => by
            have := (nI_eq (a := nx) (b := 12) (by omega) (by omega)).mp (h.trans (by decide))
            omega)]
          unfold f_X9_exhibit_b34
          rw [rf_0, rb_ret, if_pos rfl]
          show gI (M 9 48) 12 (bM (gset _ 143 (M 9 48).toNatClampNeg _) _) = _
          rw [b7, gI_nI hx (by omega), nI_clamp (by omega)]
          show rRet (upd (upd (M 9) 0 0) 48 (M 9 48 + 1) 48 - 1) (gset _ 9 48 (M 9 48 + 1)) = _
          rw [b7, nI_1]
          show rRet (nI (nx + 1) - 1) _ = _
          rw [nI_pred]
        · obtain ⟨h1, h2, h3, h4, h5, h6, h7, ⟨x1, x2, x3, x4⟩, h9, h10, h11, h12, h13, h14⟩ := I
          refine ⟨t, nh, nc, nk, ne, nr, nx + 1, ns, ⟨⟨a1, a2, a3, a4, a5, a6, rfl, a8⟩, ⟨b1, b2, b3, b4, b5, b6, rfl⟩, l1, l2, l3, l4, l5, l6, hx, (Nat.le_succ_of_le l8)⟩, h2, h3, h4, h5, h6, h7, ⟨?_, x2, x3, x4⟩, h9, h10, h11, h12, h13.up, h14⟩
          show upd (M 143) nx (nI p) = upd (M 84) nx (nI p)
          rw [x1]
      · have e12 : nx = 12 := by omega
        refine agI_no (k := 2) ?_ (by decide) (b := 0) ?_ (inv_no I)
        · unfold f_L_exhibit f_X8_exhibit
          rw [c8_Case a3 hi (by omega), rb_ret, c8_Person hp, rb_ret, a7, e12, if_neg (by decide), rc_thr]
          rfl
        · unfold f_X9_exhibit
          rw [c9_Case b3 hi (by omega), rb_ret, if_neg i10, c9_Person hp, rb_ret, if_neg i10, b7, e12, if_pos (by decide)]
          rfl
    · exact bb (Or.inr hb)
  · exact bb (Or.inl hb)
