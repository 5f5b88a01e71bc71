theorem e_addP {M : gM} {c p : Nat} {s d : Int32} (hc : c < 8) (hp : p < 16) : f_X1_addParty M (nI c) (nI p) s d = rRet 0 (gset (gset (gset (gset M 28 c (M 28 c ||| (1 <<< (nI p &&& 31)))) 27 c (M 27 c + 1)) 29 (c * 16 + p) s) 38 (c * 16 + p) d) := by
  have hcc : (nI c).toNatClampNeg = c := nI_clamp (by omega)
  have hcp : (nI p).toNatClampNeg = p := nI_clamp (by omega)
  have hg : ∀ F : gR, gI (nI c) 8 F = F := fun F => gI_nI hc (by omega)
  have hh : ∀ F : gR, gI (nI p) 16 F = F := fun F => gI_nI hp (by omega)
  unfold f_X1_addParty
  simp only [bM, hg, hh, hcc, hcp]
  rfl
theorem st_join : St_join Inv := by
  intro n M a b c0 hn hI
  obtain ⟨t, nh, nc, nk, ne, nr, nx, ns, I⟩ := hI
  obtain ⟨⟨a1, a2, a3, a4, a5, a6, a7, a8⟩, ⟨b1, b2, b3, b4, b5, b6, b7⟩, l1, l2, l3, l4, l5, l6, l7, l8⟩ := I.1
  have gc := I.2.2.2.2.1
  have no1 : f_X8_join M a b c0 = rThr 0 M → f_X9_join M a b c0 = f_X9_join_b55 M a b c0 1 → AgI (f_L_join M a b c0) (fun M1 => f_X9_join M1 a b c0) (Inv (n + 1)) := by
    intro h8 h9
    refine agI_no (k := 1) ?_ (by decide) (b := 0) (h9.trans ?_) (inv_no I)
    · unfold f_L_join
      rw [h8, rc_thr]
      rfl
    · unfold f_X9_join_b55
      rw [rf_1, rb_ret, if_neg i10]
  have b28 : ∀ a b c0, f_X9_join_b28 M a b c0 = f_X9_join_b55 M a b c0 1 := by
    intro a b c0
    unfold f_X9_join_b28 f_X9_join_b29
    rw [if_pos rfl]
  rcases idx_cases a nc (by omega) with ⟨i, hi, rfl⟩ | hb
  · rcases idx_cases b 16 (by omega) with ⟨p, hp, rfl⟩ | hb
    · rcases idx_cases c0 2 (by omega) with ⟨s, hs, rfl⟩ | hb
      · have hbt := (gc.2.2.1 i (by omega) p hp).1
        have k9 : ∀ M' : gM, M' 9 6 = nI nc → M' 107 = M 107 → f_X9_join M' (nI i) (nI p) (nI s) = if pV (M 107) i p = 0 then f_X9_join_b55 M' (nI i) (nI p) (nI s) 0 else f_X9_join_b55 M' (nI i) (nI p) (nI s) 2 := by
          intro M' h1 h2
          unfold f_X9_join
          rw [c9_Case h1 hi l3, rb_ret, if_neg i10, c9_Person hp, rb_ret, if_neg i10, w9_Side hs, rb_ret, if_neg i10]
          unfold f_X9_join_b29
          rw [if_neg i10, e_isP9 (by omega) hp, rb_ret, h2]
        by_cases hz : M 107 (16 * i + p) = -1
        · have hpv : pV (M 107) i p = 0 := if_pos hz
          have e8 : f_X8_join M (nI i) (nI p) (nI s) = rRet (nI (cntP (M 107) i 16 + 1)) (gset (gset (gset (gset M 28 i (M 28 i ||| (1 <<< (nI p &&& 31)))) 27 i (M 27 i + 1)) 29 (i * 16 + p) (nI s)) 38 (i * 16 + p) (nI t)) := by
            unfold f_X8_join
            rw [c8_Case a3 hi l3, rb_ret, c8_Person hp, rb_ret, c8_Side hs, rb_ret, e_isP8 (by omega) hp hbt, rb_ret, hpv, if_pos rfl, a1, e_addP (by omega) hp, rb_ret, gI_nI (show i < 8 by omega) (by omega), nI_clamp (show i < 2 ^ 31 by omega)]
            show rRet (upd (M 27) i (M 27 i + 1) i) _ = _
            rw [upd_self, (gc.2.2.2.1 i (by omega)).2, nI_1]
          refine agI_ok (v := nI (cntP (M 107) i 16 + 1)) (M1 := gset (gset (gset (gset M 28 i (M 28 i ||| (1 <<< (nI p &&& 31)))) 27 i (M 27 i + 1)) 29 (i * 16 + p) (nI s)) 38 (i * 16 + p) (nI t)) (M2 := gset (gset (gset (gset (gset (gset (gset (gset M 28 i (M 28 i ||| (1 <<< (nI p &&& 31)))) 27 i (M 27 i + 1)) 29 (i * 16 + p) (nI s)) 38 (i * 16 + p) (nI t)) 10 0 (nI (cntP (M 107) i 16 + 1))) 9 0 0) 107 (16 * i + p) (nI s)) 108 (16 * i + p) (nI t)) ?_ ?_ rfl rfl ?_
          · unfold f_L_join
            rw [e8, rc_ret]
          · refine Eq.trans (k9 _ b3 rfl) ?_
            rw [hpv, if_pos rfl]
            unfold f_X9_join_b55
            rw [rf_0, rb_ret, if_pos rfl, ix16, gI_nI (show 16 * i + p < 128 by omega) (by omega), nI_clamp (show 16 * i + p < 2 ^ 31 by omega)]
            show gI (nI (16 * i + p)) 128 (bM (gset _ 108 (16 * i + p) (M 9 1)) (fun M10 => f_X9_join_l96 5000 M10 (nI i) 0 0)) = _
            rw [gI_nI (show 16 * i + p < 128 by omega) (by omega), b1]
            show f_X9_join_l96 5000 _ (nI i) 0 0 = _
            generalize hM3 : gset (gset (gset (gset (gset (gset (gset (gset M 28 i (M 28 i ||| (1 <<< (nI p &&& 31)))) 27 i (M 27 i + 1)) 29 (i * 16 + p) (nI s)) 38 (i * 16 + p) (nI t)) 10 0 (nI (cntP (M 107) i 16 + 1))) 9 0 0) 107 (16 * i + p) (nI s)) 108 (16 * i + p) (nI t) = M3
            have h107 : M3 107 = upd (M 107) (16 * i + p) (nI s) := by rw [← hM3]; rfl
            have k := l_cnt (M := M3) (c := i) (by omega) 16 0 5000 (by omega) (by omega)
            rw [show cntP (M3 107) i 0 = 0 from rfl, nI_0, h107, cntP_up hp hz (m1_ne (by omega)) 16 (Nat.le_refl _), if_pos hp] at k
            exact k
          · obtain ⟨h1, h2, h3, h4, h5, h6, h7, h8, h9, h10, h11, h12, h13, h14⟩ := I
            exact ⟨t, nh, nc, nk, ne, nr, nx, ns, h1.up, h2, h3, h4, h5.add hi l3 hp hs hz, h6.add hs, h7, h8, h9, h10, h11, h12, h13.up, h14⟩
        · have hpv : pV (M 107) i p = 1 := if_neg hz
          refine agI_no (k := 2) ?_ (by decide) (b := 0) ?_ (inv_no I)
          · unfold f_L_join f_X8_join
            rw [c8_Case a3 hi l3, rb_ret, c8_Person hp, rb_ret, c8_Side hs, rb_ret, e_isP8 (by omega) hp hbt, rb_ret, hpv, if_neg i10, rc_thr]
            rfl
          · refine Eq.trans (k9 M b3 rfl) ?_
            rw [hpv, if_neg i10]
            unfold f_X9_join_b55
            rw [rf_2, rb_ret, if_neg i10]
      · refine no1 ?_ ?_
        · unfold f_X8_join
          rw [c8_Case a3 hi l3, rb_ret, c8_Person hp, rb_ret, n8_Side hb, rb_thr]
        · unfold f_X9_join
          rw [c9_Case b3 hi l3, rb_ret, if_neg i10, c9_Person hp, rb_ret, if_neg i10, v9_Side hb, rb_ret, if_pos rfl, b28]
    · refine no1 ?_ ?_
      · unfold f_X8_join
        rw [c8_Case a3 hi l3, rb_ret, n8_Person hb, rb_thr]
      · unfold f_X9_join
        rw [c9_Case b3 hi l3, rb_ret, if_neg i10, n9_Person hb, rb_ret, if_pos rfl, b28]
  · refine no1 ?_ ?_
    · unfold f_X8_join
      rw [n8_Case a3 hb, rb_thr]
    · unfold f_X9_join
      rw [n9_Case b3 l3 hb, rb_ret, if_pos rfl, b28]
