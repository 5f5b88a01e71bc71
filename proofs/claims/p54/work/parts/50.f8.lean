theorem st_claim : St_claim Inv := by
  intro n M a b c0 d0 hn hI
  obtain ⟨t, nh, nc, nk, ne, nr, nx, ns, I⟩ := hI
  obtain ⟨⟨a1, a2, a3, a4, a5, a6, a7, a8⟩, ⟨b1, b2, b3, b4, b5, b6, b7⟩, l1, l2, l3, l4, l5, l6, l7, l8⟩ := I.1
  have gc := I.2.2.2.2.1
  have no1 : f_X8_claim M a b c0 d0 = rThr 0 M → f_X9_claim M a b c0 d0 = f_X9_claim_b26 M a b c0 d0 → AgI (f_L_claim M a b c0 d0) (fun M1 => f_X9_claim M1 a b c0 d0) (Inv (n + 1)) := by
    intro h8 h9
    refine agI_no (k := 1) ?_ (by decide) (b := 0) (h9.trans ?_) (inv_no I)
    · unfold f_L_claim
      rw [h8, rc_thr]
      rfl
    · unfold f_X9_claim_b26 f_X9_claim_b27
      rw [if_pos rfl]
      unfold f_X9_claim_b90 f_X9_claim_b91
      rw [if_pos rfl]
      unfold f_X9_claim_b128
      rw [rf_1, rb_ret, if_neg i10]
  rcases idx_cases a nc (by omega) with ⟨c, hc, rfl⟩ | hb
  · rcases idx_cases b 16 (by omega) with ⟨p, hp, rfl⟩ | hb
    · rcases idx_cases c0 16 (by omega) with ⟨q, hq, rfl⟩ | hb
      · have gp := gc.2.2.1 c (by omega) p hp
        have gq := gc.2.2.1 c (by omega) q hq
        have k8 : f_X1_areOpposed M (nI c) (nI p) (nI q) = rRet (if opp (M 107) c p q then 1 else 0) M := e_opp8 (by omega) hp hq gp.1 gq.1 (fun h => (gp.2 h).2) (fun h => (gq.2 h).2)
        have k9 : ∀ M' : gM, M' 9 6 = nI nc → M' 9 11 = nI nk → M' 107 = M 107 → f_X9_claim M' (nI c) (nI p) (nI q) d0 = f_X9_claim_b91 M' (nI c) (nI p) (nI q) d0 1 (if opp (M 107) c p q ∧ nk < 24 then 1 else 0) := by
          intro M' h1 h2 h3
          rw [e_claim9 h1 h2 l3 l4 hc hp hq, h3]
        have h1r : nI 1 = (1 : Int32) := by decide
        have h9r : nI 99999 = (99999 : Int32) := by decide
        rcases rng_cases d0 1 99999 (by omega) (by omega) with ⟨x, x1, x2, rfl⟩ | hb
        · have hca : f_X8_checkAmount M (nI x) 99999 = rRet 0 M := by
            unfold f_X8_checkAmount
            rw [← h1r, ← h9r, if_neg (nI_nlt x1 (by omega)), if_pos (nI_le x2 (by omega))]
          by_cases ho : opp (M 107) c p q ∧ nk < 24
          · have e8 : f_X8_claim M (nI c) (nI p) (nI q) (nI x) = rRet (nI nk) (gset (gset (gset (gset (gset (gset (gset M 47 nk (nI c)) 48 nk (nI p)) 49 nk (nI q)) 50 nk (nI x)) 51 nk 0) 52 nk (-1)) 3 0 (nI (nk + 1))) := by
              unfold f_X8_claim
              rw [c8_Case a3 hc l3, rb_ret, c8_Person hp, rb_ret, c8_Person hq, rb_ret, hca, rb_ret, k8, rb_ret, if_pos ho.1, if_neg i10, a4, show (24 : Int32) = nI 24 from by decide, if_pos (nI_lt ho.2 (by omega)), e_add2 a4 ho.2, rb_ret]
            refine agI_ok (v := nI nk) (M1 := gset (gset (gset (gset (gset (gset (gset M 47 nk (nI c)) 48 nk (nI p)) 49 nk (nI q)) 50 nk (nI x)) 51 nk 0) 52 nk (-1)) 3 0 (nI (nk + 1))) (M2 := gset (gset (gset (gset (gset (gset (gset (gset (gset (gset (gset (gset (gset (gset (gset (gset (gset M 47 nk (nI c)) 48 nk (nI p)) 49 nk (nI q)) 50 nk (nI x)) 51 nk 0) 52 nk (-1)) 3 0 (nI (nk + 1))) 10 0 (nI nk)) 9 0 0) 109 nk (nI c)) 110 nk (nI p)) 111 nk (nI q)) 113 nk (nI x)) 114 nk (-1)) 117 nk (-1)) 119 nk (-1)) 9 11 (nI (nk + 1))) ?_ ?_ rfl rfl ?_
            · unfold f_L_claim
              rw [e8, rc_ret]
            · refine Eq.trans (k9 _ b3 b4 rfl) ?_
              rw [if_pos ho]
              unfold f_X9_claim_b91
              rw [if_neg i10, rg_ok h1r h9r x1 x2 (by omega), rb_ret, if_neg i10, if_neg i10, e_b128 (hn := ho.2)]
              exact b4
            · obtain ⟨h1, h2, h3, h4, h5, h6, h7, h8, h9, h10, h11, h12, h13, h14⟩ := I
              have hpq : p ≠ q := fun e => ho.1.2.2 (by rw [e])
              have z51 : M 51 nk = 0 := (h6.2.2.2.1 nk (Nat.le_refl _)).1
              have u51 : upd (M 51) nk 0 = M 51 := by
                have := upd_id (M 51) nk
                rw [z51] at this
                exact this
              refine ⟨t, nh, nc, nk + 1, ne, nr, nx, ns, ⟨⟨a1, a2, a3, rfl, a5, a6, a7, a8⟩, ⟨b1, b2, b3, rfl, b5, b6, b7⟩, l1, l2, l3, ho.2, l5, l6, l7, (Nat.le_succ_of_le l8)⟩, h2, h3, h4, h5, ?_, h7, h8, h9, h10, h11.nk, h12, (h13.nk h11 ho.2).up, ?_⟩
              · show Gclaim nc (nk + 1) ne (upd (M 47) nk (nI c)) (upd (M 48) nk (nI p)) (upd (M 49) nk (nI q)) (upd (M 50) nk (nI x)) (upd (M 51) nk 0) (upd (M 52) nk (-1)) (M 53) (M 54) (M 107) (upd (M 109) nk (nI c)) (upd (M 110) nk (nI p)) (upd (M 111) nk (nI q)) (M 112) (upd (M 113) nk (nI x)) (upd (M 114) nk (-1)) (M 115) (M 120) (M 122) (M 123)
                rw [u51]
                exact h6.nk hc hp hq hpq ho.1.1 ho.1.2.1
              · show Gd4 (nk + 1) ne (upd (M 50) nk (nI x)) (upd (M 51) nk 0) (upd (M 52) nk (-1)) (M 53) (M 55) (M 56) (M 57) (M 58) (M 60) (M 61) (M 127) (M 128) (M 129)
                rw [u51]
                exact h14.nk h11 ho.2 z51
          · refine agI_no (k := 3) ?_ (by decide) (b := 0) ?_ (inv_no I)
            · have e8 : f_X8_claim M (nI c) (nI p) (nI q) (nI x) = rThr 2 M := by
                unfold f_X8_claim
                rw [c8_Case a3 hc l3, rb_ret, c8_Person hp, rb_ret, c8_Person hq, rb_ret, hca, rb_ret, k8, rb_ret]
                by_cases ho1 : opp (M 107) c p q
                · rw [if_pos ho1, if_neg i10, a4, show (24 : Int32) = nI 24 from by decide, if_neg (fun z => ho ⟨ho1, (nI_ltI (by omega) (by omega)).mp z⟩)]
                · rw [if_neg ho1, if_pos rfl]
              unfold f_L_claim
              rw [e8, rc_thr]
              rfl
            · refine Eq.trans (k9 M b3 b4 rfl) ?_
              rw [if_neg ho]
              unfold f_X9_claim_b91
              rw [if_neg i10, rg_ok h1r h9r x1 x2 (by omega), rb_ret, if_neg i10, if_pos rfl]
              unfold f_X9_claim_b128
              rw [rf_3, rb_ret, if_neg i10]
        · refine agI_no (k := 2) ?_ (by decide) (b := 0) ?_ (inv_no I)
          · have hca : f_X8_checkAmount M d0 99999 = rThr 1 M := by
              unfold f_X8_checkAmount
              rw [← h1r, ← h9r]
              rcases hb with z | ⟨z, z2⟩
              · rw [if_pos z]
              · rw [if_neg z, if_neg (Int32.not_le.mpr z2)]
            unfold f_L_claim f_X8_claim
            rw [c8_Case a3 hc l3, rb_ret, c8_Person hp, rb_ret, c8_Person hq, rb_ret, hca, rb_thr, rc_thr]
            rfl
          · refine Eq.trans (k9 M b3 b4 rfl) ?_
            unfold f_X9_claim_b91
            rw [if_neg i10, rg_no h1r h9r hb, rb_ret, if_pos rfl]
            unfold f_X9_claim_b128
            rw [rf_2, rb_ret, if_neg i10]
      · refine no1 ?_ ?_
        · unfold f_X8_claim
          rw [c8_Case a3 hc l3, rb_ret, c8_Person hp, rb_ret, n8_Person hb, rb_thr]
        · unfold f_X9_claim
          rw [c9_Case b3 hc l3, rb_ret, if_neg i10, c9_Person hp, rb_ret, if_neg i10, n9_Person hb, rb_ret, if_pos rfl]
    · refine no1 ?_ ?_
      · unfold f_X8_claim
        rw [c8_Case a3 hc l3, rb_ret, n8_Person hb, rb_thr]
      · unfold f_X9_claim
        rw [c9_Case b3 hc l3, rb_ret, if_neg i10, n9_Person hb, rb_ret, if_pos rfl]
  · refine no1 ?_ ?_
    · unfold f_X8_claim
      rw [n8_Case a3 hb, rb_thr]
    · unfold f_X9_claim
      rw [n9_Case b3 l3 hb, rb_ret, if_pos rfl]
