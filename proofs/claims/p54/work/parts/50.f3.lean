theorem upd_self (f : Nat → Int32) (j : Nat) (v : Int32) : upd f j v j = v := if_pos rfl
theorem upd_ne {f : Nat → Int32} {j i : Nat} {v : Int32} (h : i ≠ j) : upd f j v i = f i := if_neg h
theorem e_add7 {M : gM} {ns : Nat} {e d v : Int32} (h : M 8 0 = nI ns) (hn : ns < 512) (hv : z01 v) : f_X7_add M e d v = rRet 0 (gset (gset (gset (gset M 99 ns e) 100 ns d) 101 ns v) 8 0 (nI (ns + 1))) := by
  have hc : (nI ns).toNatClampNeg = ns := nI_clamp (by omega)
  have hg : ∀ F : gR, gI (nI ns) 512 F = F := fun F => gI_nI hn (by omega)
  unfold f_X7_add
  rw [h, show (512 : Int32) = nI 512 from by decide, if_neg (nI_ge hn (by omega)), hg, hc]
  show gI (M 8 0) 512 (bM (gset _ 100 (M 8 0).toNatClampNeg d) _) = _
  rw [h, hg, hc]
  show gZ01 v (gI (M 8 0) 512 (bM (gset _ 101 (M 8 0).toNatClampNeg v) _)) = _
  rw [h, z01_eq hv, hg, hc]
  show rRet 0 (gset _ 8 0 (M 8 0 + 1)) = _
  rw [h, nI_1]
theorem st_seal : St_seal Inv := by
  intro n M a c0 hn hI
  obtain ⟨t, nh, nc, nk, ne, nr, nx, ns, I⟩ := hI
  obtain ⟨⟨a1, a2, a3, a4, a5, a6, a7, a8⟩, ⟨b1, b2, b3, b4, b5, b6, b7⟩, l1, l2, l3, l4, l5, l6, l7, l8⟩ := I.1
  have hv := gb01 c0
  generalize gb c0 = v at hv ⊢
  rcases idx_cases a ne (by omega) with ⟨e, he, rfl⟩ | hb
  · obtain ⟨g1, g2, g3⟩ := I.2.2.2.2.2.2.2.2.2.1
    have hs := g3 e (by omega) t (by omega)
    have hz : z01 (sSeal (M 99) (M 100) (M 101) (nI e) (nI t) ns) := sSeal_z g2 ns
    have k8 : f_X8_seal M (nI e) v = if sSeal (M 99) (M 100) (M 101) (nI e) (nI t) ns = v then f_X8_seal_b29 M (nI e) v 0 else f_X8_seal_b29 M (nI e) v 1 := by
      unfold f_X8_seal
      rw [c8_Entry a5 he (by omega), rb_ret, a1, e_isSealed a8 (by omega) g2, rb_ret]
    generalize hS : sSeal (M 99) (M 100) (M 101) (nI e) (nI t) ns = s at hs hz k8
    have k9 : ∀ M' : gM, M' 9 1 = nI t → M' 9 23 = nI ne → M' 136 = M 136 → f_X9_seal M' (nI e) v = rRet (if s = v then 0 else 1) (gput (gset M' 9 0 0) 136 (updR (M 136) (901 * e + t) (901 * e + 901) v)) := by
      intro M' h1 h2 h3
      unfold f_X9_seal
      rw [c9_Entry h2 he (by omega), rb_ret, if_neg i10]
      unfold f_X9_seal_b14
      rw [rf_0, rb_ret, if_pos rfl]
      show gI (901 * nI e + M' 9 1) 144160 (bV (M' 136 (901 * nI e + M' 9 1).toNatClampNeg) (fun x5 => bV (M' 9 1) (fun x6 => f_X9_seal_l44 5000 (gset M' 9 0 0) (nI e) v x5 x6))) = _
      rw [h1, ix901, gI_nI (show 901 * e + t < 144160 by omega) (by omega), nI_clamp (show 901 * e + t < 2 ^ 31 by omega), h3, hs]
      show f_X9_seal_l44 5000 (gset M' 9 0 0) (nI e) v s (nI t) = _
      rw [l_seal9 (by omega) hv (901 - t) t 5000 _ (by omega) (by omega)]
      show rRet _ (gput _ 136 (updR (M' 136) _ _ v)) = _
      rw [h3]
    by_cases c : s = v
    · refine agB_ok (v := 0) (M1 := M) (M2 := gput (gset (gset M 10 0 0) 9 0 0) 136 (updR (M 136) (901 * e + t) (901 * e + 901) v)) ?_ ?_ rfl rfl ?_
      · unfold f_L_seal
        rw [k8, if_pos c]
        unfold f_X8_seal_b29
        rw [if_pos rfl, z01_eq (Or.inl rfl), rc_ret]
        rfl
      · refine Eq.trans (k9 _ b1 b5 rfl) ?_
        rw [if_pos c]
        rfl
      · obtain ⟨h1, h2, h3, h4, h5, h6, h7, h8, h9, h10, h11, h12, h13, h14⟩ := I
        refine ⟨t, nh, nc, nk, ne, nr, nx, ns, h1.up, h2, h3, h4, h5, h6, h7, h8, h9, ⟨g1, g2, fun e2 he2 d2 hd2 => ?_⟩, h11, h12, h13.up, h14⟩
        show updR (M 136) (901 * e + t) (901 * e + 901) v (901 * e2 + d2) = sSeal (M 99) (M 100) (M 101) (nI e2) (nI d2) ns
        unfold updR
        by_cases hx : 901 * e + t ≤ 901 * e2 + d2 ∧ 901 * e2 + d2 < 901 * e + 901
        · rw [if_pos hx]
          have h5 : e2 = e := by omega
          subst h5
          rw [sSeal_late (t := t) (by omega) (by omega) ns g1, hS, c]
        · rw [if_neg hx]
          exact g3 e2 he2 d2 hd2
    · refine agB_ok (v := 1) (M1 := gset (gset (gset (gset M 99 ns (nI e)) 100 ns (nI t)) 101 ns v) 8 0 (nI (ns + 1))) (M2 := gput (gset (gset (gset (gset (gset (gset M 99 ns (nI e)) 100 ns (nI t)) 101 ns v) 8 0 (nI (ns + 1))) 10 0 1) 9 0 0) 136 (updR (M 136) (901 * e + t) (901 * e + 901) v)) ?_ ?_ rfl rfl ?_
      · unfold f_L_seal
        rw [k8, if_neg c]
        unfold f_X8_seal_b29
        rw [if_neg i10, a1, e_add7 a8 (by omega) hv, rb_ret, z01_eq (Or.inr rfl), rc_ret]
        rfl
      · refine Eq.trans (k9 _ b1 b5 rfl) ?_
        rw [if_neg c]
        rfl
      · obtain ⟨h1, h2, h3, h4, h5, h6, h7, h8, h9, h10, h11, h12, h13, h14⟩ := I
        refine ⟨t, nh, nc, nk, ne, nr, nx, ns + 1, ⟨⟨a1, a2, a3, a4, a5, a6, a7, rfl⟩, ⟨b1, b2, b3, b4, b5, b6, b7⟩, l1, l2, l3, l4, l5, l6, l7, by omega⟩, h2, h3, h4, h5, h6, h7, h8, h9, ⟨fun i hi => ?_, fun i => ?_, fun e2 he2 d2 hd2 => ?_⟩, h11, h12, h13.up, h14⟩
        · show isIx (t + 1) (upd (M 100) ns (nI t) i)
          rw [upd_at]
          by_cases q : i = ns
          · rw [if_pos q]
            exact ⟨t, by omega, rfl⟩
          · rw [if_neg q]
            exact g1 i (by omega)
        · show z01 (upd (M 101) ns v i)
          rw [upd_at]
          by_cases q : i = ns
          · rw [if_pos q]
            exact hv
          · rw [if_neg q]
            exact g2 i
        · show updR (M 136) (901 * e + t) (901 * e + 901) v (901 * e2 + d2) = sSeal (upd (M 99) ns (nI e)) (upd (M 100) ns (nI t)) (upd (M 101) ns v) (nI e2) (nI d2) (ns + 1)
          have hcg : sSeal (upd (M 99) ns (nI e)) (upd (M 100) ns (nI t)) (upd (M 101) ns v) (nI e2) (nI d2) ns = sSeal (M 99) (M 100) (M 101) (nI e2) (nI d2) ns := sSeal_c ns (fun j hj => ⟨upd_ne (by omega), upd_ne (by omega), upd_ne (by omega)⟩)
          have hun : sSeal (upd (M 99) ns (nI e)) (upd (M 100) ns (nI t)) (upd (M 101) ns v) (nI e2) (nI d2) (ns + 1) = if nI e = nI e2 then if nI d2 < nI t then sSeal (M 99) (M 100) (M 101) (nI e2) (nI d2) ns else v else sSeal (M 99) (M 100) (M 101) (nI e2) (nI d2) ns := by
            show (if upd (M 99) ns (nI e) ns = nI e2 then if nI d2 < upd (M 100) ns (nI t) ns then _ else upd (M 101) ns v ns else _) = _
            rw [upd_self, upd_self, upd_self, hcg]
          rw [hun]
          unfold updR
          by_cases q : e = e2
          · subst q
            rw [if_pos rfl]
            by_cases q2 : d2 < t
            · rw [if_neg (by omega), if_pos (nI_lt q2 (by omega))]
              exact g3 e he2 d2 hd2
            · rw [if_pos (by omega), if_neg (nI_nlt (by omega) (by omega))]
          · rw [if_neg (by omega), if_neg (fun h => q ((nI_eq (by omega) (by omega)).mp h))]
            exact g3 e2 he2 d2 hd2
  · refine agB_no (k := 1) ?_ (by decide) (b := 0) ?_ (inv_no I)
    · unfold f_L_seal f_X8_seal
      rw [n8_Entry a5 hb, rb_thr, rc_thr]
      rfl
    · unfold f_X9_seal
      rw [n9_Entry b5 (by omega) hb, rb_ret]
      rfl
