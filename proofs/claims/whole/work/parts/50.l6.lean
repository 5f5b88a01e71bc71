theorem e_mc8 {M : gM} {k m : Nat} (hk : k < 24) (hm : m < 65536) (h : M 54 k = nI m) : f_X2_memberCount M (nI k) = rRet (nI (sN m 16)) M := by
  unfold f_X2_memberCount
  rw [gI_nI hk (by omega), nI_clamp (show k < 2 ^ 31 by omega), h, e_pop hm, rb_ret]
theorem st_share : St_share Inv := by
  intro n M a b hn hI
  obtain ⟨t, nh, nc, nk, ne, nr, nx, ns, I⟩ := hI
  obtain ⟨⟨a1, a2, a3, a4, a5, a6, a7, a8⟩, ⟨b1, b2, b3, b4, b5, b6, b7⟩, l1, l2, l3, l4, l5, l6, l7, l8⟩ := I.1
  obtain ⟨⟨e109, e110, e111, e112, e113, e114, e115⟩, -, h3, -, h53⟩ := I.2.2.2.2.2.1
  rcases idx_cases a nk (by omega) with ⟨k, hk, rfl⟩ | hb
  · have hg24 : ∀ F : gR, gI (nI k) 24 F = F := fun F => gI_nI (by omega) (by omega)
    have hck : (nI k).toNatClampNeg = k := nI_clamp (by omega)
    rcases idx_cases b 16 (by omega) with ⟨p, hp, rfl⟩ | hb
    · obtain ⟨m, m1, m2, m3⟩ := msk (h3 k hk).2
      have tst := b_test p (by omega) (M 54 k)
      have hle := sN_le (m := m) 16
      refine agI_ok (v := if m.testBit p then M 53 k / nI (sN m 16) else 0) (M1 := M) (M2 := gset (gset M 10 0 (if m.testBit p then M 53 k / nI (sN m 16) else 0)) 9 0 0) ?_ ?_ rfl rfl (inv_rd I)
      · have : f_X8_share M (nI k) (nI p) = rRet (if m.testBit p then M 53 k / nI (sN m 16) else 0) M := by
          unfold f_X8_share
          rw [c8_Claim a4 hk (by omega), rb_ret, c8_Person hp, rb_ret, e_mc8 (by omega) m1 m2, rb_ret]
          unfold f_X2_isMember gNz
          rw [hg24, hck]
          cases q : m.testBit p with
          | true =>
            have := sN_bit hp q
            have nz : ¬ nI (sN m 16) = 0 := nI_ne0 (by omega) (by omega)
            rw [if_neg nz, if_pos (tst.mpr (by rw [m3 p (by omega)]; exact q)), rb_ret, if_neg i10, hg24, if_neg nz]
            rfl
          | false =>
            rw [if_neg (c := M 54 k >>> (nI p &&& 31) &&& 1 = 1) (fun h => by
              have := tst.mp h
              rw [m3 p (by omega), q] at this
              cases this), rb_ret, if_pos rfl, ite_self]
            rfl
        unfold f_L_share
        rw [this, rc_ret]
      · have R : Rf (gset (gset M 10 0 (if m.testBit p then M 53 k / nI (sN m 16) else 0)) 9 0 0) M := ((Rf.rfl M).o _).r 0
        generalize hv : (if m.testBit p then M 53 k / nI (sN m 16) else 0) = v at *
        show f_X9_share _ (nI k) (nI p) = _
        unfold f_X9_share
        rw [c9_Claim (M := gset M 10 0 v) b4 hk (by omega), rb_ret, if_neg i10, c9_Person hp, rb_ret, if_neg i10]
        unfold f_X9_share_b20
        rw [if_neg i10]
        unfold f_X9_share_b31 gNz
        rw [rf_0, rb_ret, if_pos rfl, hg24, hck, R.2 115 (by omega), e115]
        cases q : m.testBit p with
        | true =>
          have := sN_bit hp q
          have nz : ¬ nI (sN m 16) = 0 := nI_ne0 (by omega) (by omega)
          rw [if_pos (tst.mpr (by rw [m3 p (by omega)]; exact q)), e_paid9 (ne := ne) ((R.1 23 (by omega)).trans b5) l5, rb_ret, e_cnt (m := m) (by omega) m1 (by rw [R.2 115 (by omega), e115]; exact m2), rb_ret, if_neg nz, R.2 120 (by omega), R.2 122 (by omega), R.2 123 (by omega), ← h53 k (by omega), ← hv, q]
          rfl
        | false =>
          rw [if_neg (fun h => by
            have := tst.mp h
            rw [m3 p (by omega), q] at this
            cases this), ← hv, q]
          rfl
    · refine agI_no (k := 1) ?_ (by decide) (b := 0) ?_ (inv_no I)
      · unfold f_L_share f_X8_share
        rw [c8_Claim a4 hk (by omega), rb_ret, n8_Person hb, rb_thr, rc_thr]
        rfl
      · unfold f_X9_share
        rw [c9_Claim b4 hk (by omega), rb_ret, if_neg i10, n9_Person hb, rb_ret, if_pos rfl]
        unfold f_X9_share_b19 f_X9_share_b20 f_X9_share_b31
        rw [if_pos rfl, rf_1, rb_ret, if_neg i10]
  · refine agI_no (k := 1) ?_ (by decide) (b := 0) ?_ (inv_no I)
    · unfold f_L_share f_X8_share
      rw [n8_Claim a4 hb, rb_thr, rc_thr]
      rfl
    · unfold f_X9_share
      rw [n9_Claim b4 (by omega) hb, rb_ret, if_pos rfl]
      unfold f_X9_share_b19 f_X9_share_b20 f_X9_share_b31
      rw [if_pos rfl, rf_1, rb_ret, if_neg i10]
/-- a mask with a person in or out -/
def meV (x : Int32) (p : Nat) (b : Int32) : Int32 := if b = 0 then x &&& ((1 <<< (nI p &&& 31)) ^^^ (-1)) else x ||| (1 <<< (nI p &&& 31))
theorem meV_ok {x : Int32} {p : Nat} {b : Int32} (hp : p < 16) (h : ∀ q, 16 ≤ q → bt x q = false) : ∀ q, 16 ≤ q → bt (meV x p b) q = false := by
  intro q hq
  by_cases h32 : q < 32
  · unfold meV
    by_cases c : b = 0
    · rw [if_pos c, b_and, h q hq, Bool.false_and]
    · rw [if_neg c, b_or, h q hq, b_one p (by omega) q h32, Bool.false_or]
      exact decide_eq_false (by omega)
  · exact b_big (by omega)
theorem st_member : St_member Inv := by
  intro n M a b' c' hn hI
  obtain ⟨t, nh, nc, nk, ne, nr, nx, ns, I⟩ := hI
  obtain ⟨⟨a1, a2, a3, a4, a5, a6, a7, a8⟩, ⟨b1, b2, b3, b4, b5, b6, b7⟩, l1, l2, l3, l4, l5, l6, l7, l8⟩ := I.1
  obtain ⟨⟨e109, e110, e111, e112, e113, e114, e115⟩, -, h3, h4, h53⟩ := I.2.2.2.2.2.1
  generalize gb c' = c at *
  rcases idx_cases a nk (by omega) with ⟨k, hk, rfl⟩ | hb
  · have hg24 : ∀ F : gR, gI (nI k) 24 F = F := fun F => gI_nI (by omega) (by omega)
    have hck : (nI k).toNatClampNeg = k := nI_clamp (by omega)
    rcases idx_cases b' 16 (by omega) with ⟨p, hp, rfl⟩ | hb
    · have k8 : f_X8_member M (nI k) (nI p) c = if c = 0 ∧ M 48 k = nI p then rThr 2 M else f_X8_member_b31 M (nI k) (nI p) c := by
        unfold f_X8_member
        rw [c8_Claim a4 hk (by omega), rb_ret, c8_Person hp, rb_ret, hg24, hck]
        by_cases c0 : c = 0
        · rw [if_pos c0]
          by_cases q : M 48 k = nI p
          · rw [if_pos q.symm, if_pos ⟨c0, q⟩]
            unfold f_X8_member_b32
            rw [hg24, hg24, if_neg i10, ite_self, ite_self]
          · rw [if_neg (fun h => q h.symm), if_neg (fun h => q h.2)]
        · rw [if_neg c0, if_neg (fun h => c0 h.1)]
      have k9 : ∀ M', Rf M' M → f_X9_member M' (nI k) (nI p) c = if ¬ M 54 k = 0 ∧ M 51 k = 0 ∧ ¬ (c = 0 ∧ M 48 k = nI p) then f_X9_member_b86 M' (nI k) (nI p) c 0 else f_X9_member_b86 M' (nI k) (nI p) c 2 := by
        intro M' R
        unfold f_X9_member
        rw [c9_Claim ((R.1 11 (by omega)).trans b4) hk (by omega), rb_ret, if_neg i10, c9_Person hp, rb_ret, if_neg i10]
        unfold f_X9_member_b20 f_X9_member_b59 f_X9_member_b63 f_X9_member_b64
        rw [if_neg i10, hg24, hg24, hg24, hck, R.2 115 (by omega), R.2 112 (by omega), R.2 110 (by omega), e115, e112, e110, if_neg i10, if_pos rfl, if_neg i10, if_neg i10]
        by_cases q1 : M 54 k = 0
        · rw [if_pos q1, if_neg (fun h => h.1 q1)]
        · rw [if_neg q1]
          by_cases q2 : M 51 k = 0
          · rw [if_pos q2]
            by_cases q3 : c = 0
            · rw [if_pos q3]
              by_cases q4 : M 48 k = nI p
              · rw [if_pos q4, if_neg (fun h => h.2.2 ⟨q3, q4⟩)]
              · rw [if_neg q4, if_pos ⟨q1, q2, fun h => q4 h.2⟩]
            · rw [if_neg q3, if_pos ⟨q1, q2, fun h => q3 h.1⟩]
          · rw [if_neg q2, if_neg (fun h => q2 h.2.1)]
      by_cases ok : ¬ M 54 k = 0 ∧ M 51 k = 0 ∧ ¬ (c = 0 ∧ M 48 k = nI p)
      · have hme := meV_ok (b := c) hp (h3 k hk).2
        obtain ⟨m, m1, m2, m3⟩ := msk hme
        refine agI_ok (v := nI (sN m 16)) (M1 := gset M 54 k (meV (M 54 k) p c)) (M2 := gset (gset (gset (gset M 54 k (meV (M 54 k) p c)) 10 0 (nI (sN m 16))) 9 0 0) 115 k (meV (M 54 k) p c)) ?_ ?_ rfl rfl ?_
        · have ks : f_X2_setMember M (nI k) (nI p) c = rRet 0 (gset M 54 k (meV (M 54 k) p c)) := by
            unfold f_X2_setMember meV
            simp only [bV, bM]
            rw [hg24, hg24, hg24, hg24, hck]
            by_cases q : c = 0
            · rw [if_pos q, if_pos q]
            · rw [if_neg q, if_neg q]
          have : f_X8_member M (nI k) (nI p) c = rRet (nI (sN m 16)) (gset M 54 k (meV (M 54 k) p c)) := by
            rw [k8, if_neg ok.2.2]
            unfold f_X8_member_b31 f_X8_member_b32
            rw [hg24, hg24, hck, if_neg ok.1, if_pos ok.2.1, if_pos rfl, ks, rb_ret, e_mc8 (M := gset M 54 k (meV (M 54 k) p c)) (by omega) m1 (by rw [gset_self, upd_eq]; exact m2), rb_ret]
          unfold f_L_member
          rw [this, rc_ret]
        · have R : Rf (gset (gset M 54 k (meV (M 54 k) p c)) 10 0 (nI (sN m 16))) M := ((Rf.rfl M).s (by omega) (by omega) _ _).o _
          show f_X9_member _ (nI k) (nI p) c = _
          rw [k9 _ R, if_pos ok]
          have k128 : ∀ N : gM, f_X9_member_b128 N (nI k) (nI k) (meV (M 54 k) p c) = rRet (nI (sN m 16)) (gset N 115 k (meV (M 54 k) p c)) := by
            intro N
            unfold f_X9_member_b128
            simp only [bM]
            rw [hg24, hck, e_cnt (M := gset N 115 k (meV (M 54 k) p c)) (by omega) m1 (by rw [gset_self, upd_eq]; exact m2), rb_ret]
          unfold f_X9_member_b86
          rw [rf_0, rb_ret, if_pos rfl, hg24, hg24, hck]
          have e115' : (gset (gset (gset M 54 k (meV (M 54 k) p c)) 10 0 (nI (sN m 16))) 9 0 0) 115 k = M 54 k := by
            show M 115 k = _
            rw [e115]
          rw [e115']
          by_cases q : c = 0
          · have : M 54 k &&& ((1 <<< (nI p &&& 31)) ^^^ (-1)) = meV (M 54 k) p c := (if_pos q).symm
            rw [if_pos q, this, k128]
          · have : M 54 k ||| (1 <<< (nI p &&& 31)) = meV (M 54 k) p c := (if_neg q).symm
            rw [if_neg q, this, k128]
        · obtain ⟨g1, g2, g3, g4, g5, ⟨w1, w2, w3, w4, w5⟩, g7, g8, g9, g10, g11, g12, g13, g14⟩ := I
          refine ⟨t, nh, nc, nk, ne, nr, nx, ns, g1.up, g2, g3, g4, g5, ⟨⟨e109, e110, e111, e112, e113, e114, ?_⟩, w2, fun j hj => ⟨(w3 j hj).1, ?_⟩, fun j hj => ⟨(w4 j hj).1, (w4 j hj).2.1, ?_⟩, w5⟩, g7, g8, g9, g10, g11, g12, g13.up, g14⟩
          · show upd (M 115) k _ = upd (M 54) k _
            rw [e115]
          · show ∀ q, 16 ≤ q → bt (upd (M 54) k (meV (M 54 k) p c) j) q = false
            rw [upd_at]
            by_cases q : j = k
            · rw [if_pos q]; exact hme
            · rw [if_neg q]; exact (w3 j hj).2
          · show upd (M 54) k (meV (M 54 k) p c) j = 0
            rw [upd_nx (by omega)]
            exact (w4 j hj).2.2
      · refine agI_no (k := 2) ?_ (by decide) (b := 0) ?_ (inv_no I)
        · have : f_X8_member M (nI k) (nI p) c = rThr 2 M := by
            rw [k8]
            by_cases q : c = 0 ∧ M 48 k = nI p
            · rw [if_pos q]
            · rw [if_neg q]
              unfold f_X8_member_b31 f_X8_member_b32
              rw [hg24, hg24, hck]
              by_cases q1 : M 54 k = 0
              · rw [if_pos q1]
              · rw [if_neg q1, if_neg (fun q2 => ok ⟨q1, q2, q⟩)]
          unfold f_L_member
          rw [this, rc_thr]
          rfl
        · show f_X9_member M (nI k) (nI p) c = _
          rw [k9 M (Rf.rfl M), if_neg ok]
          unfold f_X9_member_b86
          rw [rf_2, rb_ret, if_neg i10]
    · refine agI_no (k := 1) ?_ (by decide) (b := 0) ?_ (inv_no I)
      · unfold f_L_member f_X8_member
        rw [c8_Claim a4 hk (by omega), rb_ret, n8_Person hb, rb_thr, rc_thr]
        rfl
      · unfold f_X9_member
        rw [c9_Claim b4 hk (by omega), rb_ret, if_neg i10, n9_Person hb, rb_ret, if_pos rfl]
        unfold f_X9_member_b19 f_X9_member_b20 f_X9_member_b63 f_X9_member_b64 f_X9_member_b86
        rw [if_pos rfl, if_pos rfl, rf_1, rb_ret, if_neg i10]
  · refine agI_no (k := 1) ?_ (by decide) (b := 0) ?_ (inv_no I)
    · unfold f_L_member f_X8_member
      rw [n8_Claim a4 hb, rb_thr, rc_thr]
      rfl
    · unfold f_X9_member
      rw [n9_Claim b4 (by omega) hb, rb_ret, if_pos rfl]
      unfold f_X9_member_b19 f_X9_member_b20 f_X9_member_b63 f_X9_member_b64 f_X9_member_b86
      rw [if_pos rfl, if_pos rfl, rf_1, rb_ret, if_neg i10]
