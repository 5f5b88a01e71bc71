theorem gset_id {M : gM} {a j : Nat} {v : Int32} (h : M a j = v) : gset M a j v = M := by
  funext b
  rw [gset_at]
  by_cases c : b = a
  · rw [if_pos c, ← h, c, upd_id]
  · rw [if_neg c]
theorem Gclaim.a2 {nc nk ne : Nat} {m47 m48 m49 m50 m51 m52 m53 m54 m107 m109 m110 m111 m112 m113 m114 m115 m120 m122 m123 : Nat → Int32} (h : Gclaim nc nk ne m47 m48 m49 m50 m51 m52 m53 m54 m107 m109 m110 m111 m112 m113 m114 m115 m120 m122 m123) {K A T v a : Int32} {k : Nat} (hk : k < nk) (hv : isIx 6 v) (hK : K ≠ 10) :
    Gclaim nc nk (ne + 1) m47 m48 m49 (upd m50 k a) (upd m51 k v) m52 m53 m54 m107 m109 m110 m111 (upd m112 k v) (upd m113 k a) m114 m115 (upd m120 ne K) (upd m122 ne A) (upd m123 ne T) :=
  h.ent (by rw [h.1.2.2.2.1]) (by rw [h.1.2.2.2.2.1]) h.1.2.2.2.2.2.1 (fun j hj => isIx_upd hv (h.2.2.1 j hj).1) (fun j hj => ⟨by rw [upd_nx (by omega)]; exact (h.2.2.2.1 j hj).1, (h.2.2.2.1 j hj).2.1⟩) (fun k _ => by rw [if_neg hK])
theorem Gd1.sv {t nc nk ne : Nat} {m55 m56 m57 m58 m59 m61 m62 m120 m121 m122 m123 m124 m130 : Nat → Int32} (h : Gd1 t nc nk ne m55 m56 m57 m58 m59 m61 m62 m120 m121 m122 m123 m124 m130) {e : Nat} (he : e < ne) (hk : m55 e = 1 ∨ m55 e = 2 ∨ m55 e = 4 ∨ m55 e = 5 ∨ m55 e = 6) {A : Int32} (hA : m57 e = A) : ∃ s, s < ne ∧ m55 s = 0 ∧ m57 s = A := by
  obtain ⟨-, -, -, -, -, -, -, -, -, -, d10, -⟩ := h
  obtain ⟨s, s1, s2, s3⟩ := d10 e he hk
  exact ⟨s, by omega, s2, s3.trans hA⟩
def ruB (M : gM) (t ne m k : Nat) : Bool := opnV M t ne m && (decide (M 51 k = 0) && (rspB M t ne (nI m) || !decide (paV t (duV M ne m) = 0)))
def ruS (a : Int32) : Int32 := if a = 0 then 1 else 0
def ruA (M : gM) (k : Nat) (a : Int32) : Int32 := if a ≤ 0 then M 50 k else a
theorem n9_rul {M : gM} {m a k : Int32} {w : Int32} (h : w = 1 ∨ w = 2 ∨ w = 3) : f_X9_ruling_b133 M m a k w = rRet 0 (gset M 9 0 w) := by
  unfold f_X9_ruling_b133
  rcases h with h | h | h
  · rw [h, rf_1, rb_ret, if_neg i10]
  · rw [h, rf_2, rb_ret, if_neg i10]
  · rw [h, rf_3, rb_ret, if_neg i10]
theorem st_ruling : St_ruling Inv := by
  intro n M a b hn hI
  obtain ⟨t, nh, nc, nk, ne, nr, nx, ns, I⟩ := hI
  obtain ⟨⟨a1, a2, a3, a4, a5, a6, a7, a8⟩, ⟨b1, b2, b3, b4, b5, b6, b7⟩, l1, l2, l3, l4, l5, l6, l7, l8⟩ := I.1
  have gr := I.2.2.1.2.2
  have e104 : M 104 = M 14 := I.2.2.1.2.1
  have e103 : M 103 = M 13 := I.2.2.1.1
  have e112 : M 112 = M 51 := I.2.2.2.2.2.1.1.2.2.2.1
  have e113 : M 113 = M 50 := I.2.2.2.2.2.1.1.2.2.2.2.1
  have e122 : M 122 = M 57 := I.2.2.2.2.2.2.2.2.2.2.1.1.2.2.1
  obtain ⟨⟨x, x1, x2, x3⟩, -⟩ := gr 3 (by omega)
  rcases mot_cases I a with ⟨m, hm, rfl, m2, q8, q9⟩ | ⟨q8, q9⟩
  · have hg : ∀ F : gR, gI (nI m) 160 F = F := fun F => gI_nI (by omega) (by omega)
    have hc : (nI m).toNatClampNeg = m := nI_clamp (by omega)
    obtain ⟨k, c, d, hk, c1, d1, e57, e47, e56⟩ := I.ent hm (by rw [m2]; decide)
    have hg24 : ∀ F : gR, gI (nI k) 24 F = F := fun F => gI_nI (by omega) (by omega)
    have hck : (nI k).toNatClampNeg = k := nI_clamp (by omega)
    have z1 := paV_z t (duV M ne m)
    have k8 : f_X8_ruling M (nI m) b = if b < -1 then rThr 1 M else if b < M 50 k then (if ruB M t ne m k then f_X8_ruling_b85 M (nI m) b (nI k) 1 else f_X8_ruling_b85 M (nI m) b (nI k) 0) else rThr 1 M := by
      unfold f_X8_ruling f_X8_ruling_b80 f_X8_ruling_b84 ruB
      rw [q8, rb_ret, hg, hc, e57]
      simp only [bV]
      rw [hg24, e_opn8 I hm, rb_ret, hg24, hck, e_rsp8 I hm, rb_ret, e_late8 I (by omega) hm (Or.inr (Or.inl m2)), rb_ret]
      by_cases f1 : b < -1
      · rw [if_pos f1, if_pos f1]
      · rw [if_neg f1, if_neg f1]
        by_cases f2 : b < M 50 k
        · rw [if_pos f2, if_pos f2]
          by_cases f3 : M 51 k = 0
          · rw [if_pos f3, decide_eq_true f3]
            rcases z1 with z | z
            · rw [z]
              cases opnV M t ne m <;> cases rspB M t ne (nI m) <;> simp
            · rw [z]
              cases opnV M t ne m <;> cases rspB M t ne (nI m) <;> simp
          · rw [if_neg f3, decide_eq_false f3]
            cases opnV M t ne m <;> simp
        · rw [if_neg f2, if_neg f2]
    have k47 : ∀ M', Rf M' M → ∀ t0 : Int32, f_X9_ruling_b47 M' (nI m) b 1 (nI k) t0 = if ne < 160 then (if ruB M t ne m k then f_X9_ruling_b98 M' (nI m) b 1 (nI k) t0 else f_X9_ruling_b102 M' (nI m) b 1 (nI k) t0) else f_X9_ruling_b102 M' (nI m) b 1 (nI k) t0 := by
      intro M' R t0
      unfold f_X9_ruling_b47 ruB
      rw [if_neg i10, e_room ((R.1 23 (by omega)).trans b5) (by omega), rb_ret, e_opn9 I R hm, rb_ret, hg24, hck, R.2 112 (by omega), e112, e_rsp9 I R hm, rb_ret, e_rDue I R (by omega) hm m2, rb_ret, e_past9 ((R.1 1 (by omega)).trans b1), rb_ret]
      by_cases c0 : ne < 160
      · rw [if_pos c0, if_neg i10, if_pos c0]
        by_cases f3 : M 51 k = 0
        · rw [if_pos f3, decide_eq_true f3]
          rcases z1 with z | z
          · rw [z]
            cases opnV M t ne m <;> cases rspB M t ne (nI m) <;> simp
          · rw [z]
            cases opnV M t ne m <;> cases rspB M t ne (nI m) <;> simp
        · rw [if_neg f3, decide_eq_false f3]
          cases opnV M t ne m <;> simp
      · rw [if_neg c0, if_pos rfl, if_neg c0]
    have k9 : ∀ M', Rf M' M → f_X9_ruling M' (nI m) b = if b < -1 then rRet 0 (gset M' 9 0 2) else if b < M 50 k then (if ne < 160 then (if ruB M t ne m k then f_X9_ruling_b133 M' (nI m) b (nI k) 0 else rRet 0 (gset M' 9 0 3)) else rRet 0 (gset M' 9 0 3)) else rRet 0 (gset M' 9 0 2) := by
      intro M' R
      have h0 : f_X9_ruling_b47 M' (nI m) b 1 (nI k) 0 = rRet 0 (gset M' 9 0 2) := by
        rw [k47 M' R]
        unfold f_X9_ruling_b98 f_X9_ruling_b102 f_X9_ruling_b103
        rw [if_neg i10, if_pos rfl, n9_rul (Or.inr (Or.inl rfl)), if_neg i10, if_pos rfl, ite_self, ite_self]
      have h1 : f_X9_ruling_b47 M' (nI m) b 1 (nI k) 1 = if ne < 160 then (if ruB M t ne m k then f_X9_ruling_b133 M' (nI m) b (nI k) 0 else rRet 0 (gset M' 9 0 3)) else rRet 0 (gset M' 9 0 3) := by
        rw [k47 M' R]
        unfold f_X9_ruling_b98 f_X9_ruling_b102 f_X9_ruling_b103
        rw [if_neg i10, if_neg i10, if_neg i10, if_neg i10, if_neg i10, if_pos rfl, n9_rul (Or.inr (Or.inr rfl))]
      unfold f_X9_ruling
      rw [q9 M' R, rb_ret, if_neg i10, hg, hc, R.2 122 (by omega), e122, e57]
      unfold f_X9_ruling_b20 f_X9_ruling_b46
      rw [if_neg i10, hg24, hck, R.2 113 (by omega), e113, h0, h1]
      by_cases f1 : b < -1
      · rw [if_pos f1, if_pos f1]
      · rw [if_neg f1, if_neg f1]
        by_cases f2 : b < M 50 k
        · rw [if_neg (Int32.not_le.mpr f2), if_pos f2]
        · rw [if_pos (Int32.not_lt.mp f2), if_neg f2]
    by_cases fair : ¬ b < -1 ∧ b < M 50 k
    · obtain ⟨f1, f2⟩ := fair
      have no : (ne < 160 → ruB M t ne m k = false) → AgI (f_L_ruling M (nI m) b) (fun M1 => f_X9_ruling M1 (nI m) b) (Inv (n + 1)) := by
        intro h
        refine agI_no (k := 3) ?_ (by decide) (b := 0) ?_ (inv_no I)
        · have : f_X8_ruling M (nI m) b = rThr 2 M := by
            rw [k8, if_neg f1, if_pos f2]
            unfold f_X8_ruling_b85
            by_cases q : ne < 160
            · rw [h q, if_neg (by decide), e_allow0, rb_thr]
            · rw [e_allowF a5 q (by omega), e_allowF a5 q (by omega), rb_thr, ite_self]
          unfold f_L_ruling
          rw [this, rc_thr]
          rfl
        · show f_X9_ruling M (nI m) b = _
          rw [k9 M (Rf.rfl M), if_neg f1, if_pos f2]
          by_cases q : ne < 160
          · rw [if_pos q, h q]; rfl
          · rw [if_neg q]
      by_cases c0 : ne < 160
      · cases cc : ruB M t ne m k with
        | false => exact no (fun _ => cc)
        | true =>
          have h51 : M 51 k = 0 := by
            unfold ruB at cc
            rw [Bool.and_eq_true, Bool.and_eq_true] at cc
            exact of_decide_eq_true cc.2.1
          have hz3 : z01 (M 104 3) := by rw [e104]; exact (gr 3 (by omega)).2
          refine agI_ok (v := nI ne) (M1 := gset (gset (gset (gset (gset (gset (en8 M ne t 4 (nI k) b (nI m)) 60 ne (M 50 k)) 63 ne (M 13 3)) 64 ne (M 14 3)) 62 m 1) 51 k (ruS b)) 50 k (ruA M k b)) (M2 := gset (gset (gset (gset (gset (gset (en9 (gset (gset (gset (gset (gset (gset (gset (gset (en8 M ne t 4 (nI k) b (nI m)) 60 ne (M 50 k)) 63 ne (M 13 3)) 64 ne (M 14 3)) 62 m 1) 51 k (ruS b)) 50 k (ruA M k b)) 10 0 (nI ne)) 9 0 0) ne t 4 (nI k) b (nI m) 3) 127 ne (M 112 k)) 128 ne (M 113 k)) 129 ne (M 114 k)) 9 23 (nI (ne + 1))) 112 k (ruS b)) 113 k (ruA M k b)) ?_ ?_ rfl rfl ?_
          · have : f_X8_ruling_b85 M (nI m) b (nI k) 1 = rRet (nI ne) (gset (gset (gset (gset (gset (gset (en8 M ne t 4 (nI k) b (nI m)) 60 ne (M 50 k)) 63 ne (M 13 3)) 64 ne (M 14 3)) 62 m 1) 51 k (ruS b)) 50 k (ruA M k b)) := by
              unfold f_X8_ruling_b85
              rw [e_allow a5 c0, rb_ret, e_en8a (r := 3) a5 a1 c0 (show k < 24 by omega) _ _ (Or.inl rfl) (fun N => rfl) (by omega) (gr 3 (by omega)).2, rb_ret, z01_eq (Or.inr rfl), hg, hc]
              simp only [bM]
              rw [hg24, hg24, hck]
              unfold ruS ruA
              by_cases z0 : b = 0
              · rw [if_pos z0, if_pos z0, if_pos (show b ≤ 0 by rw [z0]; decide)]
                refine congrArg (rRet (nI ne)) (gset_id ?_).symm
                rfl
              · rw [if_neg z0, if_neg z0]
                by_cases z1 : b = -1
                · rw [if_pos z1, if_pos (show b ≤ 0 by rw [z1]; decide)]
                  refine congrArg (rRet (nI ne)) ?_
                  rw [show gset (gset (gset (gset (gset (en8 M ne t 4 (nI k) b (nI m)) 60 ne (M 50 k)) 63 ne (M 13 3)) 64 ne (M 14 3)) 62 m 1) 51 k 0 = gset (gset (gset (gset (en8 M ne t 4 (nI k) b (nI m)) 60 ne (M 50 k)) 63 ne (M 13 3)) 64 ne (M 14 3)) 62 m 1 from gset_id h51]
                  exact (gset_id rfl).symm
                · have : ¬ b ≤ 0 := by
                    intro h
                    rw [Int32.le_iff_toInt_le, Int32.toInt_zero] at h
                    have f1' := f1
                    rw [Int32.lt_iff_toInt_lt, show (-1 : Int32).toInt = -1 from by decide] at f1'
                    have n1 : b.toInt ≠ -1 := fun q => z1 (Int32.toInt_inj.mp (q.trans (by decide)))
                    have n0 : b.toInt ≠ 0 := fun q => z0 (Int32.toInt_inj.mp (q.trans (by decide)))
                    omega
                  rw [if_neg z1, if_neg this]
                  refine congrArg (rRet (nI ne)) ?_
                  rw [show gset (gset (gset (gset (gset (en8 M ne t 4 (nI k) b (nI m)) 60 ne (M 50 k)) 63 ne (M 13 3)) 64 ne (M 14 3)) 62 m 1) 51 k 0 = gset (gset (gset (gset (en8 M ne t 4 (nI k) b (nI m)) 60 ne (M 50 k)) 63 ne (M 13 3)) 64 ne (M 14 3)) 62 m 1 from gset_id h51]
            unfold f_L_ruling
            rw [k8, if_neg f1, if_pos f2, cc, if_pos rfl, this, rc_ret]
          · have R : Rf (gset (gset (gset (gset (gset (gset (gset (en8 M ne t 4 (nI k) b (nI m)) 60 ne (M 50 k)) 63 ne (M 13 3)) 64 ne (M 14 3)) 62 m 1) 51 k (ruS b)) 50 k (ruA M k b)) 10 0 (nI ne)) M := ((((((((((((((Rf.rfl M).s (by omega) (by omega) _ _).s (by omega) (by omega) _ _).s (by omega) (by omega) _ _).s (by omega) (by omega) _ _).s (by omega) (by omega) _ _).s (by omega) (by omega) _ _).s (by omega) (by omega) _ _).s (by omega) (by omega) _ _).s (by omega) (by omega) _ _).s (by omega) (by omega) _ _).s (by omega) (by omega) _ _).s (by omega) (by omega) _ _).s (by omega) (by omega) _ _).o _
            show f_X9_ruling _ (nI m) b = _
            rw [k9 _ R, if_neg f1, if_pos f2, if_pos c0, cc, if_pos rfl]
            unfold f_X9_ruling_b133
            rw [rf_0, rb_ret, if_pos rfl, e_en9 (K := 4) (M := gset (gset (gset (gset (gset (gset (gset (gset (en8 M ne t 4 (nI k) b (nI m)) 60 ne (M 50 k)) 63 ne (M 13 3)) 64 ne (M 14 3)) 62 m 1) 51 k (ruS b)) 50 k (ruA M k b)) 10 0 (nI ne)) 9 0 0) b5 b1 c0 (show k < 24 by omega) _ _ (by decide) hz3, rb_ret]
            unfold f_X9_ruling_b167
            simp only [bM, hg24, hck]
            unfold ruS ruA
            by_cases z0 : b ≤ 0
            · rw [if_pos z0, if_pos z0, if_pos z0]
              by_cases z1 : b = 0
              · rw [if_pos z1, if_pos z1]
                exact congrArg (fun v => rRet (nI ne) (gset _ 113 k v)) (show M 113 k = M 50 k by rw [e113])
              · rw [if_neg z1, if_neg z1]
                exact congrArg (fun v => rRet (nI ne) (gset _ 113 k v)) (show M 113 k = M 50 k by rw [e113])
            · rw [if_neg z0, if_neg z0, if_neg z0]
              by_cases z1 : b = 0
              · rw [if_pos z1, if_pos z1]
                rfl
              · rw [if_neg z1, if_neg z1]
                rfl
          · have z6 := I.z61
            have hS : isIx 6 (ruS b) := by
              unfold ruS
              by_cases z : b = 0
              · rw [if_pos z]; exact ⟨1, by omega, rfl⟩
              · rw [if_neg z]; exact ⟨0, by omega, rfl⟩
            have hS2 : ¬ (ruS b = 2 ∨ ruS b = 3) := by
              unfold ruS
              by_cases z : b = 0
              · rw [if_pos z]; decide
              · rw [if_neg z]; decide
            obtain ⟨g1, g2, g3, g4, g5, g6, g7, g8, g9, g10, g11, g12, g13, g14⟩ := I
            exact ⟨t, nh, nc, nk, ne + 1, nr, nx, ns, ⟨⟨a1, a2, a3, a4, rfl, a6, a7, a8⟩, ⟨b1, b2, b3, b4, rfl, b6, b7⟩, l1, l2, l3, l4, c0, l6, l7, (Nat.le_succ_of_le l8)⟩, g2, g3, g4.add (by decide), g5, g6.a2 hk hS (by decide), g7, g8, g9, g10,
              g11.ent (by omega) ⟨4, by omega, rfl, fun h => absurd h (by omega), fun _ => ⟨k, hk, rfl⟩⟩ (fun h => absurd h (by decide)) (fun h => absurd h (by decide)) (fun _ => ⟨m, hm, rfl, m2, e57, rfl⟩) (fun h => absurd rfl h) (fun h => absurd h (by decide)) (fun _ => rfl) (fun _ => g11.sv hm (Or.inr (Or.inl m2)) e57) g11.1.2.2.2.2.2,
              g12.ent _, g13.ent (m63' := upd (M 63) ne (M 13 3)) (m64' := upd (M 64) ne (M 14 3)) (R := M 103 3) (W := M 104 3) (by omega) (fun e he => upd_lt he) (fun e he => upd_lt he) (fun e => z01_upd (gr 3 (by omega)).2 (g13.2.1 e).1) hz3 (fun _ => ⟨⟨x, x1, by omega, by rw [upd_eq]; exact x3⟩, by rw [upd_eq, e104]⟩) (fun h => absurd h (by decide)) (fun _ => by rw [upd_eq, e103, if_neg (by decide), Int32.add_zero]) (fun h => absurd h (by decide)) z6,
              g14.ent (m50' := upd (M 50) k (ruA M k b)) (m51' := upd (M 51) k (ruS b)) (m52' := M 52) (m53' := M 53) (m60' := upd (M 60) ne (M 50 k)) (m61' := M 61) (m127' := upd (M 127) ne (M 112 k)) (m128' := upd (M 128) ne (M 113 k)) (m129' := upd (M 129) ne (M 114 k)) (c := k) (by omega) l4 hk rfl (fun j hj => ⟨upd_nx hj, upd_nx hj, rfl, rfl⟩) ⟨by
                  rw [upd_eq]
                  have q := (g14.1 k (by omega)).1
                  unfold ruS fStep
                  rw [if_pos rfl]
                  by_cases z : b = 0
                  · rw [if_pos z, if_pos z]
                  · rw [if_neg z, if_neg z, q, h51], by
                  unfold fStep
                  rw [if_pos rfl]
                  by_cases z : b = 0
                  · rw [if_pos z]; exact (g14.1 k (by omega)).2
                  · rw [if_neg z]; exact (g14.1 k (by omega)).2⟩ (fun _ _ _ => rfl) (fun w => by rw [upd_eq] at w; exact absurd w hS2) (fun e he => ⟨upd_lt he, upd_lt he, upd_lt he, upd_lt he⟩) (fun _ => ⟨by rw [upd_eq, e112, h51], by rw [upd_eq, upd_eq, e113], by rw [upd_eq, g6.1.2.2.2.2.2.1]⟩) (fun _ => rfl)⟩
      · exact no (fun h => absurd h c0)
    · refine agI_no (k := 2) ?_ (by decide) (b := 0) ?_ (inv_no I)
      · unfold f_L_ruling
        have : f_X8_ruling M (nI m) b = rThr 1 M := by
          rw [k8]
          by_cases f1 : b < -1
          · rw [if_pos f1]
          · rw [if_neg f1, if_neg (fun f2 => fair ⟨f1, f2⟩)]
        rw [this, rc_thr]
        rfl
      · show f_X9_ruling M (nI m) b = _
        rw [k9 M (Rf.rfl M)]
        by_cases f1 : b < -1
        · rw [if_pos f1]
        · rw [if_neg f1, if_neg (fun f2 => fair ⟨f1, f2⟩)]
  · refine agI_no (k := 1) ?_ (by decide) (b := 0) ?_ (inv_no I)
    · unfold f_L_ruling f_X8_ruling
      rw [q8, rb_thr, rc_thr]
      rfl
    · unfold f_X9_ruling
      rw [q9 M (Rf.rfl M), rb_ret, if_pos rfl]
      unfold f_X9_ruling_b20 f_X9_ruling_b46 f_X9_ruling_b47 f_X9_ruling_b102 f_X9_ruling_b103
      rw [if_pos rfl, if_pos rfl, if_pos rfl]
      exact n9_rul (Or.inl rfl)
