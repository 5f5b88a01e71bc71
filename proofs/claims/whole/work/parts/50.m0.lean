/-! ===== sever ===== -/
/-- a claim goes into another case -/
theorem Gclaim.mv {nc nk ne : Nat} {m47 m48 m49 m50 m51 m52 m53 m54 m107 m107' m109 m110 m111 m112 m113 m114 m115 m120 m122 m123 : Nat → Int32} (h : Gclaim nc nk ne m47 m48 m49 m50 m51 m52 m53 m54 m107 m109 m110 m111 m112 m113 m114 m115 m120 m122 m123) {k c p q : Nat} (hk : k < nk) (hc : c < nc) (hp : p < 16) (hq : q < 16) (hpq : p ≠ q) (e1 : m48 k = nI p) (e2 : m49 k = nI q) (n1 : m107' (16 * c + p) ≠ -1) (n2 : m107' (16 * c + q) ≠ -1) (hs : ∀ j, m107 j ≠ -1 → m107' j ≠ -1) :
    Gclaim nc nk ne (upd m47 k (nI c)) m48 m49 m50 m51 m52 m53 m54 m107' (upd m109 k (nI c)) m110 m111 m112 m113 m114 m115 m120 m122 m123 := by
  obtain ⟨⟨a1, a2⟩, g2, g3⟩ := h
  refine ⟨⟨by rw [a1], a2⟩, fun j hj => ?_, g3⟩
  by_cases z : j = k
  · rw [z, upd_eq]
    exact ⟨c, p, q, hc, hp, hq, hpq, rfl, e1, e2, n1, n2⟩
  · rw [upd_nx z]
    obtain ⟨c', p', q', x1, x2, x3, x4, x5, x6, x7, x8, x9⟩ := g2 j hj
    exact ⟨c', p', q', x1, x2, x3, x4, x5, x6, x7, hs _ x8, hs _ x9⟩
theorem Gcase.nw {t nc : Nat} {m25 m26 m27 m28 m29 m38 m105 m106 m107 m108 : Nat → Int32} (h : Gcase t nc m25 m26 m27 m28 m29 m38 m105 m106 m107 m108) (h8 : nc < 8) (a : Int32) : Gcase t (nc + 1) (upd m25 nc a) (upd m26 nc (-1)) m27 m28 m29 m38 (upd m105 nc a) (upd m106 nc (-1)) m107 m108 := by
  obtain ⟨⟨c1, c2, c3⟩, c4, c5, c6, c7⟩ := h
  refine ⟨⟨by rw [c1], by rw [c2], c3⟩, fun c hc => ?_, c5, c6, fun c hc => c7 c (by omega)⟩
  rw [upd_at]
  by_cases e : c = nc
  · rw [if_pos e]
    exact Or.inl rfl
  · rw [if_neg e]
    exact (c4 c (by omega)).imp id (fun h => isIx_mono h (by omega))
theorem sv_n39 (M : gM) (a : Int32) {w : Int32} (h : w = 1 ∨ w = 2) : f_X9_sever_b39 M a w = rRet 0 (gset M 9 0 w) := by
  unfold f_X9_sever_b39
  rcases h with h | h
  · rw [h, rf_1, rb_ret, if_neg i10]
  · rw [h, rf_2, rb_ret, if_neg i10]
theorem sv_end {M : gM} {k s : Nat} (hk : k < 24) (s6 : s < 6) (s51 : M 51 k = nI s) : f_X2_isEnded M (nI k) = rRet (if 4 ≤ s then 1 else 0) M := by
  have hg24 : ∀ F : gR, gI (nI k) 24 F = F := fun F => gI_nI (by omega) (by omega)
  unfold f_X2_isEnded
  rw [hg24, hg24, nI_clamp (show k < 2 ^ 31 by omega), s51, show (4 : Int32) = nI 4 from by decide, show (5 : Int32) = nI 5 from by decide]
  have e4 := nI_eq (show s < 2 ^ 31 by omega) (show 4 < 2 ^ 31 by omega)
  have e5 := nI_eq (show s < 2 ^ 31 by omega) (show 5 < 2 ^ 31 by omega)
  by_cases q4 : s = 4
  · rw [if_pos (e4.mpr q4), if_pos (by omega)]
  · rw [if_neg (fun h => q4 (e4.mp h))]
    by_cases q5 : s = 5
    · rw [if_pos (e5.mpr q5), if_pos (by omega)]
    · rw [if_neg (fun h => q5 (e5.mp h)), if_neg (by omega)]
theorem sv_9 {t nh nc nk ne nr nx ns n : Nat} {M' M : gM} (I : InvP t nh nc nk ne nr nx ns n M) (R : Rf M' M) {k s : Nat} (hk : k < nk) (s6 : s < 6) (s51 : M 51 k = nI s) : f_X9_sever M' (nI k) = if s < 4 ∧ nc < 8 then f_X9_sever_b39 M' (nI k) 0 else rRet 0 (gset M' 9 0 2) := by
  obtain ⟨-, ⟨b1, b2, b3, b4, b5, b6, b7⟩, l1, l2, l3, l4, l5, l6, l7, l8⟩ := I.1
  have e112 : M 112 = M 51 := I.2.2.2.2.2.1.1.2.2.2.1
  have hg24 : ∀ F : gR, gI (nI k) 24 F = F := fun F => gI_nI (by omega) (by omega)
  unfold f_X9_sever f_X9_sever_b34
  rw [c9_Claim ((R.1 11 (by omega)).trans b4) hk (by omega), rb_ret, if_neg i10, hg24, nI_clamp (show k < 2 ^ 31 by omega), R.2 112 (by omega), e112, s51, R.1 6 (by omega), b3, sv_n39 M' _ (Or.inr rfl), show (4 : Int32) = nI 4 from by decide]
  by_cases q4 : s < 4
  · rw [if_neg (nI_ge q4 (by omega))]
    by_cases q8 : nc < 8
    · rw [if_neg (fun h => by
        have := (nI_eq (a := nc) (b := 8) (by omega) (by omega)).mp (h.trans (by decide))
        omega), if_pos ⟨q4, q8⟩]
    · rw [if_pos (show nI nc = 8 by rw [show nc = 8 by omega]; decide), if_neg (fun h => q8 h.2)]
  · rw [if_pos (nI_le (by omega) (by omega)), if_neg (fun h => q4 h.1)]
/-- the two parties of the new case, as the class enters them -/
def adP (M : gM) (c p : Nat) (s d : Int32) : gM := gset (gset (gset (gset M 28 c (M 28 c ||| (1 <<< (nI p &&& 31)))) 27 c (M 27 c + 1)) 29 (c * 16 + p) s) 38 (c * 16 + p) d
def sv8 (M : gM) (nc p q sp sq t : Nat) : gM := adP (adP M nc p (nI sp) (nI t)) nc q (nI sq) (nI t)
def sv9 (M : gM) (nc p q sp sq t : Nat) : gM := gset (gset (gset (gset M 107 (16 * nc + p) (nI sp)) 108 (16 * nc + p) (nI t)) 107 (16 * nc + q) (nI sq)) 108 (16 * nc + q) (nI t)
theorem sv_8 {M : gM} {t nc nk k o p q sp sq s : Nat} (a1 : M 1 0 = nI t) (a3 : M 2 0 = nI nc) (a4 : M 3 0 = nI nk) (hk : k < nk) (l4 : nk ≤ 24) (s6 : s < 6) (s51 : M 51 k = nI s) (s4 : s < 4) (h8 : nc < 8) (ho : o < nc) (hp : p < 16) (hq : q < 16) (r1 : M 47 k = nI o) (r2 : M 48 k = nI p) (r3 : M 49 k = nI q) (u1 : M 29 (o * 16 + p) = nI sp) (u2 : M 29 (o * 16 + q) = nI sq) :
    f_X8_sever M (nI k) = rRet (nI nc) (gset (sv8 (gset (gset (gset M 25 nc (M 25 o)) 26 nc (-1)) 2 0 (nI (nc + 1))) nc p q sp sq t) 47 k (nI nc)) := by
  have hg24 : ∀ F : gR, gI (nI k) 24 F = F := fun F => gI_nI (by omega) (by omega)
  have hg8 : ∀ F : gR, gI (nI o) 8 F = F := fun F => gI_nI (by omega) (by omega)
  have hgp : ∀ F : gR, gI (nI p) 16 F = F := fun F => gI_nI (by omega) (by omega)
  have hgq : ∀ F : gR, gI (nI q) 16 F = F := fun F => gI_nI (by omega) (by omega)
  have hck : (nI k).toNatClampNeg = k := nI_clamp (by omega)
  have hco : (nI o).toNatClampNeg = o := nI_clamp (by omega)
  have hcp : (nI p).toNatClampNeg = p := nI_clamp (by omega)
  have hcq : (nI q).toNatClampNeg = q := nI_clamp (by omega)
  unfold f_X8_sever
  rw [c8_Claim a4 hk (by omega), rb_ret, sv_end (by omega) s6 s51, rb_ret, if_neg (show ¬ 4 ≤ s by omega), if_pos rfl, a3, show (8 : Int32) = nI 8 from by decide, if_pos (nI_lt h8 (by omega)), hg24, hck, r1]
  simp only [bV]
  rw [hg24, r2, hg24, r3, hg8, hco, e_add8 a3 h8, rb_ret, hg8, hgp, hcp]
  show rb (f_X1_addParty _ (nI nc) (nI p) (M 29 (o * 16 + p)) (M 1 0)) _ = _
  rw [u1, a1, e_addP h8 hp, rb_ret, hg8, hgq, hcq]
  show rb (f_X1_addParty _ (nI nc) (nI q) (upd (M 29) (nc * 16 + p) (nI sp) (o * 16 + q)) (M 1 0)) _ = _
  rw [upd_nx (by omega), u2, a1, e_addP h8 hq, rb_ret, hg24]
  rfl
theorem sv_b39 {M : gM} {t nc nk k o p q sp sq : Nat} (b1 : M 9 1 = nI t) (b3 : M 9 6 = nI nc) (hk : k < 24) (h8 : nc < 8) (ho : o < nc) (hp : p < 16) (hq : q < 16) (hpq : p ≠ q) (r1 : M 109 k = nI o) (r2 : M 110 k = nI p) (r3 : M 111 k = nI q) (u1 : M 107 (16 * o + p) = nI sp) (u2 : M 107 (16 * o + q) = nI sq) :
    f_X9_sever_b39 M (nI k) 0 = rRet (nI nc) (gset (sv9 (gset (gset (gset (gset M 9 0 0) 105 nc (M 105 o)) 106 nc (-1)) 9 6 (nI (nc + 1))) nc p q sp sq t) 109 k (nI nc)) := by
  have hg24 : ∀ F : gR, gI (nI k) 24 F = F := fun F => gI_nI (by omega) (by omega)
  have hck : (nI k).toNatClampNeg = k := nI_clamp (by omega)
  have hg8 : ∀ F : gR, gI (nI o) 8 F = F := fun F => gI_nI (by omega) (by omega)
  have hco : (nI o).toNatClampNeg = o := nI_clamp (by omega)
  have hg : ∀ {c x : Nat} (F : gR), c < 8 → x < 16 → gI (nI (16 * c + x)) 128 F = F := fun F h1 h2 => gI_nI (by omega) (by omega)
  have hcl : ∀ {c x : Nat}, c < 8 → x < 16 → (nI (16 * c + x)).toNatClampNeg = 16 * c + x := fun h1 h2 => nI_clamp (by omega)
  -- one party
  have b95 : ∀ (g x sx : Nat) (i : Int32) (N : gM), x < 16 → N 107 (16 * o + x) = nI sx → N 9 1 = nI t → f_X9_sever_b95 (f_X9_sever_l69 g) N (nI k) (nI o) (nI nc) i (nI x) = f_X9_sever_l69 g (gset (gset N 107 (16 * nc + x) (nI sx)) 108 (16 * nc + x) (nI t)) (nI k) (nI o) (nI nc) (i + 1) := by
    intro g x sx i N hx h1 h2
    unfold f_X9_sever_b95
    rw [ix16, ix16, hg _ (by omega) hx, hg _ (by omega) hx, hcl (by omega) hx, hcl (by omega) hx, h1]
    simp only [bM, bV]
    rw [hg _ (by omega) hx]
    show f_X9_sever_l69 g (gset (gset N 107 (16 * nc + x) (nI sx)) 108 (16 * nc + x) (N 9 1)) (nI k) (nI o) (nI nc) (i + 1) = _
    rw [h2]
  have s2 : ∀ (g : Nat) (N : gM), f_X9_sever_l69 (g + 1) N (nI k) (nI o) (nI nc) 2 = rRet (nI nc) (gset N 109 k (nI nc)) := by
    intro g N
    show f_X9_sever_lb69 _ N (nI k) (nI o) (nI nc) 2 = _
    unfold f_X9_sever_lb69
    rw [if_pos (by decide), hg24, hck]
    rfl
  have s1 : ∀ (g : Nat) (N : gM), N 111 k = nI q → N 107 (16 * o + q) = nI sq → N 9 1 = nI t → f_X9_sever_l69 (g + 2) N (nI k) (nI o) (nI nc) 1 = rRet (nI nc) (gset (gset (gset N 107 (16 * nc + q) (nI sq)) 108 (16 * nc + q) (nI t)) 109 k (nI nc)) := by
    intro g N h1 h2 h3
    show f_X9_sever_lb69 (f_X9_sever_l69 (g + 1)) N (nI k) (nI o) (nI nc) 1 = _
    unfold f_X9_sever_lb69
    rw [if_neg (by decide), if_neg i10, hg24, hck, h1, b95 (g + 1) q sq 1 N hq h2 h3, show (1 : Int32) + 1 = 2 from by decide, s2]
  have s0 : ∀ (g : Nat) (N : gM), N 110 k = nI p → N 111 k = nI q → N 107 (16 * o + p) = nI sp → N 107 (16 * o + q) = nI sq → N 9 1 = nI t → f_X9_sever_l69 (g + 3) N (nI k) (nI o) (nI nc) 0 = rRet (nI nc) (gset (sv9 N nc p q sp sq t) 109 k (nI nc)) := by
    intro g N h0 h1 h2 h2' h3
    show f_X9_sever_lb69 (f_X9_sever_l69 (g + 2)) N (nI k) (nI o) (nI nc) 0 = _
    unfold f_X9_sever_lb69
    rw [if_neg (by decide), if_pos rfl, hg24, hck, h0, b95 (g + 2) p sp 0 N hp h2 h3, Int32.zero_add, s1 g _ (by rw [gset_ne (by omega), gset_ne (by omega)]; exact h1) (by rw [gset_ne (by omega), gset_self, upd_nx (by omega)]; exact h2') (by rw [gset_ne (by omega), gset_ne (by omega)]; exact h3)]
    rfl
  unfold f_X9_sever_b39
  rw [rf_0, rb_ret, if_pos rfl, hg24, hck]
  show bV (M 109 k) _ = _
  rw [r1]
  simp only [bV]
  rw [hg8, hco]
  show rb (f_X9_newCase (gset M 9 0 0) (M 105 o)) _ = _
  rw [e_new9 (M := gset M 9 0 0) b3 h8, rb_ret]
  exact s0 4997 _ r2 r3 u1 u2 b1
theorem st_sever : St_sever Inv := by
  intro n M a hn hI
  obtain ⟨t, nh, nc, nk, ne, nr, nx, ns, I⟩ := hI
  obtain ⟨⟨a1, a2, a3, a4, a5, a6, a7, a8⟩, ⟨b1, b2, b3, b4, b5, b6, b7⟩, l1, l2, l3, l4, l5, l6, l7, l8⟩ := I.1
  obtain ⟨⟨e109, e110, e111, e112, e113, e114, e115⟩, hcl, h3, -⟩ := I.2.2.2.2.2.1
  obtain ⟨⟨e105, e106, e108⟩, -, c5, c6, c7⟩ := I.2.2.2.2.1
  rcases idx_cases a nk (by omega) with ⟨k, hk, rfl⟩ | hb
  · obtain ⟨s, s6, s51⟩ := (h3 k hk).1
    by_cases ok : s < 4 ∧ nc < 8
    · obtain ⟨o, p, q, ho, hp, hq, hpq, r1, r2, r3, r4, r5⟩ := hcl k hk
      have h8 : nc < 8 := ok.2
      obtain ⟨⟨sp, sp2, sp3⟩, sp4⟩ := (c5 o (by omega) p hp).2 r4
      obtain ⟨⟨sq, sq2, sq3⟩, sq4⟩ := (c5 o (by omega) q hq).2 r5
      have f1 : M 107 (16 * nc + p) = -1 := c7 nc (by omega) h8 p hp
      have f2 : M 107 (16 * nc + q) = -1 := c7 nc (by omega) h8 q hq
      have k8 := sv_8 (t := t) a1 a3 a4 hk l4 s6 s51 ok.1 h8 ho hp hq r1 r2 r3 (sp4.trans sp3) (sq4.trans sq3)
      refine agI_ok (v := nI nc) (M1 := gset (sv8 (gset (gset (gset M 25 nc (M 25 o)) 26 nc (-1)) 2 0 (nI (nc + 1))) nc p q sp sq t) 47 k (nI nc)) (M2 := gset (sv9 (gset (gset (gset (gset (gset (gset (sv8 (gset (gset (gset M 25 nc (M 25 o)) 26 nc (-1)) 2 0 (nI (nc + 1))) nc p q sp sq t) 47 k (nI nc)) 10 0 (nI nc)) 9 0 0) 105 nc (M 105 o)) 106 nc (-1)) 9 6 (nI (nc + 1))) nc p q sp sq t) 109 k (nI nc)) ?_ ?_ rfl rfl ?_
      · unfold f_L_sever
        rw [k8, rc_ret]
      · have R : Rf (gset (gset (sv8 (gset (gset (gset M 25 nc (M 25 o)) 26 nc (-1)) 2 0 (nI (nc + 1))) nc p q sp sq t) 47 k (nI nc)) 10 0 (nI nc)) M := (((((((((((((Rf.rfl M).s (by omega) (by omega) _ _).s (by omega) (by omega) _ _).s (by omega) (by omega) _ _).s (by omega) (by omega) _ _).s (by omega) (by omega) _ _).s (by omega) (by omega) _ _).s (by omega) (by omega) _ _).s (by omega) (by omega) _ _).s (by omega) (by omega) _ _).s (by omega) (by omega) _ _).s (by omega) (by omega) _ _).s (by omega) (by omega) _ _).o _
        show f_X9_sever _ (nI k) = _
        rw [sv_9 I R hk s6 s51, if_pos ok]
        exact sv_b39 (M := gset (gset (sv8 (gset (gset (gset M 25 nc (M 25 o)) 26 nc (-1)) 2 0 (nI (nc + 1))) nc p q sp sq t) 47 k (nI nc)) 10 0 (nI nc)) (nk := nk) b1 b3 (by omega) h8 ho hp hq hpq (show M 109 k = nI o by rw [e109]; exact r1) (show M 110 k = nI p by rw [e110]; exact r2) (show M 111 k = nI q by rw [e111]; exact r3) sp3 sq3
      · obtain ⟨g1, g2, g3, g4, g5, g6, g7, g8, g9, g10, g11, g12, g13, g14⟩ := I
        have gA := (g5.nw h8 (M 25 o)).add (c := nc) (p := p) (s := sp) (d := nI t) (by omega) (by omega) hp sp2 f1
        have f2' : upd (M 107) (16 * nc + p) (nI sp) (16 * nc + q) = -1 := by rw [upd_nx (by omega)]; exact f2
        have gB := gA.add (c := nc) (p := q) (s := sq) (d := nI t) (by omega) (by omega) hq sq2 f2'
        have gC := g6.nc.mv (k := k) (c := nc) (p := p) (q := q) (m107' := upd (upd (M 107) (16 * nc + p) (nI sp)) (16 * nc + q) (nI sq)) hk (by omega) hp hq hpq r2 r3 (by rw [upd_nx (by omega), upd_eq]; exact m1_ne (by omega)) (by rw [upd_eq]; exact m1_ne (by omega)) (fun j hj => by
          rw [upd_at]
          by_cases z : j = 16 * nc + q
          · rw [if_pos z]; exact m1_ne (by omega)
          · rw [if_neg z, upd_at]
            by_cases y : j = 16 * nc + p
            · rw [if_pos y]; exact m1_ne (by omega)
            · rw [if_neg y]; exact hj)
        refine ⟨t, nh, nc + 1, nk, ne, nr, nx, ns, ⟨⟨a1, a2, rfl, a4, a5, a6, a7, a8⟩, ⟨b1, b2, rfl, b4, b5, b6, b7⟩, l1, l2, h8, l4, l5, l6, l7, (Nat.le_succ_of_le l8)⟩, g2, g3, g4, ?_, gC, g7.nc, g8, g9, g10, g11.nc, g12, g13.up, g14⟩
        have e25 : upd (M 105) nc (M 25 o) = upd (M 105) nc (M 105 o) := by rw [e105]
        rw [e25] at gB
        exact gB
    · refine agI_no (k := 2) ?_ (by decide) (b := 0) ?_ (inv_no I)
      · have : f_X8_sever M (nI k) = rThr 2 M := by
          unfold f_X8_sever
          rw [c8_Claim a4 hk (by omega), rb_ret, sv_end (by omega) s6 s51, rb_ret]
          by_cases q4 : s < 4
          · rw [if_neg (show ¬ 4 ≤ s by omega), if_pos rfl, a3, show (8 : Int32) = nI 8 from by decide, if_neg (nI_nlt (by omega) (by omega))]
          · rw [if_pos (show 4 ≤ s by omega), if_neg i10]
        unfold f_L_sever
        rw [this, rc_thr]
        rfl
      · show f_X9_sever M (nI k) = _
        rw [sv_9 I (Rf.rfl M) hk s6 s51, if_neg ok]
  · refine agI_no (k := 1) ?_ (by decide) (b := 0) ?_ (inv_no I)
    · unfold f_L_sever f_X8_sever
      rw [n8_Claim a4 hb, rb_thr, rc_thr]
      rfl
    · unfold f_X9_sever
      rw [n9_Claim b4 (by omega) hb, rb_ret, if_pos rfl]
      exact sv_n39 M _ (Or.inl rfl)
