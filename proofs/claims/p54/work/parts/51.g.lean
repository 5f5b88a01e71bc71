theorem IE.same {n t nk ne ns : Nat} {M M1 E : gM} (h : IE n t nk ne ns M) (hn : n < 512) (hI : Inv (n + 1) M1) (hA : Ag M1 E) (e1 : E 1 0 = M 1 0) (e2 : E 2 = M 2) (e3 : E 3 = M 3) (e4 : E 4 = M 4) (e8 : E 8 = M 8) (e50 : E 50 = M 50) (e51 : E 51 = M 51) (e52 : E 52 = M 52) (e53 : E 53 = M 53) (e55 : E 55 = M 55) (e56 : E 56 = M 56) (e57 : E 57 = M 57) (e60 : E 60 = M 60) (e61 : E 61 = M 61) (e99 : E 99 = M 99) (e100 : E 100 = M 100) (e146 : E 146 = M 146) : IE (n + 1) t nk ne ns M1 := by
  obtain ⟨⟨nh, nr, nx, I⟩, hE⟩ := h
  obtain ⟨⟨a1, a2, a3, a4, a5, a6, a7, a8⟩, ⟨b1, b2, b3, b4, b5, b6, b7⟩, l1, l2, l3, l4, l5, l6, l7, l8⟩ := I.1
  refine IE.of hI ((congrFun (hA 1 (by decide)) 0).trans (e1.trans a1)) ((congrFun ((hA 2 (by decide)).trans e2) 0).trans a3) ((congrFun ((hA 3 (by decide)).trans e3) 0).trans a4) ((congrFun ((hA 4 (by decide)).trans e4) 0).trans a5) ((congrFun ((hA 8 (by decide)).trans e8) 0).trans a8) l1 l4 l5 (by omega) (by omega) ?_
  exact hE.eq ((hA 50 (by decide)).trans e50) ((hA 51 (by decide)).trans e51) ((hA 52 (by decide)).trans e52) ((hA 53 (by decide)).trans e53) ((hA 55 (by decide)).trans e55) ((hA 56 (by decide)).trans e56) ((hA 57 (by decide)).trans e57) ((hA 60 (by decide)).trans e60) ((hA 61 (by decide)).trans e61) ((hA 99 (by decide)).trans e99) ((hA 100 (by decide)).trans e100) ((hA 146 (by decide)).trans e146)
theorem IE.t {n t nk ne ns : Nat} {M : gM} (h : IE n t nk ne ns M) : t ≤ 900 ∧ nk ≤ 24 ∧ ne ≤ 160 ∧ ns ≤ n := by
  obtain ⟨⟨nh, nr, nx, I⟩, hE⟩ := h
  obtain ⟨-, -, l1, l2, l3, l4, l5, l6, l7, l8⟩ := I.1
  exact ⟨l1, l4, l5, l8⟩
theorem s_stay {n t nk ne ns : Nat} {M : gM} (h : IE n t nk ne ns M) (hn : n < 512) {c : Nat} (hc : c < 2) {b : Int32} (hb : z01 b) : f_W_stay M (nI c) b = qRet (-9000000000000000003) M ∨ ∃ M1, f_W_stay M (nI c) b = qRet (lN ne) M1 ∧ IE (n + 1) t nk (ne + 1) ns M1 ∧ f_W_stay M1 (nI c) b = qRet (-9000000000000000003) M1 := by
  obtain ⟨⟨nh, nr, nx, I⟩, hE⟩ := h
  obtain ⟨-, -, l1, l2, l3, l4, l5, l6, l7, l8⟩ := I.1
  obtain ⟨tc, t1, t2, -⟩ := I.2.2.2.1.2 c (by omega)
  by_cases c0 : ne < 160 ∧ ¬ (if tc % 2 = 1 then (1 : Int32) else 0) = b
  · obtain ⟨c0, cb⟩ := c0
    obtain ⟨K, g, hK, ho⟩ := o_stay I hc t2 t1 hb c0 cb
    obtain ⟨M1, m1, mA, m3⟩ := w_stay hb hn (IE.inv ⟨⟨nh, nr, nx, I⟩, hE⟩) ho
    have hX : Ex t nk (ne + 1) ns M1 := hE.ent0 (K := K) (A := nI c) (IE.days ⟨⟨nh, nr, nx, I⟩, hE⟩) (by rcases hK with z | z <;> rw [z] <;> decide) (by rcases hK with z | z <;> rw [z] <;> decide) (by rcases hK with z | z <;> rw [z] <;> decide) (mA 55 (by decide)) (mA 56 (by decide)) (mA 57 (by decide)) (mA 50 (by decide)) (mA 51 (by decide)) (mA 52 (by decide)) (mA 53 (by decide)) (mA 60 (by decide)) (mA 61 (by decide)) (mA 99 (by decide)) (mA 100 (by decide)) (mA 146 (by decide))
    have h1 : IE (n + 1) t nk (ne + 1) ns M1 := IE.ent ⟨⟨nh, nr, nx, I⟩, hE⟩ hn c0 m3 mA rfl rfl rfl rfl rfl hX
    refine Or.inr ⟨M1, by rw [m1, nI_l (by omega)], h1, ?_⟩
    obtain ⟨⟨nh', nr', nx', I'⟩, -⟩ := h1
    obtain ⟨tc', t1', t2', -⟩ := I'.2.2.2.1.2 c (by omega)
    have e24 : M1 24 = upd (M 24) c (nI (tc + 1)) := mA 24 (by decide)
    have htc : tc' = tc + 1 := by
      rw [e24, upd_eq] at t2'
      exact ((nI_eq (by omega) (by omega)).mp t2').symm
    refine x2_stay (n_stay I' hc t2' (by omega) (fun _ => ?_))
    subst htc
    rcases hb with z | z
    · rw [z] at cb ⊢
      by_cases q : tc % 2 = 1
      · rw [if_neg (show ¬ (tc + 1) % 2 = 1 by omega)]
      · rw [if_neg q] at cb
        exact absurd rfl cb
    · rw [z] at cb ⊢
      by_cases q : tc % 2 = 1
      · rw [if_pos q] at cb
        exact absurd rfl cb
      · rw [if_pos (show (tc + 1) % 2 = 1 by omega)]
  · refine Or.inl (x2_stay (n_stay I hc t2 (by omega) (fun q => Decidable.byContradiction (fun z => c0 ⟨q, z⟩))))
theorem cu_now {t nh nc nk ne nr nx ns n : Nat} {M : gM} (I : InvP t nh nc nk ne nr nx ns n M) {i : Nat} (h65 : M 65 i = nI t) : paV t (cuV M ne i) = 0 := by
  obtain ⟨-, -, l1, l2, l3, l4, l5, l6, l7, l8⟩ := I.1
  unfold cuV
  rw [h65, nI_clamp (show t < 2 ^ 31 by omega)]
  rcases dlM_dom M ne (clC M i) t (M 66 i).toNatClampNeg (M 67 i) (by omega) with q | ⟨y, y1, y2, y3⟩
  · rw [q]; exact paV_m1 t
  · rw [y3]; exact paV_0 (by omega) (by omega)
theorem du_now {t nh nc nk ne nr nx ns n : Nat} {M : gM} (I : InvP t nh nc nk ne nr nx ns n M) {i : Nat} (h56 : M 56 i = nI t) : duV M ne i = -1 ∨ ∃ y, t < y ∧ y ≤ 1400 ∧ duV M ne i = nI y := by
  obtain ⟨-, -, l1, l2, l3, l4, l5, l6, l7, l8⟩ := I.1
  unfold duV
  rw [h56, nI_clamp (show t < 2 ^ 31 by omega)]
  exact dlM_dom M ne (clC M i) t (M 63 i).toNatClampNeg (M 64 i) (by omega)
theorem rRet_inj {v w : Int32} {M N : gM} (h : rRet v M = rRet w N) : v = w := congrArg (fun z => z.2.1) h
theorem s_defect {n t nk ne ns : Nat} {M : gM} (h : IE n t nk ne ns M) (hn : n < 512) {i : Nat} (hi : i < ne) : f_W_defect M (nI i) = qRet (-9000000000000000003) M ∨ ∃ M1 v, f_W_defect M (nI i) = qRet v M1 ∧ IE (n + 1) t nk ne ns M1 ∧ f_W_due M1 3 (nI i) = qRet v M1 ∧ f_W_counts M1 (nI i) = qRet 1 M1 ∧ f_W_defect M1 (nI i) = qRet (-9000000000000000003) M1 ∧ (M 55 i = 1 ∨ M 55 i = 2 ∨ M 55 i = 3) := by
  obtain ⟨⟨nh, nr, nx, I⟩, hE⟩ := h
  obtain ⟨-, -, l1, l2, l3, l4, l5, l6, l7, l8⟩ := I.1
  by_cases c : (M 55 i = 1 ∨ M 55 i = 2 ∨ M 55 i = 3) ∧ M 65 i = -1
  · obtain ⟨ck, c1⟩ := c
    obtain ⟨v, ho, hcu⟩ := o_defect I hi ck c1
    obtain ⟨M1, m1, mA, m3⟩ := w_defect hn (IE.inv ⟨⟨nh, nr, nx, I⟩, hE⟩) ho
    have h1 : IE (n + 1) t nk ne ns M1 := IE.same ⟨⟨nh, nr, nx, I⟩, hE⟩ hn m3 mA rfl rfl rfl rfl rfl rfl rfl rfl rfl rfl rfl rfl rfl rfl rfl rfl rfl
    have h1' := h1
    obtain ⟨⟨nh', nr', nx', I'⟩, -⟩ := h1'
    have e65 : M1 65 = upd (M 65) i (nI t) := mA 65 (by decide)
    have k65 : M1 65 i = nI t := by rw [e65, upd_eq]
    have n65 : ¬ M1 65 i = -1 := by rw [k65]; exact m1_ne (by omega)
    have hv : v = cuV M1 ne i := rRet_inj (hcu.symm.trans (e_cure8k I' mA.k hi n65))
    refine Or.inr ⟨M1, v.toInt64, m1, h1, ?_, ?_, ?_, ck⟩
    · rw [q_due3 I' (by omega) hi, if_neg n65, hv]
    · rw [q_counts I' hi]
      have : cnV M1 t ne i = 1 := by
        unfold cnV
        rw [if_neg n65, if_pos (cu_now I' k65)]
        exact ite_self 1
      rw [this, if_neg i10]
    · exact x2_defect (n_defect I' hi (fun q => n65 q.2))
  · exact Or.inl (x2_defect (n_defect I hi c))
theorem s_cure {n t nk ne ns : Nat} {M : gM} (h : IE n t nk ne ns M) (hn : n < 512) {i : Nat} (hi : i < ne) : f_W_cure M (nI i) = qRet (-9000000000000000003) M ∨ ∃ M1, f_W_cure M (nI i) = qRet 1 M1 ∧ IE (n + 1) t nk ne ns M1 ∧ f_W_counts M1 (nI i) = qRet 1 M1 ∧ f_W_cure M1 (nI i) = qRet (-9000000000000000003) M1 := by
  obtain ⟨⟨nh, nr, nx, I⟩, hE⟩ := h
  obtain ⟨-, -, l1, l2, l3, l4, l5, l6, l7, l8⟩ := I.1
  have ho := o_cure I hi
  by_cases c : ¬ M 65 i = -1 ∧ M 68 i = 0 ∧ paV t (cuV M ne i) = 0
  · rw [if_pos c] at ho
    obtain ⟨M1, m1, mA, m3⟩ := w_cure hn (IE.inv ⟨⟨nh, nr, nx, I⟩, hE⟩) ho
    have h1 : IE (n + 1) t nk ne ns M1 := IE.same ⟨⟨nh, nr, nx, I⟩, hE⟩ hn m3 mA rfl rfl rfl rfl rfl rfl rfl rfl rfl rfl rfl rfl rfl rfl rfl rfl rfl
    have h1' := h1
    obtain ⟨⟨nh', nr', nx', I'⟩, -⟩ := h1'
    have e68 : M1 68 = upd (M 68) i 1 := mA 68 (by decide)
    have k68 : ¬ M1 68 i = 0 := by rw [e68, upd_eq]; decide
    refine Or.inr ⟨M1, by rw [m1, if_neg i10], h1, ?_, ?_⟩
    · rw [q_counts I' hi]
      have : cnV M1 t ne i = 1 := by
        unfold cnV
        rw [if_neg k68]
        exact ite_self 1
      rw [this, if_neg i10]
    · have ho' := o_cure I' hi
      rw [if_neg (fun q => k68 q.2.1)] at ho'
      exact x2_cure ho'
  · rw [if_neg c] at ho
    exact Or.inl (x2_cure ho)
theorem s_extend {n t nk ne ns : Nat} {M : gM} (h : IE n t nk ne ns M) (hn : n < 512) {k x : Nat} (hk : k < nk) (x1 : 1 ≤ x) (x2 : x ≤ 60) : (f_W_extend M 0 (nI k) (nI x) = qRet (-9000000000000000003) M ∧ (adV M t ne (nI k) = -1 ∨ ¬ paV t (adV M t ne (nI k)) = 0)) ∨ ∃ M1 v, f_W_extend M 0 (nI k) (nI x) = qRet v.toInt64 M1 ∧ IE (n + 1) t nk ne ns M1 ∧ ¬ adV M t ne (nI k) = -1 ∧ paV t (adV M t ne (nI k)) = 0 ∧ (v = -1 ∨ ∃ p q, adV M t ne (nI k) = nI p ∧ v = nI q ∧ p ≤ q ∧ q ≤ 1400) := by
  obtain ⟨⟨nh, nr, nx, I⟩, hE⟩ := h
  obtain ⟨-, -, l1, l2, l3, l4, l5, l6, l7, l8⟩ := I.1
  by_cases c : adV M t ne (nI k) = -1 ∨ ¬ paV t (adV M t ne (nI k)) = 0
  · exact Or.inl ⟨x2_extend (n_extend I (by omega) hk x1 x2 c), c⟩
  · have c1 : ¬ adV M t ne (nI k) = -1 := fun z => c (Or.inl z)
    have c2 : paV t (adV M t ne (nI k)) = 0 := Decidable.byContradiction (fun z => c (Or.inr z))
    obtain ⟨e, v, e1, ho, hv⟩ := o_extend I (by omega) hk x1 x2 c1 c2
    obtain ⟨M1, m1, mA, m3⟩ := w_extend hn (IE.inv ⟨⟨nh, nr, nx, I⟩, hE⟩) ho
    exact Or.inr ⟨M1, v, m1, IE.same ⟨⟨nh, nr, nx, I⟩, hE⟩ hn m3 mA rfl rfl rfl rfl rfl rfl rfl rfl rfl rfl rfl rfl rfl rfl rfl rfl rfl, c1, c2, hv⟩
theorem s_seal {n t nk ne ns : Nat} {M : gM} (h : IE n t nk ne ns M) (hn : n < 512) {e : Nat} (he : e < ne) {v : Int32} (hv : z01 v) : ∃ M1 r ns1, f_W_seal M (nI e) v = qRet r M1 ∧ (r = 0 ∨ r = 1) ∧ IE (n + 1) t nk ne ns1 M1 ∧ sSeal (M1 99) (M1 100) (M1 101) (nI e) (nI t) ns1 = v ∧ (sSeal (M 99) (M 100) (M 101) (nI e) (nI t) ns = v → r = 0) := by
  obtain ⟨⟨nh, nr, nx, I⟩, hE⟩ := h
  obtain ⟨⟨a1, a2, a3, a4, a5, a6, a7, a8⟩, -, l1, l2, l3, l4, l5, l6, l7, l8⟩ := I.1
  have ho := o_seal I he hn hv
  by_cases c : sSeal (M 99) (M 100) (M 101) (nI e) (nI t) ns = v
  · rw [if_pos c] at ho
    obtain ⟨M1, m1, mA, m3⟩ := w_seal hv hn (IE.inv ⟨⟨nh, nr, nx, I⟩, hE⟩) ho
    refine ⟨M1, 0, ns, m1, Or.inl rfl, IE.same ⟨⟨nh, nr, nx, I⟩, hE⟩ hn m3 mA rfl rfl rfl rfl rfl rfl rfl rfl rfl rfl rfl rfl rfl rfl rfl rfl rfl, ?_, fun _ => rfl⟩
    rw [mA 99 (by decide), mA 100 (by decide), mA 101 (by decide)]
    exact c
  · rw [if_neg c] at ho
    obtain ⟨M1, m1, mA, m3⟩ := w_seal hv hn (IE.inv ⟨⟨nh, nr, nx, I⟩, hE⟩) ho
    have e99 : M1 99 = upd (M 99) ns (nI e) := mA 99 (by decide)
    have e100 : M1 100 = upd (M 100) ns (nI t) := mA 100 (by decide)
    have e101 : M1 101 = upd (M 101) ns v := mA 101 (by decide)
    obtain ⟨d, d1, d2⟩ := IE.days ⟨⟨nh, nr, nx, I⟩, hE⟩ e he
    obtain ⟨hc, g1, g2, g3, g4⟩ := hE
    have hX : Ex t nk ne (ns + 1) M1 := by
      refine ⟨?_, ?_⟩
      · rw [show M1 50 = M 50 from mA 50 (by decide), show M1 51 = M 51 from mA 51 (by decide), show M1 52 = M 52 from mA 52 (by decide), show M1 53 = M 53 from mA 53 (by decide), show M1 55 = M 55 from mA 55 (by decide), show M1 56 = M 56 from mA 56 (by decide), show M1 57 = M 57 from mA 57 (by decide), show M1 60 = M 60 from mA 60 (by decide), show M1 61 = M 61 from mA 61 (by decide)]
        exact hc
      · rw [show M1 51 = M 51 from mA 51 (by decide), show M1 55 = M 55 from mA 55 (by decide), show M1 56 = M 56 from mA 56 (by decide), show M1 60 = M 60 from mA 60 (by decide), show M1 146 = M 146 from mA 146 (by decide)]
        refine ⟨g1, g2, fun i hi => ?_, g4⟩
        rcases lt_sx hi with q | q
        · obtain ⟨x, a, b, z1, z2, z3, z4, z5, z6⟩ := g3 i q
          exact ⟨x, a, b, z1, by rw [e99, upd_lt q]; exact z2, z3, by rw [e100, upd_lt q]; exact z4, z5, z6⟩
        · subst q
          exact ⟨e, d, t, he, by rw [e99, upd_eq], d2, by rw [e100, upd_eq], d1, Nat.le_refl _⟩
    refine ⟨M1, 1, ns + 1, by rw [m1, if_neg i10], Or.inr rfl, IE.of m3 ((congrFun (mA 1 (by decide)) 0).trans a1) ((congrFun (mA 2 (by decide)) 0).trans a3) ((congrFun (mA 3 (by decide)) 0).trans a4) ((congrFun (mA 4 (by decide)) 0).trans a5) (by rw [mA 8 (by decide)]; rfl) l1 l4 l5 (by omega) (by omega) hX, ?_, fun q => absurd q c⟩
    rw [e99, e100, e101]
    show (if upd (M 99) ns (nI e) ns = nI e then if nI t < upd (M 100) ns (nI t) ns then _ else upd (M 101) ns v ns else _) = v
    rw [upd_eq, upd_eq, upd_eq, if_pos rfl, if_neg (nI_nlt (Nat.le_refl _) (by omega))]
theorem s_pass {n t nk ne ns : Nat} {M : gM} (h : IE n t nk ne ns M) (hn : n < 512) {x : Nat} (x1 : 1 ≤ x) (x2 : x ≤ 60) (hx : t + x ≤ 900) : ∃ M1, f_W_pass M (nI x) = qRet (lN (t + x)) M1 ∧ IE (n + 1) (t + x) nk ne ns M1 := by
  obtain ⟨⟨nh, nr, nx, I⟩, hE⟩ := h
  obtain ⟨⟨a1, a2, a3, a4, a5, a6, a7, a8⟩, -, l1, l2, l3, l4, l5, l6, l7, l8⟩ := I.1
  have ho := o_pass I x1 x2 hx
  obtain ⟨M1, m1, mA, m3⟩ := w_pass hn (IE.inv ⟨⟨nh, nr, nx, I⟩, hE⟩) ho
  refine ⟨M1, by rw [m1, nI_l (by omega)], IE.of m3 (by rw [mA 1 (by decide)]; rfl) ((congrFun (mA 2 (by decide)) 0).trans a3) ((congrFun (mA 3 (by decide)) 0).trans a4) ((congrFun (mA 4 (by decide)) 0).trans a5) ((congrFun (mA 8 (by decide)) 0).trans a8) hx l4 l5 (by omega) (by omega) ?_⟩
  exact hE.tm.eq (mA 50 (by decide)) (mA 51 (by decide)) (mA 52 (by decide)) (mA 53 (by decide)) (mA 55 (by decide)) (mA 56 (by decide)) (mA 57 (by decide)) (mA 60 (by decide)) (mA 61 (by decide)) (mA 99 (by decide)) (mA 100 (by decide)) (mA 146 (by decide))
theorem s_setRule {n t nk ne ns : Nat} {M : gM} (h : IE n t nk ne ns M) (hn : n < 512) {i x : Nat} (hi : i < 5) (x1 : 1 ≤ x) (x2 : x ≤ 60) {c : Int32} (hc : z01 c) : ∃ M1 y, f_W_setRule M (nI i) (nI x) c = qRet (lN y) M1 ∧ 1 ≤ y ∧ y ≤ 60 ∧ IE (n + 1) t nk ne ns M1 := by
  obtain ⟨⟨nh, nr, nx, I⟩, hE⟩ := h
  obtain ⟨⟨y, y1, y2, y3⟩, -⟩ := I.2.2.1.2.2 i hi
  have ho := o_setRule I hi x1 x2 hc
  obtain ⟨M1, m1, mA, m3⟩ := w_setRule hc hn (IE.inv ⟨⟨nh, nr, nx, I⟩, hE⟩) ho
  exact ⟨M1, y, by rw [m1, y3, nI_l (by omega)], y1, y2, IE.same ⟨⟨nh, nr, nx, I⟩, hE⟩ hn m3 mA rfl rfl rfl rfl rfl rfl rfl rfl rfl rfl rfl rfl rfl rfl rfl rfl rfl⟩
theorem s_holiday {n t nk ne ns : Nat} {M : gM} (h : IE n t nk ne ns M) (hn : n < 512) {d : Nat} (h1 : t < d) (h2 : d ≤ 1000) : ∃ M1 r, f_W_holiday M (nI d) = qRet r M1 ∧ (r = -9000000000000000003 ∨ r = 0 ∨ r = 1) ∧ IE (n + 1) t nk ne ns M1 := by
  have h0 := h
  obtain ⟨⟨nh, nr, nx, I⟩, hE⟩ := h
  rcases o_holiday I h1 h2 with ho | ⟨v, hv, ho⟩
  · exact ⟨M, _, x2_holiday ho, Or.inl rfl, h0.up⟩
  · obtain ⟨M1, m1, mA, m3⟩ := w_holiday hn (IE.inv ⟨⟨nh, nr, nx, I⟩, hE⟩) ho
    refine ⟨M1, _, m1, ?_, IE.same ⟨⟨nh, nr, nx, I⟩, hE⟩ hn m3 mA rfl rfl rfl rfl rfl rfl rfl rfl rfl rfl rfl rfl rfl rfl rfl rfl rfl⟩
    by_cases q : v = 0
    · rw [if_pos q]; exact Or.inr (Or.inl rfl)
    · rw [if_neg q]; exact Or.inr (Or.inr rfl)
theorem s_claim {n t nk ne ns : Nat} {M : gM} (h : IE n t nk ne ns M) (hn : n < 512) {c p q x : Nat} (hc : c < 2) (hp : p < 16) (hq : q < 16) (x1 : 1 ≤ x) (x2 : x ≤ 99999) : (f_W_claim M (nI c) (nI p) (nI q) (nI x) = qRet (-9000000000000000003) M ∧ ¬ (opp (M 107) c p q ∧ nk < 24)) ∨ ∃ M1, f_W_claim M (nI c) (nI p) (nI q) (nI x) = qRet (lN nk) M1 ∧ IE (n + 1) t (nk + 1) ne ns M1 ∧ M1 51 nk = 0 ∧ Ag M1 (E_claim M nk c p q x) := by
  obtain ⟨⟨nh, nr, nx, I⟩, hE⟩ := h
  obtain ⟨⟨a1, a2, a3, a4, a5, a6, a7, a8⟩, -, l1, l2, l3, l4, l5, l6, l7, l8⟩ := I.1
  have ho := o_claim I hc hp hq x1 x2
  by_cases co : opp (M 107) c p q ∧ nk < 24
  · rw [if_pos co] at ho
    obtain ⟨M1, m1, mA, m3⟩ := w_claim hn (IE.inv ⟨⟨nh, nr, nx, I⟩, hE⟩) ho
    have z53 : M 53 nk = 0 := (I.2.2.2.2.2.1.2.2.2.1 nk (Nat.le_refl _)).2.1
    obtain ⟨gc, g1, g2, g3, g4⟩ := hE
    have e50 : M1 50 = upd (M 50) nk (nI x) := mA 50 (by decide)
    have e51 : M1 51 = upd (M 51) nk 0 := mA 51 (by decide)
    have e52 : M1 52 = upd (M 52) nk (-1) := mA 52 (by decide)
    have e53 : M1 53 = M 53 := mA 53 (by decide)
    have hX : Ex t (nk + 1) ne ns M1 := by
      refine ⟨fun k hk => ?_, ?_⟩
      · rw [e50, e51, e52, e53, show M1 55 = M 55 from mA 55 (by decide), show M1 56 = M 56 from mA 56 (by decide), show M1 57 = M 57 from mA 57 (by decide), show M1 60 = M 60 from mA 60 (by decide), show M1 61 = M 61 from mA 61 (by decide)]
        rcases lt_sx hk with w | w
        · unfold Xc
          rw [upd_lt w, upd_lt w, upd_lt w]
          exact gc k w
        · subst w
          refine ⟨⟨x, x1, x2, upd_eq, fun w => ?_⟩, Or.inl upd_eq, fun _ _ _ => z53, fun w => ?_⟩
          · rw [upd_eq] at w
            exact absurd w (by decide)
          · rw [upd_eq, z53] at w
            rcases w with w | w | w
            · exact absurd rfl w
            · exact absurd w (by decide)
            · exact absurd w (by decide)
      · rw [e51, show M1 55 = M 55 from mA 55 (by decide), show M1 56 = M 56 from mA 56 (by decide), show M1 60 = M 60 from mA 60 (by decide), show M1 146 = M 146 from mA 146 (by decide), show M1 99 = M 99 from mA 99 (by decide), show M1 100 = M 100 from mA 100 (by decide)]
        refine ⟨g1, g2, g3, fun c hc => ?_⟩
        obtain ⟨v, v1, v2, v3⟩ := g4 c hc
        exact ⟨v, v1, v2, fun w => ⟨by have := (v3 w).1; omega, by rw [upd_lt (v3 w).1]; exact (v3 w).2⟩⟩
    exact Or.inr ⟨M1, by rw [m1, nI_l (by omega)], IE.of m3 ((congrFun (mA 1 (by decide)) 0).trans a1) ((congrFun (mA 2 (by decide)) 0).trans a3) (by rw [mA 3 (by decide)]; rfl) ((congrFun (mA 4 (by decide)) 0).trans a5) ((congrFun (mA 8 (by decide)) 0).trans a8) l1 (by omega) l5 (by omega) (by omega) hX, by rw [e51, upd_eq], mA⟩
  · rw [if_neg co] at ho
    exact Or.inl ⟨x2_claim ho, co⟩
