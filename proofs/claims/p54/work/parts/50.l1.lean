def ordK (x : Int32) : Bool := decide (¬ x < 4 ∧ ¬ 10 < x ∧ x ≠ 6)
def ordB (M : gM) (k : Int32) (e : Nat) : Bool := ordK (M 55 e) && decide (M 57 e = k) && decide (M 61 e = 0)
def loV (M : gM) (ne : Nat) (k : Int32) : Int32 := lastP (ordB M k) ne
theorem ordK_9 : ∀ j, j < 13 → ordK (nI j) = (decide (nI j = 4) || (decide (nI j = 5) || decide (¬ nI j < 7 ∧ ¬ 10 < nI j))) := by decide +kernel
theorem e_lo8 {M : gM} {ne : Nat} (h : M 4 0 = nI ne) (h5 : ne ≤ 160) (k : Int32) : f_X3_latestOrder M k = rRet (loV M ne k) M := by
  unfold f_X3_latestOrder
  rw [h]
  have b48 : ∀ g i, i < ne → ∀ b : Bool, f_X3_latestOrder_b48 (f_X3_latestOrder_l7 g) M k (nI i) (if b then 1 else 0) = if b && decide (M 57 i = k) && decide (M 61 i = 0) then rRet (nI i) M else f_X3_latestOrder_l7 g M k (nI i - 1) := by
    intro g i hi b
    have hg : ∀ F : gR, gI (nI i) 160 F = F := fun F => gI_nI (by omega) (by omega)
    unfold f_X3_latestOrder_b48
    simp only [bV]
    rw [hg, hg, nI_clamp (show i < 2 ^ 31 by omega), nI_m1]
    cases b with
    | false => simp
    | true =>
      by_cases c1 : M 57 i = k
      · rw [if_pos c1, decide_eq_true c1]
        by_cases c2 : M 61 i = 0
        · rw [if_pos c2, decide_eq_true c2]; simp
        · rw [if_neg c2, decide_eq_false c2]; simp
      · rw [if_neg c1, decide_eq_false c1]; simp
  have stp : ∀ g i, i < ne → f_X3_latestOrder_l7 (g + 1) M k (nI i) = if ordB M k i then rRet (nI i) M else f_X3_latestOrder_l7 g M k (nI i - 1) := by
    intro g i hi
    have hg : ∀ F : gR, gI (nI i) 160 F = F := fun F => gI_nI (by omega) (by omega)
    have b1 := b48 g i hi true
    have b0 := b48 g i hi false
    rw [if_pos rfl] at b1
    rw [if_neg (by decide)] at b0
    show f_X3_latestOrder_lb7 _ M k (nI i) = _
    unfold f_X3_latestOrder_lb7 f_X3_latestOrder_b47 ordB
    rw [if_neg (nI_pos (by omega)), hg, hg, hg, nI_clamp (show i < 2 ^ 31 by omega), b1, b0]
    by_cases c1 : M 55 i < 4
    · rw [if_pos c1, show ordK (M 55 i) = false from decide_eq_false (fun h => h.1 c1)]
    · rw [if_neg c1]
      by_cases c2 : 10 < M 55 i
      · rw [if_pos c2, show ordK (M 55 i) = false from decide_eq_false (fun h => h.2.1 c2)]
      · rw [if_neg c2]
        by_cases c3 : M 55 i = 6
        · rw [if_pos c3, show ordK (M 55 i) = false from decide_eq_false (fun h => h.2.2 c3)]
        · rw [if_neg c3, show ordK (M 55 i) = true from decide_eq_true ⟨c1, c2, c3⟩]
  refine lp_dn (L := fun f i => f_X3_latestOrder_l7 f M k i) (p := ordB M k) (n := ne) ?_ ?_ ?_ ne 5000 (by omega) (by omega)
  · intro g i hi hp
    show f_X3_latestOrder_l7 (g + 1) M k (nI i) = _
    rw [stp g i hi, hp, if_pos rfl]
  · intro g i hi hp
    show f_X3_latestOrder_l7 (g + 1) M k (nI i) = f_X3_latestOrder_l7 g M k (nI i - 1)
    rw [stp g i hi, hp, if_neg (by decide)]
  · intro g
    show f_X3_latestOrder_lb7 _ M k (nI 0 - 1) = _
    unfold f_X3_latestOrder_lb7
    rw [if_pos nI_m1_lt]
theorem e_lo9 {t nh nc nk ne nr nx ns n : Nat} {M' M : gM} (I : InvP t nh nc nk ne nr nx ns n M) (R : Rf M' M) (k : Int32) : f_X9_latestOrder M' k = rRet (loV M ne k) M' := by
  obtain ⟨-, ⟨b1, b2, b3, b4, b5, -⟩, l1, l2, l3, l4, l5, l6, l7, l8⟩ := I.1
  have h23 : M' 9 23 = nI ne := (R.1 23 (by omega)).trans b5
  have e120 : M' 120 = M 55 := (R.2 120 (by omega)).trans I.2.2.2.2.2.2.2.2.2.2.1.1.1
  have e122 : M' 122 = M 57 := (R.2 122 (by omega)).trans I.2.2.2.2.2.2.2.2.2.2.1.1.2.2.1
  have e130 : M' 130 = M 61 := (R.2 130 (by omega)).trans I.2.2.2.2.2.2.2.2.2.2.1.1.2.2.2.2.2
  have q := lp_fd0 (L := fun f s i => f_X9_latestOrder_l4 f M' k s i) (st := fun e s => if ordB M k e then nI e else s) (s0 := -1) (F := fun s => rRet s M') (n := ne) ?_ ?_ (by omega)
  · show f_X9_latestOrder_l4 5000 M' k (-1) 0 = _
    refine Eq.trans q ?_
    show rRet (fold (fun e s => if ordB M k e then nI e else s) (-1) ne) M' = _
    rw [fold_last1 (p := ordB M k) (by omega)]
    rfl
  · intro g i hi
    have hg : ∀ F : gR, gI (nI i) 160 F = F := fun F => gI_nI (by omega) (by omega)
    obtain ⟨j, d, j1, -, j3, -⟩ := I.2.2.2.2.2.2.2.2.2.2.1.2.1 i hi
    have hk := ordK_9 j j1
    show f_X9_latestOrder_lb4 _ M' k (fold _ (-1) i) (nI i) = f_X9_latestOrder_l4 g M' k (if ordB M k i then nI i else fold _ (-1) i) (nI (i + 1))
    generalize fold _ (-1 : Int32) i = s
    have b53 : ∀ b : Bool, ordK (M 55 i) = b → f_X9_latestOrder_b53 (f_X9_latestOrder_l4 g) M' k s (nI i) (if b then 1 else 0) = f_X9_latestOrder_l4 g M' k (if ordB M k i then nI i else s) (nI (i + 1)) := by
      intro b hb
      unfold f_X9_latestOrder_b53 ordB
      simp only [bV]
      rw [hg, hg, nI_clamp (show i < 2 ^ 31 by omega), e122, e130, nI_1, hb]
      cases b with
      | false => simp
      | true =>
        by_cases c1 : M 57 i = k
        · rw [if_pos c1, decide_eq_true c1]
          by_cases c2 : M 61 i = 0
          · rw [if_pos c2, decide_eq_true c2]; simp
          · rw [if_neg c2, decide_eq_false c2]; simp
        · rw [if_neg c1, decide_eq_false c1]; simp
    have b1 := b53 true
    have b0 := b53 false
    rw [if_pos rfl] at b1
    rw [if_neg (by decide)] at b0
    show f_X9_latestOrder_lb4 (f_X9_latestOrder_l4 g) M' k s (nI i) = _
    unfold f_X9_latestOrder_lb4 f_X9_latestOrder_b48
    rw [h23, if_neg (nI_ge (by omega) (by omega)), hg, hg, hg, nI_clamp (show i < 2 ^ 31 by omega), e120, wit_eq, rb_ret]
    rw [← j3] at hk
    by_cases c4 : M 55 i = 4
    · rw [if_pos c4]
      exact b1 (by rw [hk, decide_eq_true c4, Bool.true_or])
    · rw [if_neg c4]
      rw [decide_eq_false c4, Bool.false_or] at hk
      by_cases c5 : M 55 i = 5
      · rw [if_pos c5]
        exact b1 (by rw [hk, decide_eq_true c5, Bool.true_or])
      · rw [if_neg c5]
        rw [decide_eq_false c5, Bool.false_or] at hk
        by_cases c7 : M 55 i < 7
        · rw [if_pos (c := M 55 i < 7) c7, if_pos rfl]
          exact b0 (by rw [hk, decide_eq_false (fun h => h.1 c7)])
        · rw [if_neg (c := M 55 i < 7) c7]
          by_cases ca : 10 < M 55 i
          · rw [if_pos (c := 10 < M 55 i) ca, if_pos rfl]
            exact b0 (by rw [hk, decide_eq_false (fun h => h.2 ca)])
          · rw [if_neg (c := 10 < M 55 i) ca, if_neg i10]
            exact b1 (by rw [hk, decide_eq_true ⟨c7, ca⟩])
  · intro g
    show f_X9_latestOrder_lb4 _ M' k (fold _ (-1) ne) (nI ne) = _
    unfold f_X9_latestOrder_lb4
    rw [h23, if_pos (nI_le (by omega) (by omega))]
theorem lo_dom (M : gM) (ne : Nat) (k : Int32) : loV M ne k = -1 ∨ ∃ o, o < ne ∧ loV M ne k = nI o ∧ ordB M k o = true ∧ ∀ i, o < i → i < ne → ordB M k i = false := by
  rcases lastP_cases (ordB M k) ne with ⟨h1, -⟩ | ⟨e, h1, h2, h3, h4⟩
  · exact Or.inl h1
  · exact Or.inr ⟨e, h1, h2, h3, h4⟩
def vaK (M : gM) (o : Nat) : Bool := decide (M 55 o = 5) || (decide (M 55 o = 4) && !decide (M 58 o = -1))
theorem st_vacate : St_vacate Inv := by
  intro n M a hn hI
  obtain ⟨t, nh, nc, nk, ne, nr, nx, ns, I⟩ := hI
  obtain ⟨⟨a1, a2, a3, a4, a5, a6, a7, a8⟩, ⟨b1, b2, b3, b4, b5, b6, b7⟩, l1, l2, l3, l4, l5, l6, l7, l8⟩ := I.1
  have gr := I.2.2.1.2.2
  have e104 : M 104 = M 14 := I.2.2.1.2.1
  have e103 : M 103 = M 13 := I.2.2.1.1
  obtain ⟨⟨e109, e110, e111, e112, e113, e114, e115⟩, -⟩ := I.2.2.2.2.2.1
  have e120 : M 120 = M 55 := I.2.2.2.2.2.2.2.2.2.2.1.1.1
  have e123 : M 123 = M 58 := I.2.2.2.2.2.2.2.2.2.2.1.1.2.2.2.1
  obtain ⟨⟨x, x1, x2, x3⟩, -⟩ := gr 3 (by omega)
  rcases idx_cases a nk (by omega) with ⟨k, hk, rfl⟩ | hb
  · have hg24 : ∀ F : gR, gI (nI k) 24 F = F := fun F => gI_nI (by omega) (by omega)
    have hck : (nI k).toNatClampNeg = k := nI_clamp (by omega)
    have n88 : ∀ N o, f_X9_vacate_b88 N (nI k) o 2 = rRet 0 (gset N 9 0 2) := by
      intro N o
      unfold f_X9_vacate_b88
      rw [rf_2, rb_ret, if_neg i10]
    rcases lo_dom M ne (nI k) with hl | ⟨o, o1, o2, o3, o4⟩
    · refine agI_no (k := 2) ?_ (by decide) (b := 0) ?_ (inv_no I)
      · have : f_X8_vacate M (nI k) = rThr 2 M := by
          unfold f_X8_vacate
          rw [c8_Claim a4 hk (by omega), rb_ret, e_lo8 a5 l5, rb_ret, hl, if_pos rfl]
          unfold f_X8_vacate_b32 f_X8_vacate_b33
          rw [e_allow0, rb_thr]
        unfold f_L_vacate
        rw [this, rc_thr]
        rfl
      · unfold f_X9_vacate
        rw [c9_Claim b4 hk (by omega), rb_ret, if_neg i10, e_lo9 I (Rf.rfl M), rb_ret, hl]
        unfold f_X9_vacate_b19 f_X9_vacate_b66 f_X9_vacate_b67
        rw [if_pos rfl, if_neg i10, if_pos rfl]
        exact n88 M _
    · have hg : ∀ F : gR, gI (nI o) 160 F = F := fun F => gI_nI (by omega) (by omega)
      have hc : (nI o).toNatClampNeg = o := nI_clamp (by omega)
      have k8 : f_X8_vacate M (nI k) = if vaK M o then f_X8_vacate_b33 M (nI k) (nI o) 1 else f_X8_vacate_b33 M (nI k) (nI o) 0 := by
        unfold f_X8_vacate f_X8_vacate_b32
        rw [c8_Claim a4 hk (by omega), rb_ret, e_lo8 a5 l5, rb_ret, o2, if_neg (m1_ne (by omega))]
        unfold f_X8_canBeVacated vaK
        rw [hg, hg, hc]
        simp only [bV]
        by_cases c5 : M 55 o = 5
        · rw [if_pos c5, decide_eq_true c5, rb_ret, if_neg i10]; rfl
        · rw [if_neg c5, decide_eq_false c5]
          by_cases c4 : M 55 o = 4
          · rw [if_pos c4, decide_eq_true c4]
            by_cases c1 : M 58 o = -1
            · rw [if_pos c1, decide_eq_true c1, rb_ret, if_pos rfl]; rfl
            · rw [if_neg c1, decide_eq_false c1, rb_ret, if_neg i10]; rfl
          · rw [if_neg c4, decide_eq_false c4, rb_ret, if_pos rfl]; rfl
      have k9 : ∀ M', Rf M' M → f_X9_vacate M' (nI k) = if ne < 160 then (if vaK M o then f_X9_vacate_b88 M' (nI k) (nI o) 0 else rRet 0 (gset M' 9 0 2)) else rRet 0 (gset M' 9 0 2) := by
        intro M' R
        unfold f_X9_vacate
        rw [c9_Claim ((R.1 11 (by omega)).trans b4) hk (by omega), rb_ret, if_neg i10, e_lo9 I R, rb_ret, o2]
        unfold f_X9_vacate_b19 f_X9_vacate_b52 f_X9_vacate_b62 f_X9_vacate_b66 f_X9_vacate_b67 vaK
        rw [if_neg (m1_ne (by omega)), e_room ((R.1 23 (by omega)).trans b5) (by omega), rb_ret, hg, hg, hg, hc, R.2 120 (by omega), R.2 123 (by omega), e120, e123, if_neg i10, if_pos rfl, if_neg i10, if_neg i10, n88]
        by_cases c0 : ne < 160
        · rw [if_pos c0, if_neg i10, if_pos c0]
          by_cases c5 : M 55 o = 5
          · have c4 : ¬ M 55 o = 4 := by rw [c5]; decide
            rw [if_neg c4, if_pos c5, decide_eq_true c5]; rfl
          · rw [if_neg c5, decide_eq_false c5]
            by_cases c4 : M 55 o = 4
            · rw [if_pos c4, decide_eq_true c4]
              by_cases c1 : M 58 o = -1
              · rw [if_pos c1, decide_eq_true c1]; rfl
              · rw [if_neg c1, decide_eq_false c1]; rfl
            · rw [if_neg c4, decide_eq_false c4]; rfl
        · rw [if_neg c0, if_pos rfl, if_neg c0]
      have no : (ne < 160 → vaK M o = false) → AgI (f_L_vacate M (nI k)) (fun M1 => f_X9_vacate M1 (nI k)) (Inv (n + 1)) := by
        intro h
        refine agI_no (k := 2) ?_ (by decide) (b := 0) ?_ (inv_no I)
        · have : f_X8_vacate M (nI k) = rThr 2 M := by
            rw [k8]
            unfold f_X8_vacate_b33
            by_cases q : ne < 160
            · rw [h q, if_neg (by decide), e_allow0, rb_thr]
            · rw [e_allowF a5 q (by omega), e_allowF a5 q (by omega), rb_thr, ite_self]
          unfold f_L_vacate
          rw [this, rc_thr]
          rfl
        · show f_X9_vacate M (nI k) = _
          rw [k9 M (Rf.rfl M)]
          by_cases q : ne < 160
          · rw [if_pos q, h q]; rfl
          · rw [if_neg q]
      by_cases c0 : ne < 160
      · cases cc : vaK M o with
        | false => exact no (fun _ => cc)
        | true =>
          have ok : M 55 o = 4 ∨ M 55 o = 5 := by
            unfold vaK at cc
            rw [Bool.or_eq_true, Bool.and_eq_true] at cc
            exact cc.elim (fun h => Or.inr (of_decide_eq_true h)) (fun h => Or.inl (of_decide_eq_true h.1))
          have o57 : M 57 o = nI k := by
            obtain ⟨-, p2, -⟩ := and3_t o3
            exact of_decide_eq_true p2
          obtain ⟨w127, w128⟩ := I.2.2.2.2.2.2.2.2.2.2.2.2.2.2.2.1 o o1 ok
          have w129 : M 129 o = M 52 k := by
            refine I.2.2.2.2.2.2.2.2.2.2.2.2.2.2.2.2 k hk o o1 o57 ok (fun d d1 d2 d3 => ?_)
            have z := o4 d d1 d2
            have z61 : M 61 d = 0 := by
              obtain ⟨-, -, -, -, -, -, y6, y7, -⟩ := I.2.2.2.2.2.2.2.2.2.2.1
              rcases (y6 d).1 with q | q
              · exact q
              · exfalso
                rcases y7 d d2 q with p | p <;> rw [d3.1] at p <;> exact absurd p (by decide)
            unfold ordB at z
            rw [d3.1, decide_eq_true d3.2, decide_eq_true z61] at z
            exact absurd z (by decide)
          have hz3 : z01 (M 104 3) := by rw [e104]; exact (gr 3 (by omega)).2
          refine agI_ok (v := nI ne) (M1 := gset (gset (gset (gset (gset (en8 M ne t 6 (nI k) (nI o) 0) 63 ne (M 13 3)) 64 ne (M 14 3)) 61 o 1) 51 k 0) 50 k (M 60 o)) (M2 := gset (gset (gset (gset (gset (gset (gset (gset (en9 (gset (gset (gset (gset (gset (gset (gset (en8 M ne t 6 (nI k) (nI o) 0) 63 ne (M 13 3)) 64 ne (M 14 3)) 61 o 1) 51 k 0) 50 k (M 60 o)) 10 0 (nI ne)) 9 0 0) ne t 6 (nI k) (nI o) 0 3) 127 ne (M 112 k)) 128 ne (M 113 k)) 129 ne (M 114 k)) 9 23 (nI (ne + 1))) 130 o 1) 112 k 0) 113 k (M 60 o)) 114 k (M 52 k)) ?_ ?_ rfl rfl ?_
          · unfold f_L_vacate
            rw [k8, cc, if_pos rfl]
            unfold f_X8_vacate_b33
            rw [e_allow a5 c0, rb_ret, e_en8r (r := 3) a5 a1 c0 _ _ _ (by decide) (by decide) (fun N => rfl) (by omega) (gr 3 (by omega)).2, rb_ret, z01_eq (Or.inr rfl)]
            simp only [bM, hg, hc, hg24, hck]
            rfl
          · have R : Rf (gset (gset (gset (gset (gset (gset (en8 M ne t 6 (nI k) (nI o) 0) 63 ne (M 13 3)) 64 ne (M 14 3)) 61 o 1) 51 k 0) 50 k (M 60 o)) 10 0 (nI ne)) M := (((((((((((((Rf.rfl M).s (by omega) (by omega) _ _).s (by omega) (by omega) _ _).s (by omega) (by omega) _ _).s (by omega) (by omega) _ _).s (by omega) (by omega) _ _).s (by omega) (by omega) _ _).s (by omega) (by omega) _ _).s (by omega) (by omega) _ _).s (by omega) (by omega) _ _).s (by omega) (by omega) _ _).s (by omega) (by omega) _ _).s (by omega) (by omega) _ _).o _
            show f_X9_vacate _ (nI k) = _
            rw [k9 _ R, if_pos c0, cc, if_pos rfl]
            unfold f_X9_vacate_b88
            rw [rf_0, rb_ret, if_pos rfl, e_en9 (K := 6) (M := gset (gset (gset (gset (gset (gset (gset (en8 M ne t 6 (nI k) (nI o) 0) 63 ne (M 13 3)) 64 ne (M 14 3)) 61 o 1) 51 k 0) 50 k (M 60 o)) 10 0 (nI ne)) 9 0 0) b5 b1 c0 (show k < 24 by omega) _ _ (by decide) hz3, rb_ret, z01_eq (Or.inr rfl)]
            simp only [bM, hg, hc, hg24, hck]
            show rRet (nI ne) (gset (gset (gset _ 112 k (upd (M 127) ne (M 112 k) o)) 113 k (upd (M 128) ne (M 113 k) o)) 114 k (upd (M 129) ne (M 114 k) o)) = _
            rw [upd_lt o1, upd_lt o1, upd_lt o1, w127, w128, w129]
            rfl
          · have z6 := I.z61
            obtain ⟨g1, g2, g3, g4, g5, g6, g7, g8, g9, g10, g11, g12, g13, g14⟩ := I
            exact ⟨t, nh, nc, nk, ne + 1, nr, nx, ns, ⟨⟨a1, a2, a3, a4, rfl, a6, a7, a8⟩, ⟨b1, b2, b3, b4, rfl, b6, b7⟩, l1, l2, l3, l4, c0, l6, l7, (Nat.le_succ_of_le l8)⟩, g2, g3, g4.add (by decide), g5,
              g6.ent (m50' := upd (M 50) k (M 60 o)) (m51' := upd (M 51) k 0) (m52' := M 52) (m53' := M 53) (show upd (M 112) k 0 = upd (M 51) k 0 by rw [e112]) (show upd (M 113) k (M 60 o) = upd (M 50) k (M 60 o) by rw [e113]) (show upd (M 114) k (M 52 k) = M 52 by rw [e114, upd_id]) (fun j hj => isIx_upd ⟨0, by omega, rfl⟩ (g6.2.2.1 j hj).1) (fun j hj => ⟨by rw [upd_nx (by omega)]; exact (g6.2.2.2.1 j hj).1, (g6.2.2.2.1 j hj).2.1⟩) (fun j _ => by rw [if_neg (by decide)]), g7, g8, g9, g10,
              g11.ent (m61' := upd (M 61) o 1) (by omega) ⟨6, by omega, rfl, fun h => absurd h (by omega), fun _ => ⟨k, hk, rfl⟩⟩ (fun h => absurd h (by decide)) (fun h => absurd h (by decide)) (fun h => absurd h (by decide)) (fun _ => rfl) (fun _ => ⟨o, o1, rfl, ok, o57, rfl⟩) (fun h => absurd rfl h) (fun _ => g11.sv o1 (ok.elim (fun h => Or.inr (Or.inr (Or.inl h))) (fun h => Or.inr (Or.inr (Or.inr (Or.inl h))))) o57) (show upd (M 130) o 1 = upd (M 61) o 1 by rw [g11.1.2.2.2.2.2]),
              g12.ent _, g13.ent (m63' := upd (M 63) ne (M 13 3)) (m64' := upd (M 64) ne (M 14 3)) (R := M 103 3) (W := M 104 3) (by omega) (fun e he => upd_lt he) (fun e he => upd_lt he) (fun e => z01_upd (gr 3 (by omega)).2 (g13.2.1 e).1) hz3 (fun _ => ⟨⟨x, x1, by omega, by rw [upd_eq]; exact x3⟩, by rw [upd_eq, e104]⟩) (fun h => absurd h (by decide)) (fun _ => by rw [upd_eq, e103, if_neg (by decide), Int32.add_zero]) (fun h => absurd h (by decide)) z6,
              g14.ent (m50' := upd (M 50) k (M 60 o)) (m51' := upd (M 51) k 0) (m52' := M 52) (m53' := M 53) (m60' := M 60) (m61' := upd (M 61) o 1) (m127' := upd (M 127) ne (M 112 k)) (m128' := upd (M 128) ne (M 113 k)) (m129' := upd (M 129) ne (M 114 k)) (c := k) (by omega) l4 hk rfl (fun j hj => ⟨upd_nx hj, upd_nx hj, rfl, rfl⟩) ⟨upd_eq.symm, (g14.1 k (by omega)).2⟩ (fun e he q => upd_nx (fun z => q (by rw [z]; exact o57))) (fun q => by rw [upd_eq] at q; exact absurd q (by decide)) (fun e he => ⟨rfl, upd_lt he, upd_lt he, upd_lt he⟩) (fun w => absurd w (by decide)) (fun _ => rfl)⟩
      · exact no (fun h => absurd h c0)
  · refine agI_no (k := 1) ?_ (by decide) (b := 0) ?_ (inv_no I)
    · unfold f_L_vacate f_X8_vacate
      rw [n8_Claim a4 hb, rb_thr, rc_thr]
      rfl
    · unfold f_X9_vacate
      rw [n9_Claim b4 (by omega) hb, rb_ret, if_pos rfl]
      unfold f_X9_vacate_b19 f_X9_vacate_b66 f_X9_vacate_b67 f_X9_vacate_b88
      rw [if_pos rfl, if_pos rfl, rf_1, rb_ret, if_neg i10]
