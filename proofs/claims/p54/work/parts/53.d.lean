theorem hD_drw (L : Nat) (xs : Nat → Int32) : ∀ x, ∃ j : Nat, j < 2 ^ 31 ∧ drw L xs x = nI j := fun _ => pk_andE _ 31 (by decide)
theorem law_ok (L : Nat) (xs : Nat → Int32) : ∃ M1, f_L_law (drw L xs) M0 0 = rRet 1 M1 := by
  have hI0 := inv0
  obtain ⟨t, nh, nc, nk, ne, nr, nx, ns, I⟩ := inv0
  obtain ⟨⟨a1, a2, a3, a4, a5, a6, a7, a8⟩, -, l1, l2, l3, l4, l5, l6, l7, l8⟩ := I.1
  have ht : t = 0 := (nI_eq (by omega) (by omega)).mp (a1.symm.trans (nI_0.symm : M0 1 0 = nI 0))
  have hc : nc = 0 := (nI_eq (by omega) (by omega)).mp (a3.symm.trans (nI_0.symm : M0 2 0 = nI 0))
  have hk : nk = 0 := (nI_eq (by omega) (by omega)).mp (a4.symm.trans (nI_0.symm : M0 3 0 = nI 0))
  have he : ne = 0 := (nI_eq (by omega) (by omega)).mp (a5.symm.trans (nI_0.symm : M0 4 0 = nI 0))
  have hs : ns = 0 := (nI_eq (by omega) (by omega)).mp (a8.symm.trans (nI_0.symm : M0 8 0 = nI 0))
  subst ht hc hk he hs
  have o1 := o_open I (i := 0) (by omega) (by omega)
  obtain ⟨M1, m1, mA, m3⟩ := w_open (by omega) hI0 o1
  have m3' := m3
  obtain ⟨t1, nh1, nc1, nk1, ne1, nr1, nx1, ns1, I1⟩ := m3
  have hc1 : nc1 = 1 := (nI_eq (by have := I1.1.2.2.2.2.1; omega) (by omega)).mp (I1.1.1.2.2.1.symm.trans (by rw [mA 2 (by decide)]; rfl))
  subst hc1
  have o2 := o_open I1 (i := 1) (by omega) (by omega)
  obtain ⟨M2, m1', mB, m4⟩ := w_open (by omega) m3' o2
  have b : ∀ a, gOk a → a ≠ 2 → a ≠ 25 → a ≠ 26 → M2 a = M0 a := fun a ha h1 h2 h3 => by
    rw [mB a ha, gset_ne h1, gset_ne h3, gset_ne h2, mA a ha, gset_ne h1, gset_ne h3, gset_ne h2]
  have h : IE 2 0 0 0 0 M2 := by
    refine IE.of m4 (by rw [b 1 (by decide) (by decide) (by decide) (by decide)]; exact a1) (by rw [mB 2 (by decide)]; rfl) (by rw [b 3 (by decide) (by decide) (by decide) (by decide)]; exact a4) (by rw [b 4 (by decide) (by decide) (by decide) (by decide)]; exact a5) (by rw [b 8 (by decide) (by decide) (by decide) (by decide)]; exact a8) (by omega) (by omega) (by omega) (by omega) (by omega) ?_
    refine ⟨fun k hk => nlt0 hk, fun e he => nlt0 he, fun i j _ hj => nlt0 hj, fun i hi => nlt0 hi, fun c hc => ⟨0, by omega, ?_, fun h => by omega⟩⟩
    rw [b 146 (by decide) (by decide) (by decide) (by decide), nI_0]
    rfl
  have hJ : Jn 0 M2 := by
    refine ⟨?_, ?_, ?_, ?_, fun j hj => nlt0 hj⟩
    · rw [b 27 (by decide) (by decide) (by decide) (by decide), nI_0]; rfl
    · rw [b 27 (by decide) (by decide) (by decide) (by decide), nI_0]; rfl
    · rw [b 28 (by decide) (by decide) (by decide) (by decide)]; exact nI_0.symm
    · rw [b 28 (by decide) (by decide) (by decide) (by decide)]; exact nI_0.symm
  unfold f_L_law f_L_law_b48
  rw [show f_L_refuses M0 0 = rRet 1 M0 from refuses_ok I, rbN_ret, if_neg i10, show f_W_open M0 0 = qRet (nI 0).toInt64 M1 from m1, qb_ret, if_pos (by decide), show f_W_open M1 1 = qRet (nI 1).toInt64 M2 from m1', qb_ret, if_pos (by decide)]
  exact loop53 (hD_drw L xs) 6 0 7 (by omega) (by omega) 2 M2 h (by omega) hJ
theorem law_good (L : Nat) (xs : Nat → Int32) : (f_L_law (drw L xs) M0 0).1 ≠ 0 := by
  obtain ⟨M1, h⟩ := law_ok L xs
  rw [h]
  exact Nat.one_ne_zero
