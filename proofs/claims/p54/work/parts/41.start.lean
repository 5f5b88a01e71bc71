theorem st_cl {s : State} {args : Array Value} (hts : ∀ w ∈ lw_tbl, w.before args s = true) : ∃ D : va_G, ∀ (c : Nat) (q : vw_C), vwCl[c]? = some q → u_Kn s q.1 q.2.1 q.2.2 (D.1 c) (D.2 c) := by
  have hg : ∀ w ∈ gWS, w.before args s = true := fun w hw => hts w (List.mem_filter.mp hw).1
  obtain ⟨c0, i0, h0⟩ := u_known (n := 8) hg inX0 (hg _ (gIx 62 (by decide +kernel) rfl))
  obtain ⟨c1, i1, h1⟩ := u_known (n := 7) hg inX1 (hg _ (gIx 113 (by decide +kernel) rfl))
  obtain ⟨c2, i2, h2⟩ := u_known (n := 9) hg inX2 (hg _ (gIx 147 (by decide +kernel) rfl))
  obtain ⟨c3, i3, h3⟩ := u_known (n := 15) hg inX3 (hg _ (gIx 190 (by decide +kernel) rfl))
  obtain ⟨c4, i4, h4⟩ := u_known (n := 4) hg inX4 (hg _ (gIx 301 (by decide +kernel) rfl))
  obtain ⟨c5, i5, h5⟩ := u_known (n := 4) hg inX5 (hg _ (gIx 257 (by decide +kernel) rfl))
  obtain ⟨c6, i6, h6⟩ := u_known (n := 4) hg inX6 (hg _ (gIx 280 (by decide +kernel) rfl))
  obtain ⟨c7, i7, h7⟩ := u_known (n := 4) hg inX7 (hg _ (gIx 325 (by decide +kernel) rfl))
  obtain ⟨c8, i8, h8⟩ := u_known (n := 8) hg inX8 (hg _ (gIx 54 (by decide +kernel) rfl))
  refine ⟨(fun c => [c0, c1, c2, c3, c4, c5, c6, c7, c8].getD c 0, fun c => [i0, i1, i2, i3, i4, i5, i6, i7, i8].getD c (fun _ => 0)), fun c q h => ?_⟩
  have hc : c < 9 := (List.getElem?_eq_some_iff.mp h).1
  match c, hc, h with
  | 0, _, h => cases h; exact h0
  | 1, _, h => cases h; exact h1
  | 2, _, h => cases h; exact h2
  | 3, _, h => cases h; exact h3
  | 4, _, h => cases h; exact h4
  | 5, _, h => cases h; exact h5
  | 6, _, h => cases h; exact h6
  | 7, _, h => cases h; exact h7
  | 8, _, h => cases h; exact h8
  | n + 9, hc, _ => omega
theorem st_str2 : ∀ q ∈ gStr, Cond.exactly (.string RX8 q.1) "java/lang/String" ∈ Jvm.Free.XT.flat (Jvm.Cond.and given_1 narrow_1) := by decide +kernel
theorem st_arr {s : State} {args : Array Value} {ty : FieldType} (h : (Cond.arrayClass ty).before args s = true) : ∃ cA : ClassId, ArrOfT s cA ty ∧ s.vm.findClass ("[" ++ ty.toString) = some cA := by
  obtain ⟨cA, kA, comp, h1, h2, h3⟩ := Cond.arrayClass_spec h
  exact ⟨cA, fun N z => ⟨(fun k h => by cases h), kA, h2, comp, h3⟩, h1⟩
theorem st_over {s : State} {args : Array Value} {ty : FieldType} (h : (Cond.arrayOver ty).before args s = true) : ∃ cA : ClassId, ArrOfT s cA ty ∧ s.vm.findClass ("[" ++ ty.toString) = some cA := by
  simp only [Cond.before, Cond.holds, Cond.value, beq_iff_eq, Option.bind_eq_some_iff, Option.map_eq_some_iff] at h
  obtain ⟨comp, h1, c, h2, k, h3, h4⟩ := h
  cases hk : k.kind with
  | array a t =>
    rw [hk] at h4
    simp only [Bool.and_eq_true, decide_eq_true_eq] at h4
    obtain ⟨rfl, h5⟩ := h4
    exact ⟨c, fun N z => ⟨(fun k h => by cases h), k, h3, a, hk⟩, h5⟩
  | _ =>
    rw [hk] at h4
    cases h4
theorem st_tab : (∀ w ∈ gNg, w ∈ lw_tbl) ∧ (∀ w ∈ gNest, w ∈ lw_tbl) ∧ (∀ w ∈ gNest, w.onTables = true) := ⟨by decide +kernel, by decide +kernel, by decide +kernel⟩
theorem st_str1 : ∀ q ∈ gStr, Cond.stringRef RX8 q.1 q.2 ∈ lw_tbl := by decide +kernel
theorem st_len {s : State} {args : Array Value} {t : Term} {v : Value} (h : (Term.length t).eval args s none [] s = some v) : ∃ a cell, t.eval args s none [] s = some (.ref a) ∧ s.arrayAt? a = some cell ∧ v = .int cell.slots.size.toInt32 ∧ cell.slots.size < 2147483648 := by
  simp only [Term.eval, Option.bind_eq_bind] at h
  cases ht : t.eval args s none [] s with
  | none => simp [ht] at h
  | some x =>
    cases x <;> simp [ht] at h
    case ref a =>
      obtain ⟨cell, hcell, h⟩ := Option.bind_eq_some_iff.mp h
      by_cases hn : cell.slots.size < 2147483648
      · rw [if_pos hn] at h; cases h; exact ⟨a, cell, rfl, hcell, rfl, hn⟩
      · rw [if_neg hn] at h; cases h
/-- the world at the law's entry, but for the cells -/
theorem st_world {s : State} {args : Array Value} (hts : ∀ w ∈ lw_tbl, w.before args s = true) (hgv : (Jvm.Cond.and given_1 narrow_1).before args s = true) : ∃ Z : gZ, Z.1 = s.heap.size ∧ va_K (zD Z) vwCl (gTys Z) s ∧ gG Z s ∧ gH Z s ∧ gNc s := by
  have hs := flat_of_before _ hgv
  obtain ⟨D, hD⟩ := st_cl hts
  obtain ⟨cI, hI, fI⟩ := st_arr (hts (.arrayClass .int) (by decide +kernel))
  obtain ⟨cZ, hZ, fZ⟩ := st_arr (hts (.arrayClass .boolean) (by decide +kernel))
  have hov : (Cond.arrayOver (.array .int)).before args s = true := hts (.arrayOver (.array .int)) (by decide +kernel)
  obtain ⟨cG, hG, fG⟩ := st_over hov
  have hA : ∀ a : Nat, a < s.heap.size → ¬ (s.heap.size ≤ a) := fun a h1 h2 => by omega
  have hF : (Cond.arrayOf (.static RX8 "FIRST_RULE_DAYS" "[I") .int).before args s = true := hs _ (by decide +kernel)
  have hFl : (Cond.eq (.length (.static RX8 "FIRST_RULE_DAYS" "[I")) (.int (Int32.ofNat 5))).before args s = true := hs _ (by decide +kernel)
  have hFe : ∀ j : Nat, j < 5 → (Cond.eq (.elem (.static RX8 "FIRST_RULE_DAYS" "[I") (.int (Int32.ofNat j))) (.int ([21, 14, 30, 14, 5].getD j 0))).before args s = true
    | 0, _ => hs _ (by decide +kernel)
    | 1, _ => hs _ (by decide +kernel)
    | 2, _ => hs _ (by decide +kernel)
    | 3, _ => hs _ (by decide +kernel)
    | 4, _ => hs _ (by decide +kernel)
    | n + 5, h => absurd h (by omega)
  have hW : (Cond.arrayOf (.static RX8 "WAY_DAYS" "[I") .int).before args s = true := hs _ (by decide +kernel)
  have hWl : (Cond.eq (.length (.static RX8 "WAY_DAYS" "[I")) (.int (Int32.ofNat 3))).before args s = true := hs _ (by decide +kernel)
  have hWe : ∀ j : Nat, j < 3 → (Cond.eq (.elem (.static RX8 "WAY_DAYS" "[I") (.int (Int32.ofNat j))) (.int ([0, 3, 7].getD j 0))).before args s = true
    | 0, _ => hs _ (by decide +kernel)
    | 1, _ => hs _ (by decide +kernel)
    | 2, _ => hs _ (by decide +kernel)
    | n + 3, h => absurd h (by omega)
  have hini : (Cond.initialized RX8).before args s = true := hts _ (by decide +kernel)
  obtain ⟨tF, evF, TF⟩ := va_Tof (N := 5) (f := fun j => .int ([21, 14, 30, 14, 5].getD j 0)) (A := fun q => s.heap.size ≤ q) (by decide) hF (va_eqt hFl) (fun j hj => va_eqt (hFe j hj)) hA
  obtain ⟨tW, evW, TW⟩ := va_Tof (N := 3) (f := fun j => .int ([0, 3, 7].getD j 0)) (A := fun q => s.heap.size ≤ q) (by decide) hW (va_eqt hWl) (fun j hj => va_eqt (hWe j hj)) hA
  have zF := va_Zof (A := fun q => s.heap.size ≤ q) (hts (.laysStatic RX8 "FIRST_RULE_DAYS" "[I") (by decide +kernel)) hini evF hA
  have zW := va_Zof (A := fun q => s.heap.size ≤ q) (hts (.laysStatic RX8 "WAY_DAYS" "[I") (by decide +kernel)) hini evW hA
  refine ⟨(s.heap.size, D, (cI, cZ, cG, 0), fun _ => 0), rfl, ⟨hD, fun k q h => ?_⟩, ⟨Nat.le_refl _, ?_, ?_, fun q hq => ?_, fun w hw => ?_, ⟨tF, zF, TF⟩, ⟨tW, zW, TW⟩⟩, ⟨hov, fun w hw => va_Nw.of (st_tab.2.2 w hw) (hts w (st_tab.2.1 w hw)), ?_⟩, ?_⟩
  · match k, h with
    | 0, h => cases h; exact ⟨hI, fI⟩
    | 1, h => cases h; exact ⟨hZ, fZ⟩
    | 2, h => cases h; exact ⟨hG, fG⟩
    | n + 3, h => cases h
  · exact vx_Zqof (hts _ (by decide +kernel)) (hts _ (by decide +kernel)) (hs _ (by decide +kernel)) hA
  · exact vx_Zqof (hts _ (by decide +kernel)) (hts _ (by decide +kernel)) (hs _ (by decide +kernel)) hA
  · have he : (Cond.exactly (.string RX8 q.1) "java/lang/String").before args s = true := hs _ (st_str2 q hq)
    obtain ⟨a, c, cA, kA, q1, -⟩ := Cond.exactly_spec (args := args) (first := s) (o := none) (s := s) (idx := []) (t := .string RX8 q.1) (cls := "java/lang/String") he
    exact ⟨a, vk_R.of (hts _ (st_str1 q hq)) q1⟩
  · exact va_Nw.of (gNg_tab w hw) (hts w (st_tab.1 w hw))
  · have he : (Cond.exactly (.static RX8 "FIRST_RULE_DAYS" "[I") "[I").before args s = true := hs _ (by decide +kernel)
    obtain ⟨a, c, cA, kA, q1, q2, q3, q4, q5, q6, -⟩ := Cond.exactly_spec (args := args) (first := s) (o := none) (s := s) (idx := []) (t := .static RX8 "FIRST_RULE_DAYS" "[I") (cls := "[I") he
    obtain ⟨a2, cell2, e1, e2, e3, e4⟩ := st_len (va_eqt hFl)
    cases q1.symm.trans e1
    cases q1.symm.trans evF
    obtain ⟨c1, c2, c3, -⟩ := State.arrayAt?_spec e2
    cases q3.symm.trans c1
    obtain ⟨cellT, t1, t2, t3, t4, t5, t6, t7⟩ := TF
    cases q3.symm.trans t1
    have hsz : cA.slots.size = 5 := by
      have h5 : Int32.ofNat cA.slots.size = Int32.ofNat 5 := t5
      have h6 : (Int32.ofNat cA.slots.size).toNatClampNeg = cA.slots.size := Int32.toNatClampNeg_ofNat_of_lt e4
      rw [h5] at h6
      exact h6.symm
    refine ⟨tF, cA, zF, q3, t7, ?_, c2, fun k h => ?_, by rw [q6]; exact q2⟩
    · apply Array.ext_getElem?
      intro i
      by_cases hi : i < 5
      · rw [t6 i hi, arrV_read _ _ hi]
        rfl
      · rw [Array.getElem?_eq_none (by omega), Array.getElem?_eq_none (by rw [arrV_size]; omega)]
    · rw [h] at c3
      cases c3
  · intro i j hi hj hij
    match i, j, hi, hj, hij with
    | 0, 1, _, _, _ => exact va_Nc.of (hs _ (by decide +kernel))
    | 0, 2, _, _, _ => exact va_Nc.of (hs _ (by decide +kernel))
    | 1, 0, _, _, _ => exact va_Nc.of (hs _ (by decide +kernel))
    | 1, 2, _, _, _ => exact va_Nc.of (hs _ (by decide +kernel))
    | 2, 0, _, _, _ => exact va_Nc.of (hs _ (by decide +kernel))
    | 2, 1, _, _, _ => exact va_Nc.of (hs _ (by decide +kernel))
    | 0, 0, _, _, h => exact absurd rfl h
    | 1, 1, _, _, h => exact absurd rfl h
    | 2, 2, _, _, h => exact absurd rfl h
    | n + 3, _, h, _, _ => omega
    | 0, n + 3, _, h, _ => omega
    | 1, n + 3, _, h, _ => omega
    | 2, n + 3, _, h, _ => omega
