set_option maxHeartbeats 4000000 in
theorem k_draw (l : Launch) (b L : Nat) (xs : Nat → Int32) (x : Int32) (hL : L ≤ 260) (hx0 : 0 ≤ x) : Met l yL_draw (.code yL_draw cL_draw 2 (some .int) :: gWS) { frames := 0, cells := 0, slots := 0, locals := 0 } (va_Pc [.ref b, .int x] (fun U => va_X b L xs U U.heap ∧ b < U.heap.size)) (va_Qi (fun (r : Int32) (_ : Unit) => r = drw L xs x) (fun _ _ => True) (fun _ => False)) 0 0 (fun _ => False) := by
  refine Met.ofW (cc := cL_draw) (maxL := 2) (ret := some .int) (by decide) rfl ?_
  intro p e s m args below meth c s₁ B hml hPc
  obtain ⟨rfl, hX, hbl⟩ := hPc
  have hx := B.exec
  have hb := B.bytes
  have hr := B.returns
  have hlocks := B.notSynchronized
  have hown : s.vm.findClass RL = some m.cls := findClass_of_methodNamed B.named
  have hts := atoms_spec (ws := .code yL_draw cL_draw 2 (some .int) :: gWS) B.pre
  have hl := lv_entry ([.ref b, .int x]) (n := 2) (Nat.le_of_ble_eq_true rfl)
  rw [lg_entry_eq]
  generalize (lg_sl ([.ref b, .int x]) ++ List.replicate (2 - (lg_sl ([.ref b, .int x])).length) Slot.unset).toArray = ls at hl ⊢
  have hl : lv_has ls 2 [(0, .ref b), (1, .int x)] := hl
  have hS : va_S (fun _ => False) s.heap s.heap [] := va_S.rf
  have hend : ∀ v : Int32, v &&& 2147483647 = drw L xs x → W p l e (headSpec (.code yL_draw cL_draw 2 (some .int) :: gWS) { frames := 0, cells := 0, slots := 0, locals := 0 }).room s m ([.ref b, .int x] : List Value).toArray below meth c s.heap [] 0 0 (MQ below (va_Qi (fun (r : Int32) (_ : Unit) => r = drw L xs x) (fun _ _ => True) (fun _ => False)) ([.ref b, .int x] : List Value).toArray s 0 0 (fun _ => False)) (F0 m 20 ls [.int v]) := by
    intro v hv
    refine lv_ldc hx hb hown (hts _ (List.mem_cons_of_mem _ (gIn (w := .constant RL 8 2147483647) (by decide +kernel) rfl))) dL_draw_20 ?_
    refine lv_iand hx hb dL_draw_22 ?_
    refine W.iret hx hb hr (fun t ht hW => ?_) (fun q hq => by cases hq) dL_draw_23
    exact ⟨⟨_, (), rfl, hv, trivial⟩, by rw [ht]; exact Nat.le_refl _, fun q h1 h2 => by rw [ht]⟩
  refine lv_iload_n hx hb dL_draw_0 rfl (lv_at hl 1 rfl) ?_
  refine lv_aload_n hx hb dL_draw_1 rfl (lv_at hl 0 rfl) ?_
  refine va_slen hx hb hX hbl (fun h => h) hS dL_draw_2 ?_
  refine lv_icmp_ge (tgt := 12) hx hb dL_draw_3 (by decide) (fun h => ?_) (fun h => ?_)
  · refine lv_ldc hx hb hown (hts _ (List.mem_cons_of_mem _ (gIn (w := .constant RL 7 15595669) (by decide +kernel) rfl))) dL_draw_12 ?_
    refine lv_iload_n hx hb dL_draw_14 rfl (lv_at hl 1 rfl) ?_
    refine lv_imul hx hb dL_draw_15 ?_
    refine lv_sipush (v := 11621) hx hb dL_draw_16 (by decide) ?_
    refine lv_iadd hx hb dL_draw_19 ?_
    exact hend _ (by unfold drw; rw [if_neg (Int32.not_lt.mpr h)])
  · have hlt : x < Int32.ofNat L := Int32.not_le.mp h
    have hin : vp_in x L := by
      intro q
      rcases q with q | q
      · exact absurd hx0 (Int32.not_le.mpr q)
      · have h1 : x.toInt < (Int32.ofNat L).toInt := Int32.lt_iff_toInt_lt.mp hlt
        have h2 : (Int32.ofNat L).toInt = L := Int32.toInt_ofNat_of_lt (by omega)
        have h4 : 0 ≤ x.toInt := Int32.le_iff_toInt_le.mp hx0
        have h5 : (x.toNatClampNeg : Int) = x.toInt := by
          show ((x.toInt.toNat : Nat) : Int) = x.toInt
          exact Int.toNat_of_nonneg h4
        have h6 : L ≤ x.toNatClampNeg := q
        omega
    refine lv_aload_n hx hb dL_draw_6 rfl (lv_at hl 0 rfl) ?_
    refine lv_iload_n hx hb dL_draw_7 rfl (lv_at hl 1 rfl) ?_
    refine va_sld hx hb hX hbl (fun h => h) hS hin dL_draw_8 ?_
    refine lv_goto (tgt := 20) hx hb dL_draw_9 (by decide) ?_
    exact hend _ (by unfold drw; rw [if_pos hlt])
set_option maxHeartbeats 1000000 in
theorem h_draw {p : Program} {l : Launch} {e : Env} {R : Room} {s : State} {m : MethodId} {args : Array Value} {below : List Frame} {meth : Method} {c : Code} {nL : Nat} {Z : gZ} {Qf : gR → State → Prop} {k : Nat} {M : gM} {pc : Nat} {lv : List (Nat × Value)} {st : List Value} {F : gR} {cc : ByteArray} {own : String} (hC : gD p s m args c cc nL own Z) {b L : Nat} {xs : Nat → Int32} {D : Int32 → Int32} (hL : L ≤ 260) (hX : va_X b L xs s s.heap) (hbl : b < s.heap.size) (hbA : ¬ zA Z b) (hdr : ∀ x, D x = drw L xs x) {idx : Nat} {x : Int32} (h1 : Cond.methodLink own idx yL_draw ∈ gWS) (hR : 1 ≤ R.frames ∧ 21 ≤ R.locals) (hcat : (st.map fun v => v.category).sum ≤ 8) (hk : k ≤ R.cells) (hn : 6 * k ≤ R.slots) (d : decode cc pc = .ok (.invokestatic idx, 3)) (kk : gY p l e R s m args below meth c nL Z Qf k M (pc + 3) lv (.int (D x) :: st) F) : gY p l e R s m args below meth c nL Z Qf k M pc lv (.int x :: .ref b :: st) (gPs x F) := by
  intro hF H locs ls hP hD hS hl0
  have hx0 : 0 ≤ x := by
    by_cases h : 0 ≤ x
    · exact h
    · exact absurd (by unfold gPs; rw [if_neg h]; rfl) hF
  have e0 : gPs x F = F := by unfold gPs; rw [if_pos hx0]
  rw [e0] at hF ⊢
  refine va_calli (A0 := zA Z) (A1 := fun _ => False) (va_runS (As := [.ref b, .int x]) (rest := st) ⟨hC.1, hC.2.1, hC.2.2.1, hC.2.2.2.1, hC.2.2.2.2.1⟩ (k_draw l b L xs x hL hx0) (va_cwS 2 hC.2.2.2.2.1 (gGoodS h1 mw_L_draw.1 mw_L_draw.2.1 mw_L_draw.2.2) rfl rfl rfl ⟨by decide, by decide, by decide +kernel⟩ ⟨hR.1, hR.2⟩) ⟨fun a U g mk h => ⟨h.1, va_X.moved (u := U) (U := U.calling g mk a) (Vm.Alike.refl U.vm) h.2.1, h.2.2⟩, fun U hU hW => ⟨rfl, (va_X.moved hW.alike hX).kept (by rw [hU]; exact hS.2.1 b hbl hbA), by rw [hU]; exact Nat.lt_of_lt_of_le hbl hS.1⟩⟩ rfl rfl hl0.1 rfl (lv_room hcat) d ⟨hk, hn⟩) hS (fun q _ h => h.elim) (fun q h => h.elim) (fun r u t H1 locs1 ht hv hp hB hz hk1 hS1 => ?_)
  have e1 : r = D x := hp.trans (hdr x).symm
  subst e1
  exact kk hF H1 locs1 ls (hP.kept (fun k9 q9 h9 => hk1 q9.1 (hP k9 q9 h9).lt (fun z => z))) hD hS1 hl0
