abbrev rm_X0_init : Room := { frames := 1, cells := 14, slots := 2737, locals := 22 }
set_option maxRecDepth 20000 in
set_option maxHeartbeats 4000000 in
theorem kl_X0_71 {p : Program} {l : Launch} {e : Env} {s : State} {m : MethodId} {args : Array Value} {below : List Frame} {meth : Method} {c : Code} {Z : gZ} {Q : State → Prop} {k n : Nat} {ws : va_W} (hC : gD p s m args c cX0_init 2 RX0 Z) {p0 h0 q : Nat} {fs : List Value} {tail : va_W} (hp : p0 < ws.length) (hfs : fs[1]? = some (.ref q)) (ht : 0 < tail.length) (hk : k ≤ 14) (hn : n ≤ 2737) (kk : gU p l e rm_X0_init s m args below meth c 2 Z Q k n (ws.set p0 (h0, .inr (0, fs)) ++ tail.set 0 (q, .inl (Z.2.2.1.1, 1401, .inl (umk 1401)))) 104 [(0, .ref h0)] []) : ∀ d i : Nat, i + d = 1401 → gU p l e rm_X0_init s m args below meth c 2 Z Q k n (ws.set p0 (h0, .inr (0, fs)) ++ tail.set 0 (q, .inl (Z.2.2.1.1, 1401, .inl (umk i)))) 71 [(1, .int (nI i)), (0, .ref h0)] [] := by
  intro d
  induction d with
  | zero =>
    intro i hi
    have e0 : i = 1401 := by omega
    subst e0
    refine u_iload_n hC 0 dX0_init_71 rfl rfl ?_
    refine u_sipush hC (v := 1400) dX0_init_72 (by decide) ?_
    refine u_icmp_gt (tgt := 104) hC dX0_init_75 (by decide) (fun _ => ?_) (fun h => absurd (by decide) h)
    refine u_sub (lv1 := [(0, .ref h0)]) [1] rfl ?_
    exact kk
  | succ d ih =>
    intro i hi
    have hin : vp_in (nI i) 1401 := vp_in_nI (by omega) (by decide)
    refine u_iload_n hC 0 dX0_init_71 rfl rfl ?_
    refine u_sipush hC (v := 1400) dX0_init_72 (by decide) ?_
    refine u_icmp_gt (tgt := 104) hC dX0_init_75 (by decide) (fun h => absurd ((nI_ltI (a := 1400) (b := i) (by decide) (by omega)).mp h) (by omega)) (fun _ => ?_)
    refine u_aload_n hC 1 dX0_init_78 rfl rfl ?_
    refine u_get hC p0 0 1 (rf := "Courtdocket$Calendar") (u_at hp) hfs rfl (by decide) inX0 (gIx 83 (by decide +kernel) rfl) rfl dX0_init_79 ?_
    refine u_iload_n hC 0 dX0_init_82 rfl rfl ?_
    refine u_iload_n hC 0 dX0_init_83 rfl rfl ?_
    refine u_wk hC (gIx 78 (by decide +kernel) rfl) ⟨by decide, by decide⟩ (Nat.le_of_ble_eq_true rfl) hk hn dX0_init_84 ?_
    have hst : gU p l e rm_X0_init s m args below meth c 2 Z Q k n (ws.set p0 (h0, .inr (0, fs)) ++ tail.set 0 (q, .inl (Z.2.2.1.1, 1401, .inl (umk i)))) 97 [(1, .int (nI i)), (0, .ref h0)] [.int (wkv (nI i)), .int (nI i), .ref q] := by
      refine u_iast hC (ws.length + 0) (q := q) (N := 1401) (f := (umk i)) (ws1 := ws.set p0 (h0, .inr (0, fs)) ++ tail.set 0 (q, .inl (Z.2.2.1.1, 1401, .inl (umk (i + 1))))) (by rw [u_tail, List.getElem?_set_self ht]) hin (by rw [u_tset, List.set_set, umk_s (by omega)]) dX0_init_97 ?_
      refine u_iinc hC 0 (v := nI (i + 1)) (lv1 := [(1, .int (nI (i + 1))), (0, .ref h0)]) dX0_init_98 rfl (by rw [show Int32.ofInt 1 = 1 from by decide, nI_1]) (by decide) rfl ?_
      refine u_goto (tgt := 71) hC dX0_init_101 (by decide) ?_
      exact ih (i + 1) (by omega)
    refine u_if_eq (tgt := 96) hC dX0_init_87 (by decide) (fun h => ?_) (fun h => ?_)
    · refine u_iconst hC (v := 0) dX0_init_96 (by decide) ?_
      have e0 : wkv (nI i) = 0 := by
        unfold wkv
        by_cases c0 : 5 ≤ nI i - nI i / 7 * 7
        · rw [if_pos c0] at h
          exact absurd h (by decide)
        · rw [if_neg c0]
      rw [e0] at hst
      exact hst
    · refine u_sipush hC (v := 256) dX0_init_90 (by decide) ?_
      refine u_goto (tgt := 97) hC dX0_init_93 (by decide) ?_
      have e0 : wkv (nI i) = 256 := by
        unfold wkv
        by_cases c0 : 5 ≤ nI i - nI i / 7 * 7
        · rw [if_pos c0]
        · rw [if_neg c0] at h
          exact absurd rfl h
      rw [e0] at hst
      exact hst
/-- what X0_init makes of a fresh object -/
def out_X0 (Z : gZ) (ws : va_W) (p0 h0 : Nat) (a : Nat → Nat → Nat) : va_W := ws.set p0 (h0, .inr (0, [.int 0, .ref (a 0 0), .ref (a 0 1), .int 0, .ref (a 0 2), .ref (a 0 3), .ref (a 0 4), .ref (a 0 5)])) ++ ((a 0 0, .inl (Z.2.2.1.1, 1401, .inl (umk 1401))) :: (a 0 1, .inl (Z.2.2.1.1, 30, .inl (fun _ => 0))) :: (a 0 2, .inl (Z.2.2.1.1, 5, .inl frd)) :: (a 0 3, .inl (Z.2.2.1.2.1, 5, .inl (upd (fun _ => 0) (4 : Int32).toNatClampNeg 1))) :: (a 0 4, .inl (Z.2.2.1.2.2.1, 8, .inr (.inr (.inr (.inr (fun i => if i < 8 then some (a 1 i) else none)))))) :: ((List.range 8).map (fun i => (a 1 i, (.inl (Z.2.2.1.1, 160, .inl (fun _ => 0)) : va_E)))) ++ ((a 0 5, .inl (Z.2.2.1.1, 8, .inl (fun _ => 0))) :: []))
set_option maxRecDepth 20000 in
set_option maxHeartbeats 8000000 in
theorem k_X0 (l : Launch) (Z : gZ) (ws : va_W) (p0 h0 : Nat) (hws : ws[p0]? = some (h0, .inr (0, [.int 0, .null, .null, .int 0, .null, .null, .null, .null]))) : gMetU l yX0_init cX0_init 2 rm_X0_init 14 2737 Z ws h0 (out_X0 Z ws p0 h0) := by
  have hp : p0 < ws.length := (List.getElem?_eq_some_iff.mp hws).1
  refine u_enter (by decide) (by decide) (fun p e s m args below meth c hC hlk hrt hnm hH => ?_)
  refine u_wsE (ws1 := ws.set p0 (h0, .inr (0, [.int 0, .null, .null, .int 0, .null, .null, .null, .null])) ++ ([])) (u_self hws).symm ?_
  refine u_aload_n hC 0 dX0_init_0 rfl rfl ?_
  refine u_objInit hC (gIx 66 (by decide +kernel) rfl) oi_2 oi_3 (by decide) (by decide) (Nat.le_of_ble_eq_true rfl) dX0_init_1 ?_
  refine u_aload_n hC 0 dX0_init_4 rfl rfl ?_
  refine u_sipush hC (v := 1401) dX0_init_5 (by decide) ?_
  refine u_newI hC (N := 1401) aw_I (by decide) rfl (Nat.le_of_ble_eq_true rfl) (Nat.le_of_ble_eq_true rfl) (Nat.le_of_ble_eq_true rfl) dX0_init_8 (fun q0 => ?_)
  refine u_wsE (ws1 := ws.set p0 (h0, .inr (0, [.int 0, .null, .null, .int 0, .null, .null, .null, .null])) ++ ((q0, .inl (Z.2.2.1.1, 1401, .inl (fun _ => 0))) :: [])) (by simp only [List.append_assoc, List.cons_append, List.nil_append, List.append_nil]) ?_
  refine u_putF hC p0 0 1 (rf := "Courtdocket$Calendar") (ws1 := ws.set p0 (h0, .inr (0, [.int 0, .ref q0, .null, .int 0, .null, .null, .null, .null])) ++ ((q0, .inl (Z.2.2.1.1, 1401, .inl (fun _ => 0))) :: [])) tyX0 (u_at hp) (u_set hp) rfl (by decide) inX0 (gIx 83 (by decide +kernel) rfl) rfl tyX0_ok nmX0 rfl hnm rfl (tyX0_ok 1 (by decide)) rfl rfl (Nat.le_of_ble_eq_true rfl) dX0_init_10 ?_
  refine u_aload_n hC 0 dX0_init_13 rfl rfl ?_
  refine u_bipush hC (v := 30) dX0_init_14 (by decide) ?_
  refine u_newI hC (N := 30) aw_I (by decide) rfl (Nat.le_of_ble_eq_true rfl) (Nat.le_of_ble_eq_true rfl) (Nat.le_of_ble_eq_true rfl) dX0_init_16 (fun q1 => ?_)
  refine u_wsE (ws1 := ws.set p0 (h0, .inr (0, [.int 0, .ref q0, .null, .int 0, .null, .null, .null, .null])) ++ ((q0, .inl (Z.2.2.1.1, 1401, .inl (fun _ => 0))) :: (q1, .inl (Z.2.2.1.1, 30, .inl (fun _ => 0))) :: [])) (by simp only [List.append_assoc, List.cons_append, List.nil_append, List.append_nil]) ?_
  refine u_putF hC p0 0 2 (rf := "Courtdocket$Calendar") (ws1 := ws.set p0 (h0, .inr (0, [.int 0, .ref q0, .ref q1, .int 0, .null, .null, .null, .null])) ++ ((q0, .inl (Z.2.2.1.1, 1401, .inl (fun _ => 0))) :: (q1, .inl (Z.2.2.1.1, 30, .inl (fun _ => 0))) :: [])) tyX0 (u_at hp) (u_set hp) rfl (by decide) inX0 (gIx 84 (by decide +kernel) rfl) rfl tyX0_ok nmX0 rfl hnm rfl (tyX0_ok 2 (by decide)) rfl rfl (Nat.le_of_ble_eq_true rfl) dX0_init_18 ?_
  refine u_aload_n hC 0 dX0_init_21 rfl rfl ?_
  refine u_frd hC hH hC.2.2.1 rfl rfl (gIx 69 (by decide +kernel) rfl) (gIn (by decide +kernel) rfl) (gIn (by decide +kernel) rfl) (gIn (by decide +kernel) rfl) (gIn (by decide +kernel) rfl) (gIx 75 (by decide +kernel) rfl) (by decide) (by decide) (Nat.le_of_ble_eq_true rfl) (Nat.le_of_ble_eq_true rfl) (Nat.le_of_ble_eq_true rfl) dX0_init_22 dX0_init_25 dX0_init_28 (fun q2 => ?_)
  refine u_wsE (ws1 := ws.set p0 (h0, .inr (0, [.int 0, .ref q0, .ref q1, .int 0, .null, .null, .null, .null])) ++ ((q0, .inl (Z.2.2.1.1, 1401, .inl (fun _ => 0))) :: (q1, .inl (Z.2.2.1.1, 30, .inl (fun _ => 0))) :: (q2, .inl (Z.2.2.1.1, 5, .inl frd)) :: [])) (by simp only [List.append_assoc, List.cons_append, List.nil_append, List.append_nil]) ?_
  refine u_putF hC p0 0 4 (rf := "Courtdocket$Calendar") (ws1 := ws.set p0 (h0, .inr (0, [.int 0, .ref q0, .ref q1, .int 0, .ref q2, .null, .null, .null])) ++ ((q0, .inl (Z.2.2.1.1, 1401, .inl (fun _ => 0))) :: (q1, .inl (Z.2.2.1.1, 30, .inl (fun _ => 0))) :: (q2, .inl (Z.2.2.1.1, 5, .inl frd)) :: [])) tyX0 (u_at hp) (u_set hp) rfl (by decide) inX0 (gIx 87 (by decide +kernel) rfl) rfl tyX0_ok nmX0 rfl hnm rfl (tyX0_ok 4 (by decide)) rfl rfl (Nat.le_of_ble_eq_true rfl) dX0_init_31 ?_
  refine u_aload_n hC 0 dX0_init_34 rfl rfl ?_
  refine u_iconst hC (v := 5) dX0_init_35 (by decide) ?_
  refine u_newZ hC (N := 5) aw_Z (by decide) rfl (Nat.le_of_ble_eq_true rfl) (Nat.le_of_ble_eq_true rfl) (Nat.le_of_ble_eq_true rfl) dX0_init_36 (fun q3 => ?_)
  refine u_wsE (ws1 := ws.set p0 (h0, .inr (0, [.int 0, .ref q0, .ref q1, .int 0, .ref q2, .null, .null, .null])) ++ ((q0, .inl (Z.2.2.1.1, 1401, .inl (fun _ => 0))) :: (q1, .inl (Z.2.2.1.1, 30, .inl (fun _ => 0))) :: (q2, .inl (Z.2.2.1.1, 5, .inl frd)) :: (q3, .inl (Z.2.2.1.2.1, 5, .inl (fun _ => 0))) :: [])) (by simp only [List.append_assoc, List.cons_append, List.nil_append, List.append_nil]) ?_
  refine u_putF hC p0 0 5 (rf := "Courtdocket$Calendar") (ws1 := ws.set p0 (h0, .inr (0, [.int 0, .ref q0, .ref q1, .int 0, .ref q2, .ref q3, .null, .null])) ++ ((q0, .inl (Z.2.2.1.1, 1401, .inl (fun _ => 0))) :: (q1, .inl (Z.2.2.1.1, 30, .inl (fun _ => 0))) :: (q2, .inl (Z.2.2.1.1, 5, .inl frd)) :: (q3, .inl (Z.2.2.1.2.1, 5, .inl (fun _ => 0))) :: [])) tyX0 (u_at hp) (u_set hp) rfl (by decide) inX0 (gIx 89 (by decide +kernel) rfl) rfl tyX0_ok nmX0 rfl hnm rfl (tyX0_ok 5 (by decide)) rfl rfl (Nat.le_of_ble_eq_true rfl) dX0_init_38 ?_
  refine u_aload_n hC 0 dX0_init_41 rfl rfl ?_
  refine u_bipush hC (v := 8) dX0_init_42 (by decide) ?_
  refine u_sipush hC (v := 160) dX0_init_44 (by decide) ?_
  refine u_mna hC (N := 8) (K := 160) (gIx 76 (by decide +kernel) rfl) hH aw_I (by decide) (by decide) rfl rfl (Nat.le_of_ble_eq_true rfl) (Nat.le_of_ble_eq_true rfl) (Nat.le_of_ble_eq_true rfl) (Nat.le_of_ble_eq_true rfl) (Nat.le_of_ble_eq_true rfl) dX0_init_47 (fun q4 r0 => ?_)
  refine u_wsE (ws1 := ws.set p0 (h0, .inr (0, [.int 0, .ref q0, .ref q1, .int 0, .ref q2, .ref q3, .null, .null])) ++ ((q0, .inl (Z.2.2.1.1, 1401, .inl (fun _ => 0))) :: (q1, .inl (Z.2.2.1.1, 30, .inl (fun _ => 0))) :: (q2, .inl (Z.2.2.1.1, 5, .inl frd)) :: (q3, .inl (Z.2.2.1.2.1, 5, .inl (fun _ => 0))) :: (q4, .inl (Z.2.2.1.2.2.1, 8, .inr (.inr (.inr (.inr (fun i => if i < 8 then some (r0 i) else none)))))) :: ((List.range 8).map (fun i => (r0 i, (.inl (Z.2.2.1.1, 160, .inl (fun _ => 0)) : va_E)))))) (by simp only [List.append_assoc, List.cons_append, List.nil_append, List.append_nil]) ?_
  refine u_putF hC p0 0 6 (rf := "Courtdocket$Calendar") (ws1 := ws.set p0 (h0, .inr (0, [.int 0, .ref q0, .ref q1, .int 0, .ref q2, .ref q3, .ref q4, .null])) ++ ((q0, .inl (Z.2.2.1.1, 1401, .inl (fun _ => 0))) :: (q1, .inl (Z.2.2.1.1, 30, .inl (fun _ => 0))) :: (q2, .inl (Z.2.2.1.1, 5, .inl frd)) :: (q3, .inl (Z.2.2.1.2.1, 5, .inl (fun _ => 0))) :: (q4, .inl (Z.2.2.1.2.2.1, 8, .inr (.inr (.inr (.inr (fun i => if i < 8 then some (r0 i) else none)))))) :: ((List.range 8).map (fun i => (r0 i, (.inl (Z.2.2.1.1, 160, .inl (fun _ => 0)) : va_E)))))) tyX0 (u_at hp) (u_set hp) rfl (by decide) inX0 (gIx 91 (by decide +kernel) rfl) rfl tyX0_ok nmX0 rfl hnm rfl (tyX0_ok 6 (by decide)) rfl rfl (Nat.le_of_ble_eq_true rfl) dX0_init_51 ?_
  refine u_aload_n hC 0 dX0_init_54 rfl rfl ?_
  refine u_bipush hC (v := 8) dX0_init_55 (by decide) ?_
  refine u_newI hC (N := 8) aw_I (by decide) rfl (Nat.le_of_ble_eq_true rfl) (Nat.le_of_ble_eq_true rfl) (Nat.le_of_ble_eq_true rfl) dX0_init_57 (fun q5 => ?_)
  refine u_wsE (ws1 := ws.set p0 (h0, .inr (0, [.int 0, .ref q0, .ref q1, .int 0, .ref q2, .ref q3, .ref q4, .null])) ++ ((q0, .inl (Z.2.2.1.1, 1401, .inl (fun _ => 0))) :: (q1, .inl (Z.2.2.1.1, 30, .inl (fun _ => 0))) :: (q2, .inl (Z.2.2.1.1, 5, .inl frd)) :: (q3, .inl (Z.2.2.1.2.1, 5, .inl (fun _ => 0))) :: (q4, .inl (Z.2.2.1.2.2.1, 8, .inr (.inr (.inr (.inr (fun i => if i < 8 then some (r0 i) else none)))))) :: ((List.range 8).map (fun i => (r0 i, (.inl (Z.2.2.1.1, 160, .inl (fun _ => 0)) : va_E)))) ++ ((q5, .inl (Z.2.2.1.1, 8, .inl (fun _ => 0))) :: []))) (by simp only [List.append_assoc, List.cons_append, List.nil_append, List.append_nil]) ?_
  refine u_putF hC p0 0 7 (rf := "Courtdocket$Calendar") (ws1 := ws.set p0 (h0, .inr (0, [.int 0, .ref q0, .ref q1, .int 0, .ref q2, .ref q3, .ref q4, .ref q5])) ++ ((q0, .inl (Z.2.2.1.1, 1401, .inl (fun _ => 0))) :: (q1, .inl (Z.2.2.1.1, 30, .inl (fun _ => 0))) :: (q2, .inl (Z.2.2.1.1, 5, .inl frd)) :: (q3, .inl (Z.2.2.1.2.1, 5, .inl (fun _ => 0))) :: (q4, .inl (Z.2.2.1.2.2.1, 8, .inr (.inr (.inr (.inr (fun i => if i < 8 then some (r0 i) else none)))))) :: ((List.range 8).map (fun i => (r0 i, (.inl (Z.2.2.1.1, 160, .inl (fun _ => 0)) : va_E)))) ++ ((q5, .inl (Z.2.2.1.1, 8, .inl (fun _ => 0))) :: []))) tyX0 (u_at hp) (u_set hp) rfl (by decide) inX0 (gIx 92 (by decide +kernel) rfl) rfl tyX0_ok nmX0 rfl hnm rfl (tyX0_ok 7 (by decide)) rfl rfl (Nat.le_of_ble_eq_true rfl) dX0_init_59 ?_
  refine u_aload_n hC 0 dX0_init_62 rfl rfl ?_
  refine u_get hC p0 0 5 (rf := "Courtdocket$Calendar") (u_at hp) rfl rfl (by decide) inX0 (gIx 89 (by decide +kernel) rfl) rfl dX0_init_63 ?_
  refine u_iconst hC (v := 4) dX0_init_66 (by decide) ?_
  refine u_iconst hC (v := 1) dX0_init_67 (by decide) ?_
  refine u_zast hC (ws.length + 3) (ws1 := ws.set p0 (h0, .inr (0, [.int 0, .ref q0, .ref q1, .int 0, .ref q2, .ref q3, .ref q4, .ref q5])) ++ ((q0, .inl (Z.2.2.1.1, 1401, .inl (fun _ => 0))) :: (q1, .inl (Z.2.2.1.1, 30, .inl (fun _ => 0))) :: (q2, .inl (Z.2.2.1.1, 5, .inl frd)) :: (q3, .inl (Z.2.2.1.2.1, 5, .inl (upd (fun _ => 0) (4 : Int32).toNatClampNeg 1))) :: (q4, .inl (Z.2.2.1.2.2.1, 8, .inr (.inr (.inr (.inr (fun i => if i < 8 then some (r0 i) else none)))))) :: ((List.range 8).map (fun i => (r0 i, (.inl (Z.2.2.1.1, 160, .inl (fun _ => 0)) : va_E)))) ++ ((q5, .inl (Z.2.2.1.1, 8, .inl (fun _ => 0))) :: []))) (u_tail.trans rfl) (show ¬ ((4 : Int32) < 0 ∨ 5 ≤ (4 : Int32).toNatClampNeg) by decide) (by decide) (u_tset.trans rfl) dX0_init_68 ?_
  refine u_iconst hC (v := 0) dX0_init_69 (by decide) ?_
  refine u_istore_n hC (lv1 := [(1, .int 0), (0, .ref h0)]) dX0_init_70 rfl (by decide) rfl ?_
  refine u_wsE (ws1 := ws.set p0 (h0, .inr (0, [.int 0, .ref q0, .ref q1, .int 0, .ref q2, .ref q3, .ref q4, .ref q5])) ++ (((q0, .inl (Z.2.2.1.1, 1401, .inl (fun _ => 0))) :: (q1, .inl (Z.2.2.1.1, 30, .inl (fun _ => 0))) :: (q2, .inl (Z.2.2.1.1, 5, .inl frd)) :: (q3, .inl (Z.2.2.1.2.1, 5, .inl (upd (fun _ => 0) (4 : Int32).toNatClampNeg 1))) :: (q4, .inl (Z.2.2.1.2.2.1, 8, .inr (.inr (.inr (.inr (fun i => if i < 8 then some (r0 i) else none)))))) :: ((List.range 8).map (fun i => (r0 i, (.inl (Z.2.2.1.1, 160, .inl (fun _ => 0)) : va_E)))) ++ ((q5, .inl (Z.2.2.1.1, 8, .inl (fun _ => 0))) :: [])) : va_W).set 0 (q0, .inl (Z.2.2.1.1, 1401, .inl (umk 0)))) (by rw [umk_0]; rfl) ?_
  refine kl_X0_71 hC hp rfl (Nat.le_of_ble_eq_true rfl) (Nat.le_of_ble_eq_true rfl) (Nat.le_of_ble_eq_true rfl) ?_ 1401 0 rfl
  refine u_wsE (ws1 := ws.set p0 (h0, .inr (0, [.int 0, .ref q0, .ref q1, .int 0, .ref q2, .ref q3, .ref q4, .ref q5])) ++ ((q0, .inl (Z.2.2.1.1, 1401, .inl (umk 1401))) :: (q1, .inl (Z.2.2.1.1, 30, .inl (fun _ => 0))) :: (q2, .inl (Z.2.2.1.1, 5, .inl frd)) :: (q3, .inl (Z.2.2.1.2.1, 5, .inl (upd (fun _ => 0) (4 : Int32).toNatClampNeg 1))) :: (q4, .inl (Z.2.2.1.2.2.1, 8, .inr (.inr (.inr (.inr (fun i => if i < 8 then some (r0 i) else none)))))) :: ((List.range 8).map (fun i => (r0 i, (.inl (Z.2.2.1.1, 160, .inl (fun _ => 0)) : va_E)))) ++ ((q5, .inl (Z.2.2.1.1, 8, .inl (fun _ => 0))) :: []))) rfl ?_
  exact u_vret hC (fun g => if g = 0 then (fun i => [q0, q1, q2, q3, q4, q5].getD i 0) else r0) hlk hrt (Nat.le_of_ble_eq_true rfl) (Nat.le_of_ble_eq_true rfl) rfl dX0_init_104
