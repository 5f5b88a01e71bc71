theorem u_out {x y e : Nat × va_E} {rest tail : va_W} : ((x :: rest) ++ [y]).set (rest.length + 1) e ++ tail = x :: (rest ++ (e :: tail)) := by
  rw [List.set_append_right _ _ (by simp)]
  simp
theorem u_last {x y : Nat × va_E} {rest : va_W} : ((x :: rest) ++ [y])[rest.length + 1]? = some y := by
  rw [List.getElem?_append_right (by simp)]
  simp
def blk_X0 (Z : gZ) (h0 : Nat) (a : Nat → Nat → Nat) : va_W := (h0, .inr (0, [.int 0, .ref (a 0 0), .ref (a 0 1), .int 0, .ref (a 0 2), .ref (a 0 3), .ref (a 0 4), .ref (a 0 5)])) :: ((a 0 0, .inl (Z.2.2.1.1, 1401, .inl (umk 1401))) :: (a 0 1, .inl (Z.2.2.1.1, 30, .inl (fun _ => 0))) :: (a 0 2, .inl (Z.2.2.1.1, 5, .inl frd)) :: (a 0 3, .inl (Z.2.2.1.2.1, 5, .inl (upd (fun _ => 0) (4 : Int32).toNatClampNeg 1))) :: (a 0 4, .inl (Z.2.2.1.2.2.1, 8, .inr (.inr (.inr (.inr (fun i => if i < 8 then some (a 1 i) else none)))))) :: ((List.range 8).map (fun i => (a 1 i, (.inl (Z.2.2.1.1, 160, .inl (fun _ => 0)) : va_E)))) ++ ((a 0 5, .inl (Z.2.2.1.1, 8, .inl (fun _ => 0))) :: []))
theorem outb_X0 {Z : gZ} {x y : Nat × va_E} {rest : va_W} {h0 : Nat} {a : Nat → Nat → Nat} : out_X0 Z ((x :: rest) ++ [y]) (rest.length + 1) h0 a = x :: (rest ++ blk_X0 Z h0 a) := u_out
theorem dv_X0 : ∀ j, j < 8 → defaultValue (tyX0 j) = vp_V [.int 0, .null, .null, .int 0, .null, .null, .null, .null] j
  | 0, _ => rfl
  | 1, _ => rfl
  | 2, _ => rfl
  | 3, _ => rfl
  | 4, _ => rfl
  | 5, _ => rfl
  | 6, _ => rfl
  | 7, _ => rfl
  | n + 8, h => absurd h (by omega)
def blk_X1 (Z : gZ) (h0 : Nat) (a : Nat → Nat → Nat) : va_W := (h0, .inr (1, [.int 0, .ref (a 0 0), .ref (a 0 1), .ref (a 0 2), .ref (a 0 3), .ref (a 0 4), .ref (a 0 5)])) :: ((a 0 0, .inl (Z.2.2.1.1, 8, .inl (fun _ => 0))) :: (a 0 1, .inl (Z.2.2.1.1, 8, .inl (fun _ => 0))) :: (a 0 2, .inl (Z.2.2.1.1, 8, .inl (fun _ => 0))) :: (a 0 3, .inl (Z.2.2.1.1, 8, .inl (fun _ => 0))) :: (a 0 4, .inl (Z.2.2.1.2.2.1, 8, .inr (.inr (.inr (.inr (fun i => if i < 8 then some (a 1 i) else none)))))) :: ((List.range 8).map (fun i => (a 1 i, (.inl (Z.2.2.1.1, 16, .inl (fun _ => 0)) : va_E)))) ++ ((a 0 5, .inl (Z.2.2.1.2.2.1, 8, .inr (.inr (.inr (.inr (fun i => if i < 8 then some (a 2 i) else none)))))) :: ((List.range 8).map (fun i => (a 2 i, (.inl (Z.2.2.1.1, 16, .inl (fun _ => 0)) : va_E))))))
theorem outb_X1 {Z : gZ} {x y : Nat × va_E} {rest : va_W} {h0 : Nat} {a : Nat → Nat → Nat} : out_X1 Z ((x :: rest) ++ [y]) (rest.length + 1) h0 a = x :: (rest ++ blk_X1 Z h0 a) := u_out
theorem dv_X1 : ∀ j, j < 7 → defaultValue (tyX1 j) = vp_V [.int 0, .null, .null, .null, .null, .null, .null] j
  | 0, _ => rfl
  | 1, _ => rfl
  | 2, _ => rfl
  | 3, _ => rfl
  | 4, _ => rfl
  | 5, _ => rfl
  | 6, _ => rfl
  | n + 7, h => absurd h (by omega)
def blk_X2 (Z : gZ) (h0 : Nat) (a : Nat → Nat → Nat) : va_W := (h0, .inr (2, [.int 0, .ref (a 0 0), .ref (a 0 1), .ref (a 0 2), .ref (a 0 3), .ref (a 0 4), .ref (a 0 5), .ref (a 0 6), .ref (a 0 7)])) :: ((a 0 0, .inl (Z.2.2.1.1, 24, .inl (fun _ => 0))) :: (a 0 1, .inl (Z.2.2.1.1, 24, .inl (fun _ => 0))) :: (a 0 2, .inl (Z.2.2.1.1, 24, .inl (fun _ => 0))) :: (a 0 3, .inl (Z.2.2.1.1, 24, .inl (fun _ => 0))) :: (a 0 4, .inl (Z.2.2.1.1, 24, .inl (fun _ => 0))) :: (a 0 5, .inl (Z.2.2.1.1, 24, .inl (fun _ => 0))) :: (a 0 6, .inl (Z.2.2.1.1, 24, .inl (fun _ => 0))) :: (a 0 7, .inl (Z.2.2.1.1, 24, .inl (fun _ => 0))) :: [])
theorem outb_X2 {Z : gZ} {x y : Nat × va_E} {rest : va_W} {h0 : Nat} {a : Nat → Nat → Nat} : out_X2 Z ((x :: rest) ++ [y]) (rest.length + 1) h0 a = x :: (rest ++ blk_X2 Z h0 a) := u_out
theorem dv_X2 : ∀ j, j < 9 → defaultValue (tyX2 j) = vp_V [.int 0, .null, .null, .null, .null, .null, .null, .null, .null] j
  | 0, _ => rfl
  | 1, _ => rfl
  | 2, _ => rfl
  | 3, _ => rfl
  | 4, _ => rfl
  | 5, _ => rfl
  | 6, _ => rfl
  | 7, _ => rfl
  | 8, _ => rfl
  | n + 9, h => absurd h (by omega)
def blk_X3 (Z : gZ) (h0 : Nat) (a : Nat → Nat → Nat) : va_W := (h0, .inr (3, [.int 0, .ref (a 0 0), .ref (a 0 1), .ref (a 0 2), .ref (a 0 3), .ref (a 0 4), .ref (a 0 5), .ref (a 0 6), .ref (a 0 7), .ref (a 0 8), .ref (a 0 9), .ref (a 0 10), .ref (a 0 11), .ref (a 0 12), .ref (a 0 13)])) :: ((a 0 0, .inl (Z.2.2.1.1, 160, .inl (fun _ => 0))) :: (a 0 1, .inl (Z.2.2.1.1, 160, .inl (fun _ => 0))) :: (a 0 2, .inl (Z.2.2.1.1, 160, .inl (fun _ => 0))) :: (a 0 3, .inl (Z.2.2.1.1, 160, .inl (fun _ => 0))) :: (a 0 4, .inl (Z.2.2.1.1, 160, .inl (fun _ => 0))) :: (a 0 5, .inl (Z.2.2.1.1, 160, .inl (fun _ => 0))) :: (a 0 6, .inl (Z.2.2.1.2.1, 160, .inl (fun _ => 0))) :: (a 0 7, .inl (Z.2.2.1.2.1, 160, .inl (fun _ => 0))) :: (a 0 8, .inl (Z.2.2.1.1, 160, .inl (fun _ => 0))) :: (a 0 9, .inl (Z.2.2.1.2.1, 160, .inl (fun _ => 0))) :: (a 0 10, .inl (Z.2.2.1.1, 160, .inl (fun _ => 0))) :: (a 0 11, .inl (Z.2.2.1.1, 160, .inl (fun _ => 0))) :: (a 0 12, .inl (Z.2.2.1.2.1, 160, .inl (fun _ => 0))) :: (a 0 13, .inl (Z.2.2.1.2.1, 160, .inl (fun _ => 0))) :: [])
theorem outb_X3 {Z : gZ} {x y : Nat × va_E} {rest : va_W} {h0 : Nat} {a : Nat → Nat → Nat} : out_X3 Z ((x :: rest) ++ [y]) (rest.length + 1) h0 a = x :: (rest ++ blk_X3 Z h0 a) := u_out
theorem dv_X3 : ∀ j, j < 15 → defaultValue (tyX3 j) = vp_V [.int 0, .null, .null, .null, .null, .null, .null, .null, .null, .null, .null, .null, .null, .null, .null] j
  | 0, _ => rfl
  | 1, _ => rfl
  | 2, _ => rfl
  | 3, _ => rfl
  | 4, _ => rfl
  | 5, _ => rfl
  | 6, _ => rfl
  | 7, _ => rfl
  | 8, _ => rfl
  | 9, _ => rfl
  | 10, _ => rfl
  | 11, _ => rfl
  | 12, _ => rfl
  | 13, _ => rfl
  | 14, _ => rfl
  | n + 15, h => absurd h (by omega)
def blk_X4 (Z : gZ) (h0 : Nat) (a : Nat → Nat → Nat) : va_W := (h0, .inr (4, [.int 0, .ref (a 0 0), .ref (a 0 1), .ref (a 0 2)])) :: ((a 0 0, .inl (Z.2.2.1.1, 12, .inl (fun _ => 0))) :: (a 0 1, .inl (Z.2.2.1.2.1, 12, .inl (fun _ => 0))) :: (a 0 2, .inl (Z.2.2.1.2.2.1, 12, .inr (.inr (.inr (.inr (fun i => if i < 12 then some (a 1 i) else none)))))) :: ((List.range 12).map (fun i => (a 1 i, (.inl (Z.2.2.1.1, 2, .inl (fun _ => 0)) : va_E)))))
theorem outb_X4 {Z : gZ} {x y : Nat × va_E} {rest : va_W} {h0 : Nat} {a : Nat → Nat → Nat} : out_X4 Z ((x :: rest) ++ [y]) (rest.length + 1) h0 a = x :: (rest ++ blk_X4 Z h0 a) := u_out
theorem dv_X4 : ∀ j, j < 4 → defaultValue (tyX4 j) = vp_V [.int 0, .null, .null, .null] j
  | 0, _ => rfl
  | 1, _ => rfl
  | 2, _ => rfl
  | 3, _ => rfl
  | n + 4, h => absurd h (by omega)
def blk_X5 (Z : gZ) (h0 : Nat) (a : Nat → Nat → Nat) : va_W := (h0, .inr (5, [.int 0, .ref (a 0 0), .ref (a 0 1), .ref (a 0 2)])) :: ((a 0 0, .inl (Z.2.2.1.1, 40, .inl (fun _ => 0))) :: (a 0 1, .inl (Z.2.2.1.1, 40, .inl (fun _ => 0))) :: (a 0 2, .inl (Z.2.2.1.1, 40, .inl (fun _ => 0))) :: [])
theorem outb_X5 {Z : gZ} {x y : Nat × va_E} {rest : va_W} {h0 : Nat} {a : Nat → Nat → Nat} : out_X5 Z ((x :: rest) ++ [y]) (rest.length + 1) h0 a = x :: (rest ++ blk_X5 Z h0 a) := u_out
theorem dv_X5 : ∀ j, j < 4 → defaultValue (tyX5 j) = vp_V [.int 0, .null, .null, .null] j
  | 0, _ => rfl
  | 1, _ => rfl
  | 2, _ => rfl
  | 3, _ => rfl
  | n + 4, h => absurd h (by omega)
def blk_X6 (Z : gZ) (h0 : Nat) (a : Nat → Nat → Nat) : va_W := (h0, .inr (6, [.ref (a 0 0), .ref (a 0 1), .ref (a 0 2), .ref (a 0 3)])) :: ((a 0 0, .inl (Z.2.2.1.1, 8, .inl (fun _ => 0))) :: (a 0 1, .inl (Z.2.2.1.1, 8, .inl (fun _ => 0))) :: (a 0 2, .inl (Z.2.2.1.2.2.1, 8, .inr (.inr (.inr (.inr (fun i => if i < 8 then some (a 1 i) else none)))))) :: ((List.range 8).map (fun i => (a 1 i, (.inl (Z.2.2.1.1, 8, .inl (fun _ => 0)) : va_E)))) ++ ((a 0 3, .inl (Z.2.2.1.1, 8, .inl (fun _ => 0))) :: []))
theorem outb_X6 {Z : gZ} {x y : Nat × va_E} {rest : va_W} {h0 : Nat} {a : Nat → Nat → Nat} : out_X6 Z ((x :: rest) ++ [y]) (rest.length + 1) h0 a = x :: (rest ++ blk_X6 Z h0 a) := u_out
theorem dv_X6 : ∀ j, j < 4 → defaultValue (tyX6 j) = vp_V [.null, .null, .null, .null] j
  | 0, _ => rfl
  | 1, _ => rfl
  | 2, _ => rfl
  | 3, _ => rfl
  | n + 4, h => absurd h (by omega)
def blk_X7 (Z : gZ) (h0 : Nat) (a : Nat → Nat → Nat) : va_W := (h0, .inr (7, [.int 0, .ref (a 0 0), .ref (a 0 1), .ref (a 0 2)])) :: ((a 0 0, .inl (Z.2.2.1.1, 512, .inl (fun _ => 0))) :: (a 0 1, .inl (Z.2.2.1.1, 512, .inl (fun _ => 0))) :: (a 0 2, .inl (Z.2.2.1.2.1, 512, .inl (fun _ => 0))) :: [])
theorem outb_X7 {Z : gZ} {x y : Nat × va_E} {rest : va_W} {h0 : Nat} {a : Nat → Nat → Nat} : out_X7 Z ((x :: rest) ++ [y]) (rest.length + 1) h0 a = x :: (rest ++ blk_X7 Z h0 a) := u_out
theorem dv_X7 : ∀ j, j < 4 → defaultValue (tyX7 j) = vp_V [.int 0, .null, .null, .null] j
  | 0, _ => rfl
  | 1, _ => rfl
  | 2, _ => rfl
  | 3, _ => rfl
  | n + 4, h => absurd h (by omega)
abbrev rm_X8_init : Room := { frames := 2, cells := 99, slots := 7340, locals := 60 }
/-- what the class's constructor makes -/
def out_X8 (Z : gZ) (h0 : Nat) (a : Nat → Nat → Nat) : va_W := (h0, .inr (8, [.ref (a 0 0), .ref (a 0 1), .ref (a 0 2), .ref (a 0 3), .ref (a 0 4), .ref (a 0 5), .ref (a 0 6), .ref (a 0 7)])) :: ((((((((([] : va_W) ++ blk_X0 Z (a 0 0) (fun g => a (10 * 1 + g))) ++ blk_X1 Z (a 0 1) (fun g => a (10 * 2 + g))) ++ blk_X2 Z (a 0 2) (fun g => a (10 * 3 + g))) ++ blk_X3 Z (a 0 3) (fun g => a (10 * 4 + g))) ++ blk_X5 Z (a 0 4) (fun g => a (10 * 5 + g))) ++ blk_X6 Z (a 0 5) (fun g => a (10 * 6 + g))) ++ blk_X4 Z (a 0 6) (fun g => a (10 * 7 + g))) ++ blk_X7 Z (a 0 7) (fun g => a (10 * 8 + g)))
set_option maxRecDepth 20000 in
set_option maxHeartbeats 8000000 in
theorem k_X8 (l : Launch) (Z : gZ) (h0 : Nat) : gMetU l yX8_init cX8_init 1 rm_X8_init 99 7340 Z [(h0, .inr (8, [.null, .null, .null, .null, .null, .null, .null, .null]))] h0 (out_X8 Z h0) := by
  refine u_enter (by decide) (by decide) (fun p e s m args below meth c hC hlk hrt hnm hH => ?_)
  refine u_aload_n hC 0 dX8_init_0 rfl rfl ?_
  refine u_objInit hC (gIx 58 (by decide +kernel) rfl) oi_2 oi_3 (by decide) (by decide) (Nat.le_of_ble_eq_true rfl) dX8_init_1 ?_
  refine u_aload_n hC 0 dX8_init_4 rfl rfl ?_
  refine u_new hC 0 tyX0 rfl inX0 tyX0_ok (gIx 61 (by decide +kernel) rfl) (gIx 62 (by decide +kernel) rfl) (gIx 37 (by decide +kernel) rfl) dv_X0 (Nat.le_of_ble_eq_true rfl) (Nat.le_of_ble_eq_true rfl) dX8_init_5 (fun q0 => ?_)
  refine u_dup hC dX8_init_8 rfl ?_
  refine u_callI hC hH (k_X0 l Z (((h0, .inr (8, [.null, .null, .null, .null, .null, .null, .null, .null])) :: ([] : va_W)) ++ [(q0, .inr (0, [.int 0, .null, .null, .int 0, .null, .null, .null, .null]))]) ((([] : va_W)).length + 1) q0 u_last) (gIx 63 (by decide +kernel) rfl) (gIx 64 (by decide +kernel) rfl) (gIx 37 (by decide +kernel) rfl) (gIx 65 (by decide +kernel) rfl) rfl ⟨by decide, by decide, by decide +kernel⟩ rfl rfl ⟨by decide, by decide⟩ (Nat.le_of_ble_eq_true rfl) (Nat.le_of_ble_eq_true rfl) (Nat.le_of_ble_eq_true rfl) dX8_init_9 (fun a0 => ?_)
  refine u_wsE outb_X0 ?_
  refine u_putF hC 0 8 0 (rf := "Courtdocket") (ws1 := ((h0, .inr (8, [.ref q0, .null, .null, .null, .null, .null, .null, .null])) :: (([] : va_W) ++ blk_X0 Z q0 a0))) tyX8 rfl rfl rfl (by decide) inX8 (gIx 343 (by decide +kernel) rfl) rfl tyX8_ok nmX8 rfl hnm rfl (tyX8_ok 0 (by decide)) rfl rfl (Nat.le_of_ble_eq_true rfl) dX8_init_12 ?_
  refine u_aload_n hC 0 dX8_init_15 rfl rfl ?_
  refine u_new hC 1 tyX1 rfl inX1 tyX1_ok (gIx 112 (by decide +kernel) rfl) (gIx 113 (by decide +kernel) rfl) (gIx 38 (by decide +kernel) rfl) dv_X1 (Nat.le_of_ble_eq_true rfl) (Nat.le_of_ble_eq_true rfl) dX8_init_16 (fun q1 => ?_)
  refine u_dup hC dX8_init_19 rfl ?_
  refine u_callIN hC hH (k_X1 l Z (((h0, .inr (8, [.ref q0, .null, .null, .null, .null, .null, .null, .null])) :: (([] : va_W) ++ blk_X0 Z q0 a0)) ++ [(q1, .inr (1, [.int 0, .null, .null, .null, .null, .null, .null]))]) (((([] : va_W) ++ blk_X0 Z q0 a0)).length + 1) q1 u_last) (hH.2.1 (.methodLinkNest RX8 18 yX1_init RX8) (by decide +kernel)) (gIx 115 (by decide +kernel) rfl) (gIx 38 (by decide +kernel) rfl) (gIx 116 (by decide +kernel) rfl) rfl ⟨by decide, by decide, by decide +kernel⟩ rfl rfl ⟨by decide, by decide⟩ (Nat.le_of_ble_eq_true rfl) (Nat.le_of_ble_eq_true rfl) (Nat.le_of_ble_eq_true rfl) dX8_init_20 (fun a1 => ?_)
  refine u_wsE outb_X1 ?_
  refine u_putF hC 0 8 1 (rf := "Courtdocket") (ws1 := ((h0, .inr (8, [.ref q0, .ref q1, .null, .null, .null, .null, .null, .null])) :: ((([] : va_W) ++ blk_X0 Z q0 a0) ++ blk_X1 Z q1 a1))) tyX8 rfl rfl rfl (by decide) inX8 (gIx 344 (by decide +kernel) rfl) rfl tyX8_ok nmX8 rfl hnm rfl (tyX8_ok 1 (by decide)) rfl rfl (Nat.le_of_ble_eq_true rfl) dX8_init_23 ?_
  refine u_aload_n hC 0 dX8_init_26 rfl rfl ?_
  refine u_new hC 2 tyX2 rfl inX2 tyX2_ok (gIx 146 (by decide +kernel) rfl) (gIx 147 (by decide +kernel) rfl) (gIx 39 (by decide +kernel) rfl) dv_X2 (Nat.le_of_ble_eq_true rfl) (Nat.le_of_ble_eq_true rfl) dX8_init_27 (fun q2 => ?_)
  refine u_dup hC dX8_init_30 rfl ?_
  refine u_callIN hC hH (k_X2 l Z (((h0, .inr (8, [.ref q0, .ref q1, .null, .null, .null, .null, .null, .null])) :: ((([] : va_W) ++ blk_X0 Z q0 a0) ++ blk_X1 Z q1 a1)) ++ [(q2, .inr (2, [.int 0, .null, .null, .null, .null, .null, .null, .null, .null]))]) ((((([] : va_W) ++ blk_X0 Z q0 a0) ++ blk_X1 Z q1 a1)).length + 1) q2 u_last) (hH.2.1 (.methodLinkNest RX8 25 yX2_init RX8) (by decide +kernel)) (gIx 149 (by decide +kernel) rfl) (gIx 39 (by decide +kernel) rfl) (gIx 150 (by decide +kernel) rfl) rfl ⟨by decide, by decide, by decide +kernel⟩ rfl rfl ⟨by decide, by decide⟩ (Nat.le_of_ble_eq_true rfl) (Nat.le_of_ble_eq_true rfl) (Nat.le_of_ble_eq_true rfl) dX8_init_31 (fun a2 => ?_)
  refine u_wsE outb_X2 ?_
  refine u_putF hC 0 8 2 (rf := "Courtdocket") (ws1 := ((h0, .inr (8, [.ref q0, .ref q1, .ref q2, .null, .null, .null, .null, .null])) :: (((([] : va_W) ++ blk_X0 Z q0 a0) ++ blk_X1 Z q1 a1) ++ blk_X2 Z q2 a2))) tyX8 rfl rfl rfl (by decide) inX8 (gIx 345 (by decide +kernel) rfl) rfl tyX8_ok nmX8 rfl hnm rfl (tyX8_ok 2 (by decide)) rfl rfl (Nat.le_of_ble_eq_true rfl) dX8_init_34 ?_
  refine u_aload_n hC 0 dX8_init_37 rfl rfl ?_
  refine u_new hC 3 tyX3 rfl inX3 tyX3_ok (gIx 189 (by decide +kernel) rfl) (gIx 190 (by decide +kernel) rfl) (gIx 40 (by decide +kernel) rfl) dv_X3 (Nat.le_of_ble_eq_true rfl) (Nat.le_of_ble_eq_true rfl) dX8_init_38 (fun q3 => ?_)
  refine u_dup hC dX8_init_41 rfl ?_
  refine u_callIN hC hH (k_X3 l Z (((h0, .inr (8, [.ref q0, .ref q1, .ref q2, .null, .null, .null, .null, .null])) :: (((([] : va_W) ++ blk_X0 Z q0 a0) ++ blk_X1 Z q1 a1) ++ blk_X2 Z q2 a2)) ++ [(q3, .inr (3, [.int 0, .null, .null, .null, .null, .null, .null, .null, .null, .null, .null, .null, .null, .null, .null]))]) (((((([] : va_W) ++ blk_X0 Z q0 a0) ++ blk_X1 Z q1 a1) ++ blk_X2 Z q2 a2)).length + 1) q3 u_last) (hH.2.1 (.methodLinkNest RX8 32 yX3_init RX8) (by decide +kernel)) (gIx 192 (by decide +kernel) rfl) (gIx 40 (by decide +kernel) rfl) (gIx 193 (by decide +kernel) rfl) rfl ⟨by decide, by decide, by decide +kernel⟩ rfl rfl ⟨by decide, by decide⟩ (Nat.le_of_ble_eq_true rfl) (Nat.le_of_ble_eq_true rfl) (Nat.le_of_ble_eq_true rfl) dX8_init_42 (fun a3 => ?_)
  refine u_wsE outb_X3 ?_
  refine u_putF hC 0 8 3 (rf := "Courtdocket") (ws1 := ((h0, .inr (8, [.ref q0, .ref q1, .ref q2, .ref q3, .null, .null, .null, .null])) :: ((((([] : va_W) ++ blk_X0 Z q0 a0) ++ blk_X1 Z q1 a1) ++ blk_X2 Z q2 a2) ++ blk_X3 Z q3 a3))) tyX8 rfl rfl rfl (by decide) inX8 (gIx 346 (by decide +kernel) rfl) rfl tyX8_ok nmX8 rfl hnm rfl (tyX8_ok 3 (by decide)) rfl rfl (Nat.le_of_ble_eq_true rfl) dX8_init_45 ?_
  refine u_aload_n hC 0 dX8_init_48 rfl rfl ?_
  refine u_new hC 5 tyX5 rfl inX5 tyX5_ok (gIx 256 (by decide +kernel) rfl) (gIx 257 (by decide +kernel) rfl) (gIx 41 (by decide +kernel) rfl) dv_X5 (Nat.le_of_ble_eq_true rfl) (Nat.le_of_ble_eq_true rfl) dX8_init_49 (fun q4 => ?_)
  refine u_dup hC dX8_init_52 rfl ?_
  refine u_callIN hC hH (k_X5 l Z (((h0, .inr (8, [.ref q0, .ref q1, .ref q2, .ref q3, .null, .null, .null, .null])) :: ((((([] : va_W) ++ blk_X0 Z q0 a0) ++ blk_X1 Z q1 a1) ++ blk_X2 Z q2 a2) ++ blk_X3 Z q3 a3)) ++ [(q4, .inr (5, [.int 0, .null, .null, .null]))]) ((((((([] : va_W) ++ blk_X0 Z q0 a0) ++ blk_X1 Z q1 a1) ++ blk_X2 Z q2 a2) ++ blk_X3 Z q3 a3)).length + 1) q4 u_last) (hH.2.1 (.methodLinkNest RX8 39 yX5_init RX8) (by decide +kernel)) (gIx 259 (by decide +kernel) rfl) (gIx 41 (by decide +kernel) rfl) (gIx 260 (by decide +kernel) rfl) rfl ⟨by decide, by decide, by decide +kernel⟩ rfl rfl ⟨by decide, by decide⟩ (Nat.le_of_ble_eq_true rfl) (Nat.le_of_ble_eq_true rfl) (Nat.le_of_ble_eq_true rfl) dX8_init_53 (fun a4 => ?_)
  refine u_wsE outb_X5 ?_
  refine u_putF hC 0 8 4 (rf := "Courtdocket") (ws1 := ((h0, .inr (8, [.ref q0, .ref q1, .ref q2, .ref q3, .ref q4, .null, .null, .null])) :: (((((([] : va_W) ++ blk_X0 Z q0 a0) ++ blk_X1 Z q1 a1) ++ blk_X2 Z q2 a2) ++ blk_X3 Z q3 a3) ++ blk_X5 Z q4 a4))) tyX8 rfl rfl rfl (by decide) inX8 (gIx 347 (by decide +kernel) rfl) rfl tyX8_ok nmX8 rfl hnm rfl (tyX8_ok 4 (by decide)) rfl rfl (Nat.le_of_ble_eq_true rfl) dX8_init_56 ?_
  refine u_aload_n hC 0 dX8_init_59 rfl rfl ?_
  refine u_new hC 6 tyX6 rfl inX6 tyX6_ok (gIx 279 (by decide +kernel) rfl) (gIx 280 (by decide +kernel) rfl) (gIx 42 (by decide +kernel) rfl) dv_X6 (Nat.le_of_ble_eq_true rfl) (Nat.le_of_ble_eq_true rfl) dX8_init_60 (fun q5 => ?_)
  refine u_dup hC dX8_init_63 rfl ?_
  refine u_callIN hC hH (k_X6 l Z (((h0, .inr (8, [.ref q0, .ref q1, .ref q2, .ref q3, .ref q4, .null, .null, .null])) :: (((((([] : va_W) ++ blk_X0 Z q0 a0) ++ blk_X1 Z q1 a1) ++ blk_X2 Z q2 a2) ++ blk_X3 Z q3 a3) ++ blk_X5 Z q4 a4)) ++ [(q5, .inr (6, [.null, .null, .null, .null]))]) (((((((([] : va_W) ++ blk_X0 Z q0 a0) ++ blk_X1 Z q1 a1) ++ blk_X2 Z q2 a2) ++ blk_X3 Z q3 a3) ++ blk_X5 Z q4 a4)).length + 1) q5 u_last) (hH.2.1 (.methodLinkNest RX8 46 yX6_init RX8) (by decide +kernel)) (gIx 282 (by decide +kernel) rfl) (gIx 42 (by decide +kernel) rfl) (gIx 283 (by decide +kernel) rfl) rfl ⟨by decide, by decide, by decide +kernel⟩ rfl rfl ⟨by decide, by decide⟩ (Nat.le_of_ble_eq_true rfl) (Nat.le_of_ble_eq_true rfl) (Nat.le_of_ble_eq_true rfl) dX8_init_64 (fun a5 => ?_)
  refine u_wsE outb_X6 ?_
  refine u_putF hC 0 8 5 (rf := "Courtdocket") (ws1 := ((h0, .inr (8, [.ref q0, .ref q1, .ref q2, .ref q3, .ref q4, .ref q5, .null, .null])) :: ((((((([] : va_W) ++ blk_X0 Z q0 a0) ++ blk_X1 Z q1 a1) ++ blk_X2 Z q2 a2) ++ blk_X3 Z q3 a3) ++ blk_X5 Z q4 a4) ++ blk_X6 Z q5 a5))) tyX8 rfl rfl rfl (by decide) inX8 (gIx 348 (by decide +kernel) rfl) rfl tyX8_ok nmX8 rfl hnm rfl (tyX8_ok 5 (by decide)) rfl rfl (Nat.le_of_ble_eq_true rfl) dX8_init_67 ?_
  refine u_aload_n hC 0 dX8_init_70 rfl rfl ?_
  refine u_new hC 4 tyX4 rfl inX4 tyX4_ok (gIx 300 (by decide +kernel) rfl) (gIx 301 (by decide +kernel) rfl) (gIx 43 (by decide +kernel) rfl) dv_X4 (Nat.le_of_ble_eq_true rfl) (Nat.le_of_ble_eq_true rfl) dX8_init_71 (fun q6 => ?_)
  refine u_dup hC dX8_init_74 rfl ?_
  refine u_callIN hC hH (k_X4 l Z (((h0, .inr (8, [.ref q0, .ref q1, .ref q2, .ref q3, .ref q4, .ref q5, .null, .null])) :: ((((((([] : va_W) ++ blk_X0 Z q0 a0) ++ blk_X1 Z q1 a1) ++ blk_X2 Z q2 a2) ++ blk_X3 Z q3 a3) ++ blk_X5 Z q4 a4) ++ blk_X6 Z q5 a5)) ++ [(q6, .inr (4, [.int 0, .null, .null, .null]))]) ((((((((([] : va_W) ++ blk_X0 Z q0 a0) ++ blk_X1 Z q1 a1) ++ blk_X2 Z q2 a2) ++ blk_X3 Z q3 a3) ++ blk_X5 Z q4 a4) ++ blk_X6 Z q5 a5)).length + 1) q6 u_last) (hH.2.1 (.methodLinkNest RX8 53 yX4_init RX8) (by decide +kernel)) (gIx 303 (by decide +kernel) rfl) (gIx 43 (by decide +kernel) rfl) (gIx 304 (by decide +kernel) rfl) rfl ⟨by decide, by decide, by decide +kernel⟩ rfl rfl ⟨by decide, by decide⟩ (Nat.le_of_ble_eq_true rfl) (Nat.le_of_ble_eq_true rfl) (Nat.le_of_ble_eq_true rfl) dX8_init_75 (fun a6 => ?_)
  refine u_wsE outb_X4 ?_
  refine u_putF hC 0 8 6 (rf := "Courtdocket") (ws1 := ((h0, .inr (8, [.ref q0, .ref q1, .ref q2, .ref q3, .ref q4, .ref q5, .ref q6, .null])) :: (((((((([] : va_W) ++ blk_X0 Z q0 a0) ++ blk_X1 Z q1 a1) ++ blk_X2 Z q2 a2) ++ blk_X3 Z q3 a3) ++ blk_X5 Z q4 a4) ++ blk_X6 Z q5 a5) ++ blk_X4 Z q6 a6))) tyX8 rfl rfl rfl (by decide) inX8 (gIx 349 (by decide +kernel) rfl) rfl tyX8_ok nmX8 rfl hnm rfl (tyX8_ok 6 (by decide)) rfl rfl (Nat.le_of_ble_eq_true rfl) dX8_init_78 ?_
  refine u_aload_n hC 0 dX8_init_81 rfl rfl ?_
  refine u_new hC 7 tyX7 rfl inX7 tyX7_ok (gIx 324 (by decide +kernel) rfl) (gIx 325 (by decide +kernel) rfl) (gIx 44 (by decide +kernel) rfl) dv_X7 (Nat.le_of_ble_eq_true rfl) (Nat.le_of_ble_eq_true rfl) dX8_init_82 (fun q7 => ?_)
  refine u_dup hC dX8_init_85 rfl ?_
  refine u_callIN hC hH (k_X7 l Z (((h0, .inr (8, [.ref q0, .ref q1, .ref q2, .ref q3, .ref q4, .ref q5, .ref q6, .null])) :: (((((((([] : va_W) ++ blk_X0 Z q0 a0) ++ blk_X1 Z q1 a1) ++ blk_X2 Z q2 a2) ++ blk_X3 Z q3 a3) ++ blk_X5 Z q4 a4) ++ blk_X6 Z q5 a5) ++ blk_X4 Z q6 a6)) ++ [(q7, .inr (7, [.int 0, .null, .null, .null]))]) (((((((((([] : va_W) ++ blk_X0 Z q0 a0) ++ blk_X1 Z q1 a1) ++ blk_X2 Z q2 a2) ++ blk_X3 Z q3 a3) ++ blk_X5 Z q4 a4) ++ blk_X6 Z q5 a5) ++ blk_X4 Z q6 a6)).length + 1) q7 u_last) (hH.2.1 (.methodLinkNest RX8 60 yX7_init RX8) (by decide +kernel)) (gIx 327 (by decide +kernel) rfl) (gIx 44 (by decide +kernel) rfl) (gIx 328 (by decide +kernel) rfl) rfl ⟨by decide, by decide, by decide +kernel⟩ rfl rfl ⟨by decide, by decide⟩ (Nat.le_of_ble_eq_true rfl) (Nat.le_of_ble_eq_true rfl) (Nat.le_of_ble_eq_true rfl) dX8_init_86 (fun a7 => ?_)
  refine u_wsE outb_X7 ?_
  refine u_putF hC 0 8 7 (rf := "Courtdocket") (ws1 := ((h0, .inr (8, [.ref q0, .ref q1, .ref q2, .ref q3, .ref q4, .ref q5, .ref q6, .ref q7])) :: ((((((((([] : va_W) ++ blk_X0 Z q0 a0) ++ blk_X1 Z q1 a1) ++ blk_X2 Z q2 a2) ++ blk_X3 Z q3 a3) ++ blk_X5 Z q4 a4) ++ blk_X6 Z q5 a5) ++ blk_X4 Z q6 a6) ++ blk_X7 Z q7 a7))) tyX8 rfl rfl rfl (by decide) inX8 (gIx 350 (by decide +kernel) rfl) rfl tyX8_ok nmX8 rfl hnm rfl (tyX8_ok 7 (by decide)) rfl rfl (Nat.le_of_ble_eq_true rfl) dX8_init_89 ?_
  exact u_vret hC (fun g => if g = 0 then (fun i => [q0, q1, q2, q3, q4, q5, q6, q7].getD i 0) else if g < 20 then a0 (g - 10) else if g < 30 then a1 (g - 20) else if g < 40 then a2 (g - 30) else if g < 50 then a3 (g - 40) else if g < 60 then a4 (g - 50) else if g < 70 then a5 (g - 60) else if g < 80 then a6 (g - 70) else if g < 90 then a7 (g - 80) else (fun _ => 0)) hlk hrt (Nat.le_of_ble_eq_true rfl) (Nat.le_of_ble_eq_true rfl) rfl dX8_init_92
