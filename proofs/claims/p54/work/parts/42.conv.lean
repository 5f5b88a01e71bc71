/-- the memory at the beginning -/
def M0 : gM := fun k => if k = 11 then (umk 1401) else if k = 13 then frd else if k = 14 then (upd (fun _ => 0) (4 : Int32).toNatClampNeg 1) else if k = 103 then (upd (upd (upd (upd (upd (fun _ => 0) (0 : Int32).toNatClampNeg 21) (1 : Int32).toNatClampNeg 14) (2 : Int32).toNatClampNeg 30) (3 : Int32).toNatClampNeg 14) (4 : Int32).toNatClampNeg 5) else if k = 104 then (upd (fun _ => 0) (4 : Int32).toNatClampNeg 1) else if k = 107 then (uf 128 (-1)) else if k = 142 then (uf 64 (-1)) else fun _ => 0
def ad0 (h0 : Nat) (a : Nat → Nat → Nat) (q9 : Nat) : Nat → Nat := fun k => [h0, (a 0 0), (a 0 1), (a 0 2), (a 0 3), (a 0 4), (a 0 5), (a 0 6), (a 0 7), 0, 0, (a 10 0), (a 10 1), (a 10 2), (a 10 3), (a 10 4), (a 11 0), (a 11 1), (a 11 2), (a 11 3), (a 11 4), (a 11 5), (a 11 6), (a 11 7), (a 10 5), (a 20 0), (a 20 1), (a 20 2), (a 20 3), (a 20 4), (a 21 0), (a 21 1), (a 21 2), (a 21 3), (a 21 4), (a 21 5), (a 21 6), (a 21 7), (a 20 5), (a 22 0), (a 22 1), (a 22 2), (a 22 3), (a 22 4), (a 22 5), (a 22 6), (a 22 7), (a 30 0), (a 30 1), (a 30 2), (a 30 3), (a 30 4), (a 30 5), (a 30 6), (a 30 7), (a 40 0), (a 40 1), (a 40 2), (a 40 3), (a 40 4), (a 40 5), (a 40 6), (a 40 7), (a 40 8), (a 40 9), (a 40 10), (a 40 11), (a 40 12), (a 40 13), (a 50 0), (a 50 1), (a 50 2), (a 60 0), (a 60 1), (a 60 2), (a 61 0), (a 61 1), (a 61 2), (a 61 3), (a 61 4), (a 61 5), (a 61 6), (a 61 7), (a 60 3), (a 70 0), (a 70 1), (a 70 2), (a 71 0), (a 71 1), (a 71 2), (a 71 3), (a 71 4), (a 71 5), (a 71 6), (a 71 7), (a 71 8), (a 71 9), (a 71 10), (a 71 11), (a 80 0), (a 80 1), (a 80 2), 0, 0, 0, 0, 0, 0, 0, 0, 0, 0, 0, 0, 0, 0, 0, 0, 0, 0, 0, 0, 0, 0, 0, 0, 0, 0, 0, 0, 0, 0, 0, 0, 0, 0, 0, 0, 0, 0, 0, 0, 0, 0, 0, 0, q9].getD k 0
def pl0 (k : Nat) : Nat := [0, 1, 16, 39, 48, 63, 67, 80, 96, 1009, 1010, 2, 3, 4, 5, 6, 7, 8, 9, 10, 11, 12, 13, 14, 15, 17, 18, 19, 20, 21, 22, 23, 24, 25, 26, 27, 28, 29, 30, 31, 32, 33, 34, 35, 36, 37, 38, 40, 41, 42, 43, 44, 45, 46, 47, 49, 50, 51, 52, 53, 54, 55, 56, 57, 58, 59, 60, 61, 62, 64, 65, 66, 68, 69, 70, 71, 72, 73, 74, 75, 76, 77, 78, 79, 81, 82, 83, 84, 85, 86, 87, 88, 89, 90, 91, 92, 93, 94, 95, 97, 98, 99, 1102, 1103, 1104, 1105, 1106, 1107, 1108, 1109, 1110, 1111, 1112, 1113, 1114, 1115, 1116, 1117, 1118, 1119, 1120, 1121, 1122, 1123, 1124, 1125, 1126, 1127, 1128, 1129, 1130, 1131, 1132, 1133, 1134, 1135, 1136, 1137, 1138, 1139, 1140, 1141, 1142, 1143, 1144, 1145, 100].getD k 0
def stZ (Z : gZ) (ad : Nat → Nat) : gZ := (Z.1, Z.2.1, Z.2.2.1, ad)
def wsF (Z : gZ) (h0 : Nat) (a : Nat → Nat → Nat) (q9 : Nat) : va_W := out_X8 Z h0 a ++ [(q9, .inl (Z.2.2.1.1, 24, .inl (fun _ => 0)))]
def cLike (e e1 : va_E) : Prop := e = e1 ∨ ∃ (c : ClassId) (n : Nat) (f g : Nat → Option Nat), e = .inl (c, n, .inr (.inr (.inr (.inr f)))) ∧ e1 = .inl (c, n, .inr (.inr (.inr (.inr g)))) ∧ ∀ j, j < n → f j = g j
theorem cl_row {c : ClassId} (w : Nat) : (Sum.inl (c, w, Sum.inl (fun _ => 0)) : va_E) = .inl (c, w, .inl (fun j => if j < w then (0 : Int32) else 0)) := by simp
theorem arrV_ext {c : ClassId} {n : Nat} {f g : Nat → Value} (h : ∀ j, j < n → f j = g j) : arrV c n f = arrV c n g := by
  have hs : (arrV c n f).slots = (arrV c n g).slots := by
    apply Array.ext_getElem?
    intro i
    by_cases hi : i < n
    · rw [arrV_read _ _ hi, arrV_read _ _ hi, h i hi]
    · rw [Array.getElem?_eq_none (by rw [arrV_size]; omega), Array.getElem?_eq_none (by rw [arrV_size]; omega)]
  show ({ cls := c, slots := (arrV c n f).slots, vm := .none } : Cell) = { cls := c, slots := (arrV c n g).slots, vm := .none }
  rw [hs]
theorem cLike_at {D : va_G} {cl : List vw_C} {q : Nat} {e e1 : va_E} {H : Heap} (h : cLike e e1) (he : va_at D cl (q, e) H) : va_at D cl (q, e1) H := by
  rcases h with rfl | ⟨c, n, f, g, rfl, rfl, hfg⟩
  · exact he
  · have h1 : H[q]? = some (arrV c n (fun j => va_rf (f j))) := he
    show H[q]? = some (arrV c n (fun j => va_rf (g j)))
    rw [h1, arrV_ext (fun j hj => by rw [hfg j hj])]
theorem at_0 (Z : gZ) (h0 : Nat) (a : Nat → Nat → Nat) (q9 : Nat) : ∃ e, (wsF Z h0 a q9)[pl0 0]? = some (ad0 h0 a q9 0, e) ∧ cLike e (gE (stZ Z (ad0 h0 a q9)) M0 0) := ⟨_, rfl, Or.inl rfl⟩
theorem at_1 (Z : gZ) (h0 : Nat) (a : Nat → Nat → Nat) (q9 : Nat) : ∃ e, (wsF Z h0 a q9)[pl0 1]? = some (ad0 h0 a q9 1, e) ∧ cLike e (gE (stZ Z (ad0 h0 a q9)) M0 1) := ⟨_, rfl, Or.inl rfl⟩
theorem at_2 (Z : gZ) (h0 : Nat) (a : Nat → Nat → Nat) (q9 : Nat) : ∃ e, (wsF Z h0 a q9)[pl0 2]? = some (ad0 h0 a q9 2, e) ∧ cLike e (gE (stZ Z (ad0 h0 a q9)) M0 2) := ⟨_, rfl, Or.inl rfl⟩
theorem at_3 (Z : gZ) (h0 : Nat) (a : Nat → Nat → Nat) (q9 : Nat) : ∃ e, (wsF Z h0 a q9)[pl0 3]? = some (ad0 h0 a q9 3, e) ∧ cLike e (gE (stZ Z (ad0 h0 a q9)) M0 3) := ⟨_, rfl, Or.inl rfl⟩
theorem at_4 (Z : gZ) (h0 : Nat) (a : Nat → Nat → Nat) (q9 : Nat) : ∃ e, (wsF Z h0 a q9)[pl0 4]? = some (ad0 h0 a q9 4, e) ∧ cLike e (gE (stZ Z (ad0 h0 a q9)) M0 4) := ⟨_, rfl, Or.inl rfl⟩
theorem at_5 (Z : gZ) (h0 : Nat) (a : Nat → Nat → Nat) (q9 : Nat) : ∃ e, (wsF Z h0 a q9)[pl0 5]? = some (ad0 h0 a q9 5, e) ∧ cLike e (gE (stZ Z (ad0 h0 a q9)) M0 5) := ⟨_, rfl, Or.inl rfl⟩
theorem at_6 (Z : gZ) (h0 : Nat) (a : Nat → Nat → Nat) (q9 : Nat) : ∃ e, (wsF Z h0 a q9)[pl0 6]? = some (ad0 h0 a q9 6, e) ∧ cLike e (gE (stZ Z (ad0 h0 a q9)) M0 6) := ⟨_, rfl, Or.inl rfl⟩
theorem at_7 (Z : gZ) (h0 : Nat) (a : Nat → Nat → Nat) (q9 : Nat) : ∃ e, (wsF Z h0 a q9)[pl0 7]? = some (ad0 h0 a q9 7, e) ∧ cLike e (gE (stZ Z (ad0 h0 a q9)) M0 7) := ⟨_, rfl, Or.inl rfl⟩
theorem at_8 (Z : gZ) (h0 : Nat) (a : Nat → Nat → Nat) (q9 : Nat) : ∃ e, (wsF Z h0 a q9)[pl0 8]? = some (ad0 h0 a q9 8, e) ∧ cLike e (gE (stZ Z (ad0 h0 a q9)) M0 8) := ⟨_, rfl, Or.inl rfl⟩
theorem at_11 (Z : gZ) (h0 : Nat) (a : Nat → Nat → Nat) (q9 : Nat) : ∃ e, (wsF Z h0 a q9)[pl0 11]? = some (ad0 h0 a q9 11, e) ∧ cLike e (gE (stZ Z (ad0 h0 a q9)) M0 11) := ⟨_, rfl, Or.inl rfl⟩
theorem at_12 (Z : gZ) (h0 : Nat) (a : Nat → Nat → Nat) (q9 : Nat) : ∃ e, (wsF Z h0 a q9)[pl0 12]? = some (ad0 h0 a q9 12, e) ∧ cLike e (gE (stZ Z (ad0 h0 a q9)) M0 12) := ⟨_, rfl, Or.inl rfl⟩
theorem at_13 (Z : gZ) (h0 : Nat) (a : Nat → Nat → Nat) (q9 : Nat) : ∃ e, (wsF Z h0 a q9)[pl0 13]? = some (ad0 h0 a q9 13, e) ∧ cLike e (gE (stZ Z (ad0 h0 a q9)) M0 13) := ⟨_, rfl, Or.inl rfl⟩
theorem at_14 (Z : gZ) (h0 : Nat) (a : Nat → Nat → Nat) (q9 : Nat) : ∃ e, (wsF Z h0 a q9)[pl0 14]? = some (ad0 h0 a q9 14, e) ∧ cLike e (gE (stZ Z (ad0 h0 a q9)) M0 14) := ⟨_, rfl, Or.inl rfl⟩
theorem at_15 (Z : gZ) (h0 : Nat) (a : Nat → Nat → Nat) (q9 : Nat) : ∃ e, (wsF Z h0 a q9)[pl0 15]? = some (ad0 h0 a q9 15, e) ∧ cLike e (gE (stZ Z (ad0 h0 a q9)) M0 15) := ⟨_, rfl, Or.inr ⟨_, _, _, _, rfl, rfl, fun j hj => match j, hj with | 0, _ => rfl | 1, _ => rfl | 2, _ => rfl | 3, _ => rfl | 4, _ => rfl | 5, _ => rfl | 6, _ => rfl | 7, _ => rfl | n + 8, h => absurd h (by omega)⟩⟩
theorem at_16 (Z : gZ) (h0 : Nat) (a : Nat → Nat → Nat) (q9 : Nat) : ∃ e, (wsF Z h0 a q9)[pl0 16]? = some (ad0 h0 a q9 16, e) ∧ cLike e (gE (stZ Z (ad0 h0 a q9)) M0 16) := ⟨_, rfl, Or.inl (cl_row 160)⟩
theorem at_17 (Z : gZ) (h0 : Nat) (a : Nat → Nat → Nat) (q9 : Nat) : ∃ e, (wsF Z h0 a q9)[pl0 17]? = some (ad0 h0 a q9 17, e) ∧ cLike e (gE (stZ Z (ad0 h0 a q9)) M0 17) := ⟨_, rfl, Or.inl (cl_row 160)⟩
theorem at_18 (Z : gZ) (h0 : Nat) (a : Nat → Nat → Nat) (q9 : Nat) : ∃ e, (wsF Z h0 a q9)[pl0 18]? = some (ad0 h0 a q9 18, e) ∧ cLike e (gE (stZ Z (ad0 h0 a q9)) M0 18) := ⟨_, rfl, Or.inl (cl_row 160)⟩
theorem at_19 (Z : gZ) (h0 : Nat) (a : Nat → Nat → Nat) (q9 : Nat) : ∃ e, (wsF Z h0 a q9)[pl0 19]? = some (ad0 h0 a q9 19, e) ∧ cLike e (gE (stZ Z (ad0 h0 a q9)) M0 19) := ⟨_, rfl, Or.inl (cl_row 160)⟩
theorem at_20 (Z : gZ) (h0 : Nat) (a : Nat → Nat → Nat) (q9 : Nat) : ∃ e, (wsF Z h0 a q9)[pl0 20]? = some (ad0 h0 a q9 20, e) ∧ cLike e (gE (stZ Z (ad0 h0 a q9)) M0 20) := ⟨_, rfl, Or.inl (cl_row 160)⟩
theorem at_21 (Z : gZ) (h0 : Nat) (a : Nat → Nat → Nat) (q9 : Nat) : ∃ e, (wsF Z h0 a q9)[pl0 21]? = some (ad0 h0 a q9 21, e) ∧ cLike e (gE (stZ Z (ad0 h0 a q9)) M0 21) := ⟨_, rfl, Or.inl (cl_row 160)⟩
theorem at_22 (Z : gZ) (h0 : Nat) (a : Nat → Nat → Nat) (q9 : Nat) : ∃ e, (wsF Z h0 a q9)[pl0 22]? = some (ad0 h0 a q9 22, e) ∧ cLike e (gE (stZ Z (ad0 h0 a q9)) M0 22) := ⟨_, rfl, Or.inl (cl_row 160)⟩
theorem at_23 (Z : gZ) (h0 : Nat) (a : Nat → Nat → Nat) (q9 : Nat) : ∃ e, (wsF Z h0 a q9)[pl0 23]? = some (ad0 h0 a q9 23, e) ∧ cLike e (gE (stZ Z (ad0 h0 a q9)) M0 23) := ⟨_, rfl, Or.inl (cl_row 160)⟩
theorem at_24 (Z : gZ) (h0 : Nat) (a : Nat → Nat → Nat) (q9 : Nat) : ∃ e, (wsF Z h0 a q9)[pl0 24]? = some (ad0 h0 a q9 24, e) ∧ cLike e (gE (stZ Z (ad0 h0 a q9)) M0 24) := ⟨_, rfl, Or.inl rfl⟩
theorem at_25 (Z : gZ) (h0 : Nat) (a : Nat → Nat → Nat) (q9 : Nat) : ∃ e, (wsF Z h0 a q9)[pl0 25]? = some (ad0 h0 a q9 25, e) ∧ cLike e (gE (stZ Z (ad0 h0 a q9)) M0 25) := ⟨_, rfl, Or.inl rfl⟩
theorem at_26 (Z : gZ) (h0 : Nat) (a : Nat → Nat → Nat) (q9 : Nat) : ∃ e, (wsF Z h0 a q9)[pl0 26]? = some (ad0 h0 a q9 26, e) ∧ cLike e (gE (stZ Z (ad0 h0 a q9)) M0 26) := ⟨_, rfl, Or.inl rfl⟩
theorem at_27 (Z : gZ) (h0 : Nat) (a : Nat → Nat → Nat) (q9 : Nat) : ∃ e, (wsF Z h0 a q9)[pl0 27]? = some (ad0 h0 a q9 27, e) ∧ cLike e (gE (stZ Z (ad0 h0 a q9)) M0 27) := ⟨_, rfl, Or.inl rfl⟩
theorem at_28 (Z : gZ) (h0 : Nat) (a : Nat → Nat → Nat) (q9 : Nat) : ∃ e, (wsF Z h0 a q9)[pl0 28]? = some (ad0 h0 a q9 28, e) ∧ cLike e (gE (stZ Z (ad0 h0 a q9)) M0 28) := ⟨_, rfl, Or.inl rfl⟩
theorem at_29 (Z : gZ) (h0 : Nat) (a : Nat → Nat → Nat) (q9 : Nat) : ∃ e, (wsF Z h0 a q9)[pl0 29]? = some (ad0 h0 a q9 29, e) ∧ cLike e (gE (stZ Z (ad0 h0 a q9)) M0 29) := ⟨_, rfl, Or.inr ⟨_, _, _, _, rfl, rfl, fun j hj => match j, hj with | 0, _ => rfl | 1, _ => rfl | 2, _ => rfl | 3, _ => rfl | 4, _ => rfl | 5, _ => rfl | 6, _ => rfl | 7, _ => rfl | n + 8, h => absurd h (by omega)⟩⟩
theorem at_30 (Z : gZ) (h0 : Nat) (a : Nat → Nat → Nat) (q9 : Nat) : ∃ e, (wsF Z h0 a q9)[pl0 30]? = some (ad0 h0 a q9 30, e) ∧ cLike e (gE (stZ Z (ad0 h0 a q9)) M0 30) := ⟨_, rfl, Or.inl (cl_row 16)⟩
theorem at_31 (Z : gZ) (h0 : Nat) (a : Nat → Nat → Nat) (q9 : Nat) : ∃ e, (wsF Z h0 a q9)[pl0 31]? = some (ad0 h0 a q9 31, e) ∧ cLike e (gE (stZ Z (ad0 h0 a q9)) M0 31) := ⟨_, rfl, Or.inl (cl_row 16)⟩
theorem at_32 (Z : gZ) (h0 : Nat) (a : Nat → Nat → Nat) (q9 : Nat) : ∃ e, (wsF Z h0 a q9)[pl0 32]? = some (ad0 h0 a q9 32, e) ∧ cLike e (gE (stZ Z (ad0 h0 a q9)) M0 32) := ⟨_, rfl, Or.inl (cl_row 16)⟩
theorem at_33 (Z : gZ) (h0 : Nat) (a : Nat → Nat → Nat) (q9 : Nat) : ∃ e, (wsF Z h0 a q9)[pl0 33]? = some (ad0 h0 a q9 33, e) ∧ cLike e (gE (stZ Z (ad0 h0 a q9)) M0 33) := ⟨_, rfl, Or.inl (cl_row 16)⟩
theorem at_34 (Z : gZ) (h0 : Nat) (a : Nat → Nat → Nat) (q9 : Nat) : ∃ e, (wsF Z h0 a q9)[pl0 34]? = some (ad0 h0 a q9 34, e) ∧ cLike e (gE (stZ Z (ad0 h0 a q9)) M0 34) := ⟨_, rfl, Or.inl (cl_row 16)⟩
theorem at_35 (Z : gZ) (h0 : Nat) (a : Nat → Nat → Nat) (q9 : Nat) : ∃ e, (wsF Z h0 a q9)[pl0 35]? = some (ad0 h0 a q9 35, e) ∧ cLike e (gE (stZ Z (ad0 h0 a q9)) M0 35) := ⟨_, rfl, Or.inl (cl_row 16)⟩
theorem at_36 (Z : gZ) (h0 : Nat) (a : Nat → Nat → Nat) (q9 : Nat) : ∃ e, (wsF Z h0 a q9)[pl0 36]? = some (ad0 h0 a q9 36, e) ∧ cLike e (gE (stZ Z (ad0 h0 a q9)) M0 36) := ⟨_, rfl, Or.inl (cl_row 16)⟩
theorem at_37 (Z : gZ) (h0 : Nat) (a : Nat → Nat → Nat) (q9 : Nat) : ∃ e, (wsF Z h0 a q9)[pl0 37]? = some (ad0 h0 a q9 37, e) ∧ cLike e (gE (stZ Z (ad0 h0 a q9)) M0 37) := ⟨_, rfl, Or.inl (cl_row 16)⟩
theorem at_38 (Z : gZ) (h0 : Nat) (a : Nat → Nat → Nat) (q9 : Nat) : ∃ e, (wsF Z h0 a q9)[pl0 38]? = some (ad0 h0 a q9 38, e) ∧ cLike e (gE (stZ Z (ad0 h0 a q9)) M0 38) := ⟨_, rfl, Or.inr ⟨_, _, _, _, rfl, rfl, fun j hj => match j, hj with | 0, _ => rfl | 1, _ => rfl | 2, _ => rfl | 3, _ => rfl | 4, _ => rfl | 5, _ => rfl | 6, _ => rfl | 7, _ => rfl | n + 8, h => absurd h (by omega)⟩⟩
theorem at_39 (Z : gZ) (h0 : Nat) (a : Nat → Nat → Nat) (q9 : Nat) : ∃ e, (wsF Z h0 a q9)[pl0 39]? = some (ad0 h0 a q9 39, e) ∧ cLike e (gE (stZ Z (ad0 h0 a q9)) M0 39) := ⟨_, rfl, Or.inl (cl_row 16)⟩
theorem at_40 (Z : gZ) (h0 : Nat) (a : Nat → Nat → Nat) (q9 : Nat) : ∃ e, (wsF Z h0 a q9)[pl0 40]? = some (ad0 h0 a q9 40, e) ∧ cLike e (gE (stZ Z (ad0 h0 a q9)) M0 40) := ⟨_, rfl, Or.inl (cl_row 16)⟩
theorem at_41 (Z : gZ) (h0 : Nat) (a : Nat → Nat → Nat) (q9 : Nat) : ∃ e, (wsF Z h0 a q9)[pl0 41]? = some (ad0 h0 a q9 41, e) ∧ cLike e (gE (stZ Z (ad0 h0 a q9)) M0 41) := ⟨_, rfl, Or.inl (cl_row 16)⟩
theorem at_42 (Z : gZ) (h0 : Nat) (a : Nat → Nat → Nat) (q9 : Nat) : ∃ e, (wsF Z h0 a q9)[pl0 42]? = some (ad0 h0 a q9 42, e) ∧ cLike e (gE (stZ Z (ad0 h0 a q9)) M0 42) := ⟨_, rfl, Or.inl (cl_row 16)⟩
theorem at_43 (Z : gZ) (h0 : Nat) (a : Nat → Nat → Nat) (q9 : Nat) : ∃ e, (wsF Z h0 a q9)[pl0 43]? = some (ad0 h0 a q9 43, e) ∧ cLike e (gE (stZ Z (ad0 h0 a q9)) M0 43) := ⟨_, rfl, Or.inl (cl_row 16)⟩
theorem at_44 (Z : gZ) (h0 : Nat) (a : Nat → Nat → Nat) (q9 : Nat) : ∃ e, (wsF Z h0 a q9)[pl0 44]? = some (ad0 h0 a q9 44, e) ∧ cLike e (gE (stZ Z (ad0 h0 a q9)) M0 44) := ⟨_, rfl, Or.inl (cl_row 16)⟩
theorem at_45 (Z : gZ) (h0 : Nat) (a : Nat → Nat → Nat) (q9 : Nat) : ∃ e, (wsF Z h0 a q9)[pl0 45]? = some (ad0 h0 a q9 45, e) ∧ cLike e (gE (stZ Z (ad0 h0 a q9)) M0 45) := ⟨_, rfl, Or.inl (cl_row 16)⟩
theorem at_46 (Z : gZ) (h0 : Nat) (a : Nat → Nat → Nat) (q9 : Nat) : ∃ e, (wsF Z h0 a q9)[pl0 46]? = some (ad0 h0 a q9 46, e) ∧ cLike e (gE (stZ Z (ad0 h0 a q9)) M0 46) := ⟨_, rfl, Or.inl (cl_row 16)⟩
theorem at_47 (Z : gZ) (h0 : Nat) (a : Nat → Nat → Nat) (q9 : Nat) : ∃ e, (wsF Z h0 a q9)[pl0 47]? = some (ad0 h0 a q9 47, e) ∧ cLike e (gE (stZ Z (ad0 h0 a q9)) M0 47) := ⟨_, rfl, Or.inl rfl⟩
theorem at_48 (Z : gZ) (h0 : Nat) (a : Nat → Nat → Nat) (q9 : Nat) : ∃ e, (wsF Z h0 a q9)[pl0 48]? = some (ad0 h0 a q9 48, e) ∧ cLike e (gE (stZ Z (ad0 h0 a q9)) M0 48) := ⟨_, rfl, Or.inl rfl⟩
theorem at_49 (Z : gZ) (h0 : Nat) (a : Nat → Nat → Nat) (q9 : Nat) : ∃ e, (wsF Z h0 a q9)[pl0 49]? = some (ad0 h0 a q9 49, e) ∧ cLike e (gE (stZ Z (ad0 h0 a q9)) M0 49) := ⟨_, rfl, Or.inl rfl⟩
theorem at_50 (Z : gZ) (h0 : Nat) (a : Nat → Nat → Nat) (q9 : Nat) : ∃ e, (wsF Z h0 a q9)[pl0 50]? = some (ad0 h0 a q9 50, e) ∧ cLike e (gE (stZ Z (ad0 h0 a q9)) M0 50) := ⟨_, rfl, Or.inl rfl⟩
theorem at_51 (Z : gZ) (h0 : Nat) (a : Nat → Nat → Nat) (q9 : Nat) : ∃ e, (wsF Z h0 a q9)[pl0 51]? = some (ad0 h0 a q9 51, e) ∧ cLike e (gE (stZ Z (ad0 h0 a q9)) M0 51) := ⟨_, rfl, Or.inl rfl⟩
theorem at_52 (Z : gZ) (h0 : Nat) (a : Nat → Nat → Nat) (q9 : Nat) : ∃ e, (wsF Z h0 a q9)[pl0 52]? = some (ad0 h0 a q9 52, e) ∧ cLike e (gE (stZ Z (ad0 h0 a q9)) M0 52) := ⟨_, rfl, Or.inl rfl⟩
theorem at_53 (Z : gZ) (h0 : Nat) (a : Nat → Nat → Nat) (q9 : Nat) : ∃ e, (wsF Z h0 a q9)[pl0 53]? = some (ad0 h0 a q9 53, e) ∧ cLike e (gE (stZ Z (ad0 h0 a q9)) M0 53) := ⟨_, rfl, Or.inl rfl⟩
theorem at_54 (Z : gZ) (h0 : Nat) (a : Nat → Nat → Nat) (q9 : Nat) : ∃ e, (wsF Z h0 a q9)[pl0 54]? = some (ad0 h0 a q9 54, e) ∧ cLike e (gE (stZ Z (ad0 h0 a q9)) M0 54) := ⟨_, rfl, Or.inl rfl⟩
theorem at_55 (Z : gZ) (h0 : Nat) (a : Nat → Nat → Nat) (q9 : Nat) : ∃ e, (wsF Z h0 a q9)[pl0 55]? = some (ad0 h0 a q9 55, e) ∧ cLike e (gE (stZ Z (ad0 h0 a q9)) M0 55) := ⟨_, rfl, Or.inl rfl⟩
theorem at_56 (Z : gZ) (h0 : Nat) (a : Nat → Nat → Nat) (q9 : Nat) : ∃ e, (wsF Z h0 a q9)[pl0 56]? = some (ad0 h0 a q9 56, e) ∧ cLike e (gE (stZ Z (ad0 h0 a q9)) M0 56) := ⟨_, rfl, Or.inl rfl⟩
theorem at_57 (Z : gZ) (h0 : Nat) (a : Nat → Nat → Nat) (q9 : Nat) : ∃ e, (wsF Z h0 a q9)[pl0 57]? = some (ad0 h0 a q9 57, e) ∧ cLike e (gE (stZ Z (ad0 h0 a q9)) M0 57) := ⟨_, rfl, Or.inl rfl⟩
theorem at_58 (Z : gZ) (h0 : Nat) (a : Nat → Nat → Nat) (q9 : Nat) : ∃ e, (wsF Z h0 a q9)[pl0 58]? = some (ad0 h0 a q9 58, e) ∧ cLike e (gE (stZ Z (ad0 h0 a q9)) M0 58) := ⟨_, rfl, Or.inl rfl⟩
theorem at_59 (Z : gZ) (h0 : Nat) (a : Nat → Nat → Nat) (q9 : Nat) : ∃ e, (wsF Z h0 a q9)[pl0 59]? = some (ad0 h0 a q9 59, e) ∧ cLike e (gE (stZ Z (ad0 h0 a q9)) M0 59) := ⟨_, rfl, Or.inl rfl⟩
theorem at_60 (Z : gZ) (h0 : Nat) (a : Nat → Nat → Nat) (q9 : Nat) : ∃ e, (wsF Z h0 a q9)[pl0 60]? = some (ad0 h0 a q9 60, e) ∧ cLike e (gE (stZ Z (ad0 h0 a q9)) M0 60) := ⟨_, rfl, Or.inl rfl⟩
theorem at_61 (Z : gZ) (h0 : Nat) (a : Nat → Nat → Nat) (q9 : Nat) : ∃ e, (wsF Z h0 a q9)[pl0 61]? = some (ad0 h0 a q9 61, e) ∧ cLike e (gE (stZ Z (ad0 h0 a q9)) M0 61) := ⟨_, rfl, Or.inl rfl⟩
theorem at_62 (Z : gZ) (h0 : Nat) (a : Nat → Nat → Nat) (q9 : Nat) : ∃ e, (wsF Z h0 a q9)[pl0 62]? = some (ad0 h0 a q9 62, e) ∧ cLike e (gE (stZ Z (ad0 h0 a q9)) M0 62) := ⟨_, rfl, Or.inl rfl⟩
theorem at_63 (Z : gZ) (h0 : Nat) (a : Nat → Nat → Nat) (q9 : Nat) : ∃ e, (wsF Z h0 a q9)[pl0 63]? = some (ad0 h0 a q9 63, e) ∧ cLike e (gE (stZ Z (ad0 h0 a q9)) M0 63) := ⟨_, rfl, Or.inl rfl⟩
theorem at_64 (Z : gZ) (h0 : Nat) (a : Nat → Nat → Nat) (q9 : Nat) : ∃ e, (wsF Z h0 a q9)[pl0 64]? = some (ad0 h0 a q9 64, e) ∧ cLike e (gE (stZ Z (ad0 h0 a q9)) M0 64) := ⟨_, rfl, Or.inl rfl⟩
theorem at_65 (Z : gZ) (h0 : Nat) (a : Nat → Nat → Nat) (q9 : Nat) : ∃ e, (wsF Z h0 a q9)[pl0 65]? = some (ad0 h0 a q9 65, e) ∧ cLike e (gE (stZ Z (ad0 h0 a q9)) M0 65) := ⟨_, rfl, Or.inl rfl⟩
theorem at_66 (Z : gZ) (h0 : Nat) (a : Nat → Nat → Nat) (q9 : Nat) : ∃ e, (wsF Z h0 a q9)[pl0 66]? = some (ad0 h0 a q9 66, e) ∧ cLike e (gE (stZ Z (ad0 h0 a q9)) M0 66) := ⟨_, rfl, Or.inl rfl⟩
theorem at_67 (Z : gZ) (h0 : Nat) (a : Nat → Nat → Nat) (q9 : Nat) : ∃ e, (wsF Z h0 a q9)[pl0 67]? = some (ad0 h0 a q9 67, e) ∧ cLike e (gE (stZ Z (ad0 h0 a q9)) M0 67) := ⟨_, rfl, Or.inl rfl⟩
theorem at_68 (Z : gZ) (h0 : Nat) (a : Nat → Nat → Nat) (q9 : Nat) : ∃ e, (wsF Z h0 a q9)[pl0 68]? = some (ad0 h0 a q9 68, e) ∧ cLike e (gE (stZ Z (ad0 h0 a q9)) M0 68) := ⟨_, rfl, Or.inl rfl⟩
theorem at_69 (Z : gZ) (h0 : Nat) (a : Nat → Nat → Nat) (q9 : Nat) : ∃ e, (wsF Z h0 a q9)[pl0 69]? = some (ad0 h0 a q9 69, e) ∧ cLike e (gE (stZ Z (ad0 h0 a q9)) M0 69) := ⟨_, rfl, Or.inl rfl⟩
theorem at_70 (Z : gZ) (h0 : Nat) (a : Nat → Nat → Nat) (q9 : Nat) : ∃ e, (wsF Z h0 a q9)[pl0 70]? = some (ad0 h0 a q9 70, e) ∧ cLike e (gE (stZ Z (ad0 h0 a q9)) M0 70) := ⟨_, rfl, Or.inl rfl⟩
theorem at_71 (Z : gZ) (h0 : Nat) (a : Nat → Nat → Nat) (q9 : Nat) : ∃ e, (wsF Z h0 a q9)[pl0 71]? = some (ad0 h0 a q9 71, e) ∧ cLike e (gE (stZ Z (ad0 h0 a q9)) M0 71) := ⟨_, rfl, Or.inl rfl⟩
theorem at_72 (Z : gZ) (h0 : Nat) (a : Nat → Nat → Nat) (q9 : Nat) : ∃ e, (wsF Z h0 a q9)[pl0 72]? = some (ad0 h0 a q9 72, e) ∧ cLike e (gE (stZ Z (ad0 h0 a q9)) M0 72) := ⟨_, rfl, Or.inl rfl⟩
theorem at_73 (Z : gZ) (h0 : Nat) (a : Nat → Nat → Nat) (q9 : Nat) : ∃ e, (wsF Z h0 a q9)[pl0 73]? = some (ad0 h0 a q9 73, e) ∧ cLike e (gE (stZ Z (ad0 h0 a q9)) M0 73) := ⟨_, rfl, Or.inl rfl⟩
theorem at_74 (Z : gZ) (h0 : Nat) (a : Nat → Nat → Nat) (q9 : Nat) : ∃ e, (wsF Z h0 a q9)[pl0 74]? = some (ad0 h0 a q9 74, e) ∧ cLike e (gE (stZ Z (ad0 h0 a q9)) M0 74) := ⟨_, rfl, Or.inr ⟨_, _, _, _, rfl, rfl, fun j hj => match j, hj with | 0, _ => rfl | 1, _ => rfl | 2, _ => rfl | 3, _ => rfl | 4, _ => rfl | 5, _ => rfl | 6, _ => rfl | 7, _ => rfl | n + 8, h => absurd h (by omega)⟩⟩
theorem at_75 (Z : gZ) (h0 : Nat) (a : Nat → Nat → Nat) (q9 : Nat) : ∃ e, (wsF Z h0 a q9)[pl0 75]? = some (ad0 h0 a q9 75, e) ∧ cLike e (gE (stZ Z (ad0 h0 a q9)) M0 75) := ⟨_, rfl, Or.inl (cl_row 8)⟩
theorem at_76 (Z : gZ) (h0 : Nat) (a : Nat → Nat → Nat) (q9 : Nat) : ∃ e, (wsF Z h0 a q9)[pl0 76]? = some (ad0 h0 a q9 76, e) ∧ cLike e (gE (stZ Z (ad0 h0 a q9)) M0 76) := ⟨_, rfl, Or.inl (cl_row 8)⟩
theorem at_77 (Z : gZ) (h0 : Nat) (a : Nat → Nat → Nat) (q9 : Nat) : ∃ e, (wsF Z h0 a q9)[pl0 77]? = some (ad0 h0 a q9 77, e) ∧ cLike e (gE (stZ Z (ad0 h0 a q9)) M0 77) := ⟨_, rfl, Or.inl (cl_row 8)⟩
theorem at_78 (Z : gZ) (h0 : Nat) (a : Nat → Nat → Nat) (q9 : Nat) : ∃ e, (wsF Z h0 a q9)[pl0 78]? = some (ad0 h0 a q9 78, e) ∧ cLike e (gE (stZ Z (ad0 h0 a q9)) M0 78) := ⟨_, rfl, Or.inl (cl_row 8)⟩
theorem at_79 (Z : gZ) (h0 : Nat) (a : Nat → Nat → Nat) (q9 : Nat) : ∃ e, (wsF Z h0 a q9)[pl0 79]? = some (ad0 h0 a q9 79, e) ∧ cLike e (gE (stZ Z (ad0 h0 a q9)) M0 79) := ⟨_, rfl, Or.inl (cl_row 8)⟩
theorem at_80 (Z : gZ) (h0 : Nat) (a : Nat → Nat → Nat) (q9 : Nat) : ∃ e, (wsF Z h0 a q9)[pl0 80]? = some (ad0 h0 a q9 80, e) ∧ cLike e (gE (stZ Z (ad0 h0 a q9)) M0 80) := ⟨_, rfl, Or.inl (cl_row 8)⟩
theorem at_81 (Z : gZ) (h0 : Nat) (a : Nat → Nat → Nat) (q9 : Nat) : ∃ e, (wsF Z h0 a q9)[pl0 81]? = some (ad0 h0 a q9 81, e) ∧ cLike e (gE (stZ Z (ad0 h0 a q9)) M0 81) := ⟨_, rfl, Or.inl (cl_row 8)⟩
theorem at_82 (Z : gZ) (h0 : Nat) (a : Nat → Nat → Nat) (q9 : Nat) : ∃ e, (wsF Z h0 a q9)[pl0 82]? = some (ad0 h0 a q9 82, e) ∧ cLike e (gE (stZ Z (ad0 h0 a q9)) M0 82) := ⟨_, rfl, Or.inl (cl_row 8)⟩
theorem at_83 (Z : gZ) (h0 : Nat) (a : Nat → Nat → Nat) (q9 : Nat) : ∃ e, (wsF Z h0 a q9)[pl0 83]? = some (ad0 h0 a q9 83, e) ∧ cLike e (gE (stZ Z (ad0 h0 a q9)) M0 83) := ⟨_, rfl, Or.inl rfl⟩
theorem at_84 (Z : gZ) (h0 : Nat) (a : Nat → Nat → Nat) (q9 : Nat) : ∃ e, (wsF Z h0 a q9)[pl0 84]? = some (ad0 h0 a q9 84, e) ∧ cLike e (gE (stZ Z (ad0 h0 a q9)) M0 84) := ⟨_, rfl, Or.inl rfl⟩
theorem at_85 (Z : gZ) (h0 : Nat) (a : Nat → Nat → Nat) (q9 : Nat) : ∃ e, (wsF Z h0 a q9)[pl0 85]? = some (ad0 h0 a q9 85, e) ∧ cLike e (gE (stZ Z (ad0 h0 a q9)) M0 85) := ⟨_, rfl, Or.inl rfl⟩
theorem at_86 (Z : gZ) (h0 : Nat) (a : Nat → Nat → Nat) (q9 : Nat) : ∃ e, (wsF Z h0 a q9)[pl0 86]? = some (ad0 h0 a q9 86, e) ∧ cLike e (gE (stZ Z (ad0 h0 a q9)) M0 86) := ⟨_, rfl, Or.inr ⟨_, _, _, _, rfl, rfl, fun j hj => match j, hj with | 0, _ => rfl | 1, _ => rfl | 2, _ => rfl | 3, _ => rfl | 4, _ => rfl | 5, _ => rfl | 6, _ => rfl | 7, _ => rfl | 8, _ => rfl | 9, _ => rfl | 10, _ => rfl | 11, _ => rfl | n + 12, h => absurd h (by omega)⟩⟩
theorem at_87 (Z : gZ) (h0 : Nat) (a : Nat → Nat → Nat) (q9 : Nat) : ∃ e, (wsF Z h0 a q9)[pl0 87]? = some (ad0 h0 a q9 87, e) ∧ cLike e (gE (stZ Z (ad0 h0 a q9)) M0 87) := ⟨_, rfl, Or.inl (cl_row 2)⟩
theorem at_88 (Z : gZ) (h0 : Nat) (a : Nat → Nat → Nat) (q9 : Nat) : ∃ e, (wsF Z h0 a q9)[pl0 88]? = some (ad0 h0 a q9 88, e) ∧ cLike e (gE (stZ Z (ad0 h0 a q9)) M0 88) := ⟨_, rfl, Or.inl (cl_row 2)⟩
theorem at_89 (Z : gZ) (h0 : Nat) (a : Nat → Nat → Nat) (q9 : Nat) : ∃ e, (wsF Z h0 a q9)[pl0 89]? = some (ad0 h0 a q9 89, e) ∧ cLike e (gE (stZ Z (ad0 h0 a q9)) M0 89) := ⟨_, rfl, Or.inl (cl_row 2)⟩
theorem at_90 (Z : gZ) (h0 : Nat) (a : Nat → Nat → Nat) (q9 : Nat) : ∃ e, (wsF Z h0 a q9)[pl0 90]? = some (ad0 h0 a q9 90, e) ∧ cLike e (gE (stZ Z (ad0 h0 a q9)) M0 90) := ⟨_, rfl, Or.inl (cl_row 2)⟩
theorem at_91 (Z : gZ) (h0 : Nat) (a : Nat → Nat → Nat) (q9 : Nat) : ∃ e, (wsF Z h0 a q9)[pl0 91]? = some (ad0 h0 a q9 91, e) ∧ cLike e (gE (stZ Z (ad0 h0 a q9)) M0 91) := ⟨_, rfl, Or.inl (cl_row 2)⟩
theorem at_92 (Z : gZ) (h0 : Nat) (a : Nat → Nat → Nat) (q9 : Nat) : ∃ e, (wsF Z h0 a q9)[pl0 92]? = some (ad0 h0 a q9 92, e) ∧ cLike e (gE (stZ Z (ad0 h0 a q9)) M0 92) := ⟨_, rfl, Or.inl (cl_row 2)⟩
theorem at_93 (Z : gZ) (h0 : Nat) (a : Nat → Nat → Nat) (q9 : Nat) : ∃ e, (wsF Z h0 a q9)[pl0 93]? = some (ad0 h0 a q9 93, e) ∧ cLike e (gE (stZ Z (ad0 h0 a q9)) M0 93) := ⟨_, rfl, Or.inl (cl_row 2)⟩
theorem at_94 (Z : gZ) (h0 : Nat) (a : Nat → Nat → Nat) (q9 : Nat) : ∃ e, (wsF Z h0 a q9)[pl0 94]? = some (ad0 h0 a q9 94, e) ∧ cLike e (gE (stZ Z (ad0 h0 a q9)) M0 94) := ⟨_, rfl, Or.inl (cl_row 2)⟩
theorem at_95 (Z : gZ) (h0 : Nat) (a : Nat → Nat → Nat) (q9 : Nat) : ∃ e, (wsF Z h0 a q9)[pl0 95]? = some (ad0 h0 a q9 95, e) ∧ cLike e (gE (stZ Z (ad0 h0 a q9)) M0 95) := ⟨_, rfl, Or.inl (cl_row 2)⟩
theorem at_96 (Z : gZ) (h0 : Nat) (a : Nat → Nat → Nat) (q9 : Nat) : ∃ e, (wsF Z h0 a q9)[pl0 96]? = some (ad0 h0 a q9 96, e) ∧ cLike e (gE (stZ Z (ad0 h0 a q9)) M0 96) := ⟨_, rfl, Or.inl (cl_row 2)⟩
theorem at_97 (Z : gZ) (h0 : Nat) (a : Nat → Nat → Nat) (q9 : Nat) : ∃ e, (wsF Z h0 a q9)[pl0 97]? = some (ad0 h0 a q9 97, e) ∧ cLike e (gE (stZ Z (ad0 h0 a q9)) M0 97) := ⟨_, rfl, Or.inl (cl_row 2)⟩
theorem at_98 (Z : gZ) (h0 : Nat) (a : Nat → Nat → Nat) (q9 : Nat) : ∃ e, (wsF Z h0 a q9)[pl0 98]? = some (ad0 h0 a q9 98, e) ∧ cLike e (gE (stZ Z (ad0 h0 a q9)) M0 98) := ⟨_, rfl, Or.inl (cl_row 2)⟩
theorem at_99 (Z : gZ) (h0 : Nat) (a : Nat → Nat → Nat) (q9 : Nat) : ∃ e, (wsF Z h0 a q9)[pl0 99]? = some (ad0 h0 a q9 99, e) ∧ cLike e (gE (stZ Z (ad0 h0 a q9)) M0 99) := ⟨_, rfl, Or.inl rfl⟩
theorem at_100 (Z : gZ) (h0 : Nat) (a : Nat → Nat → Nat) (q9 : Nat) : ∃ e, (wsF Z h0 a q9)[pl0 100]? = some (ad0 h0 a q9 100, e) ∧ cLike e (gE (stZ Z (ad0 h0 a q9)) M0 100) := ⟨_, rfl, Or.inl rfl⟩
theorem at_101 (Z : gZ) (h0 : Nat) (a : Nat → Nat → Nat) (q9 : Nat) : ∃ e, (wsF Z h0 a q9)[pl0 101]? = some (ad0 h0 a q9 101, e) ∧ cLike e (gE (stZ Z (ad0 h0 a q9)) M0 101) := ⟨_, rfl, Or.inl rfl⟩
theorem at_146 (Z : gZ) (h0 : Nat) (a : Nat → Nat → Nat) (q9 : Nat) : ∃ e, (wsF Z h0 a q9)[pl0 146]? = some (ad0 h0 a q9 146, e) ∧ cLike e (gE (stZ Z (ad0 h0 a q9)) M0 146) := ⟨_, rfl, Or.inl rfl⟩
theorem atb_0 (Z : gZ) (h0 : Nat) (a : Nat → Nat → Nat) (q9 : Nat) (k : Nat) (h1 : 0 ≤ k) (h2 : k < 9) : ∃ e, (wsF Z h0 a q9)[pl0 k]? = some (ad0 h0 a q9 k, e) ∧ cLike e (gE (stZ Z (ad0 h0 a q9)) M0 k) := by
  obtain ⟨d, rfl⟩ : ∃ d, k = 0 + d := ⟨k - 0, by omega⟩
  match d, h2 with
  | 0, _ => exact at_0 Z h0 a q9
  | 1, _ => exact at_1 Z h0 a q9
  | 2, _ => exact at_2 Z h0 a q9
  | 3, _ => exact at_3 Z h0 a q9
  | 4, _ => exact at_4 Z h0 a q9
  | 5, _ => exact at_5 Z h0 a q9
  | 6, _ => exact at_6 Z h0 a q9
  | 7, _ => exact at_7 Z h0 a q9
  | 8, _ => exact at_8 Z h0 a q9
  | n + 9, h => omega
theorem atb_11 (Z : gZ) (h0 : Nat) (a : Nat → Nat → Nat) (q9 : Nat) (k : Nat) (h1 : 11 ≤ k) (h2 : k < 27) : ∃ e, (wsF Z h0 a q9)[pl0 k]? = some (ad0 h0 a q9 k, e) ∧ cLike e (gE (stZ Z (ad0 h0 a q9)) M0 k) := by
  obtain ⟨d, rfl⟩ : ∃ d, k = 11 + d := ⟨k - 11, by omega⟩
  match d, h2 with
  | 0, _ => exact at_11 Z h0 a q9
  | 1, _ => exact at_12 Z h0 a q9
  | 2, _ => exact at_13 Z h0 a q9
  | 3, _ => exact at_14 Z h0 a q9
  | 4, _ => exact at_15 Z h0 a q9
  | 5, _ => exact at_16 Z h0 a q9
  | 6, _ => exact at_17 Z h0 a q9
  | 7, _ => exact at_18 Z h0 a q9
  | 8, _ => exact at_19 Z h0 a q9
  | 9, _ => exact at_20 Z h0 a q9
  | 10, _ => exact at_21 Z h0 a q9
  | 11, _ => exact at_22 Z h0 a q9
  | 12, _ => exact at_23 Z h0 a q9
  | 13, _ => exact at_24 Z h0 a q9
  | 14, _ => exact at_25 Z h0 a q9
  | 15, _ => exact at_26 Z h0 a q9
  | n + 16, h => omega
theorem atb_27 (Z : gZ) (h0 : Nat) (a : Nat → Nat → Nat) (q9 : Nat) (k : Nat) (h1 : 27 ≤ k) (h2 : k < 43) : ∃ e, (wsF Z h0 a q9)[pl0 k]? = some (ad0 h0 a q9 k, e) ∧ cLike e (gE (stZ Z (ad0 h0 a q9)) M0 k) := by
  obtain ⟨d, rfl⟩ : ∃ d, k = 27 + d := ⟨k - 27, by omega⟩
  match d, h2 with
  | 0, _ => exact at_27 Z h0 a q9
  | 1, _ => exact at_28 Z h0 a q9
  | 2, _ => exact at_29 Z h0 a q9
  | 3, _ => exact at_30 Z h0 a q9
  | 4, _ => exact at_31 Z h0 a q9
  | 5, _ => exact at_32 Z h0 a q9
  | 6, _ => exact at_33 Z h0 a q9
  | 7, _ => exact at_34 Z h0 a q9
  | 8, _ => exact at_35 Z h0 a q9
  | 9, _ => exact at_36 Z h0 a q9
  | 10, _ => exact at_37 Z h0 a q9
  | 11, _ => exact at_38 Z h0 a q9
  | 12, _ => exact at_39 Z h0 a q9
  | 13, _ => exact at_40 Z h0 a q9
  | 14, _ => exact at_41 Z h0 a q9
  | 15, _ => exact at_42 Z h0 a q9
  | n + 16, h => omega
theorem atb_43 (Z : gZ) (h0 : Nat) (a : Nat → Nat → Nat) (q9 : Nat) (k : Nat) (h1 : 43 ≤ k) (h2 : k < 59) : ∃ e, (wsF Z h0 a q9)[pl0 k]? = some (ad0 h0 a q9 k, e) ∧ cLike e (gE (stZ Z (ad0 h0 a q9)) M0 k) := by
  obtain ⟨d, rfl⟩ : ∃ d, k = 43 + d := ⟨k - 43, by omega⟩
  match d, h2 with
  | 0, _ => exact at_43 Z h0 a q9
  | 1, _ => exact at_44 Z h0 a q9
  | 2, _ => exact at_45 Z h0 a q9
  | 3, _ => exact at_46 Z h0 a q9
  | 4, _ => exact at_47 Z h0 a q9
  | 5, _ => exact at_48 Z h0 a q9
  | 6, _ => exact at_49 Z h0 a q9
  | 7, _ => exact at_50 Z h0 a q9
  | 8, _ => exact at_51 Z h0 a q9
  | 9, _ => exact at_52 Z h0 a q9
  | 10, _ => exact at_53 Z h0 a q9
  | 11, _ => exact at_54 Z h0 a q9
  | 12, _ => exact at_55 Z h0 a q9
  | 13, _ => exact at_56 Z h0 a q9
  | 14, _ => exact at_57 Z h0 a q9
  | 15, _ => exact at_58 Z h0 a q9
  | n + 16, h => omega
theorem atb_59 (Z : gZ) (h0 : Nat) (a : Nat → Nat → Nat) (q9 : Nat) (k : Nat) (h1 : 59 ≤ k) (h2 : k < 75) : ∃ e, (wsF Z h0 a q9)[pl0 k]? = some (ad0 h0 a q9 k, e) ∧ cLike e (gE (stZ Z (ad0 h0 a q9)) M0 k) := by
  obtain ⟨d, rfl⟩ : ∃ d, k = 59 + d := ⟨k - 59, by omega⟩
  match d, h2 with
  | 0, _ => exact at_59 Z h0 a q9
  | 1, _ => exact at_60 Z h0 a q9
  | 2, _ => exact at_61 Z h0 a q9
  | 3, _ => exact at_62 Z h0 a q9
  | 4, _ => exact at_63 Z h0 a q9
  | 5, _ => exact at_64 Z h0 a q9
  | 6, _ => exact at_65 Z h0 a q9
  | 7, _ => exact at_66 Z h0 a q9
  | 8, _ => exact at_67 Z h0 a q9
  | 9, _ => exact at_68 Z h0 a q9
  | 10, _ => exact at_69 Z h0 a q9
  | 11, _ => exact at_70 Z h0 a q9
  | 12, _ => exact at_71 Z h0 a q9
  | 13, _ => exact at_72 Z h0 a q9
  | 14, _ => exact at_73 Z h0 a q9
  | 15, _ => exact at_74 Z h0 a q9
  | n + 16, h => omega
theorem atb_75 (Z : gZ) (h0 : Nat) (a : Nat → Nat → Nat) (q9 : Nat) (k : Nat) (h1 : 75 ≤ k) (h2 : k < 91) : ∃ e, (wsF Z h0 a q9)[pl0 k]? = some (ad0 h0 a q9 k, e) ∧ cLike e (gE (stZ Z (ad0 h0 a q9)) M0 k) := by
  obtain ⟨d, rfl⟩ : ∃ d, k = 75 + d := ⟨k - 75, by omega⟩
  match d, h2 with
  | 0, _ => exact at_75 Z h0 a q9
  | 1, _ => exact at_76 Z h0 a q9
  | 2, _ => exact at_77 Z h0 a q9
  | 3, _ => exact at_78 Z h0 a q9
  | 4, _ => exact at_79 Z h0 a q9
  | 5, _ => exact at_80 Z h0 a q9
  | 6, _ => exact at_81 Z h0 a q9
  | 7, _ => exact at_82 Z h0 a q9
  | 8, _ => exact at_83 Z h0 a q9
  | 9, _ => exact at_84 Z h0 a q9
  | 10, _ => exact at_85 Z h0 a q9
  | 11, _ => exact at_86 Z h0 a q9
  | 12, _ => exact at_87 Z h0 a q9
  | 13, _ => exact at_88 Z h0 a q9
  | 14, _ => exact at_89 Z h0 a q9
  | 15, _ => exact at_90 Z h0 a q9
  | n + 16, h => omega
theorem atb_91 (Z : gZ) (h0 : Nat) (a : Nat → Nat → Nat) (q9 : Nat) (k : Nat) (h1 : 91 ≤ k) (h2 : k < 102) : ∃ e, (wsF Z h0 a q9)[pl0 k]? = some (ad0 h0 a q9 k, e) ∧ cLike e (gE (stZ Z (ad0 h0 a q9)) M0 k) := by
  obtain ⟨d, rfl⟩ : ∃ d, k = 91 + d := ⟨k - 91, by omega⟩
  match d, h2 with
  | 0, _ => exact at_91 Z h0 a q9
  | 1, _ => exact at_92 Z h0 a q9
  | 2, _ => exact at_93 Z h0 a q9
  | 3, _ => exact at_94 Z h0 a q9
  | 4, _ => exact at_95 Z h0 a q9
  | 5, _ => exact at_96 Z h0 a q9
  | 6, _ => exact at_97 Z h0 a q9
  | 7, _ => exact at_98 Z h0 a q9
  | 8, _ => exact at_99 Z h0 a q9
  | 9, _ => exact at_100 Z h0 a q9
  | 10, _ => exact at_101 Z h0 a q9
  | n + 11, h => omega
theorem at_all (Z : gZ) (h0 : Nat) (a : Nat → Nat → Nat) (q9 : Nat) (k : Nat) (hk : gOk k) : ∃ e, (wsF Z h0 a q9)[pl0 k]? = some (ad0 h0 a q9 k, e) ∧ cLike e (gE (stZ Z (ad0 h0 a q9)) M0 k) := by
  have hk : k < 9 ∨ (11 ≤ k ∧ k < 102) ∨ k = 146 := hk
  by_cases c0 : k < 9
  · exact atb_0 Z h0 a q9 k (by omega) c0
  by_cases c146 : k = 146
  · subst c146
    exact at_146 Z h0 a q9
  by_cases c11 : k < 27
  · exact atb_11 Z h0 a q9 k (by omega) c11
  by_cases c27 : k < 43
  · exact atb_27 Z h0 a q9 k (by omega) c27
  by_cases c43 : k < 59
  · exact atb_43 Z h0 a q9 k (by omega) c43
  by_cases c59 : k < 75
  · exact atb_59 Z h0 a q9 k (by omega) c59
  by_cases c75 : k < 91
  · exact atb_75 Z h0 a q9 k (by omega) c75
  exact atb_91 Z h0 a q9 k (by omega) (by omega)
theorem pl0_inj : ∀ i, i < 147 → ∀ j, j < 147 → pl0 i = pl0 j → i = j := by decide +kernel
theorem gOk_lt {k : Nat} (h : gOk k) : k < 147 := by
  have h : k < 9 ∨ (11 ≤ k ∧ k < 102) ∨ k = 146 := h
  omega
theorem gL_of {Z : gZ} {M : gM} {i : Nat} {q : Nat × va_E} (hk : (gL Z M)[i]? = some q) : ∃ k, gOk k ∧ gPos k = i ∧ q = (zad Z k, gE Z M k) := by
  have hi : i < 101 := by
    have := (List.getElem?_eq_some_iff.mp hk).1
    rw [gL_len] at this
    exact this
  obtain ⟨h1, h2, h3⟩ := gIds_ok i hi
  have h4 := gL_at (Z := Z) (M := M) h1
  rw [h2, hk] at h4
  exact ⟨_, h1, h2, Option.some.inj h4⟩
theorem conv_P {Z : gZ} {h0 : Nat} {a : Nat → Nat → Nat} {q9 : Nat} {H : Heap} (h : va_P (zD Z) vwCl (wsF Z h0 a q9) H) : va_P (zD Z) vwCl (gL (stZ Z (ad0 h0 a q9)) M0) H := by
  intro i q hi
  obtain ⟨k, hk, -, rfl⟩ := gL_of hi
  obtain ⟨e, he, hc⟩ := at_all Z h0 a q9 k hk
  exact cLike_at hc (h _ _ he)
theorem conv_D {Z : gZ} {h0 : Nat} {a : Nat → Nat → Nat} {q9 : Nat} (h : va_D (zA Z) (wsF Z h0 a q9)) : va_D (zA Z) (gL (stZ Z (ad0 h0 a q9)) M0) := by
  have key : ∀ (i : Nat) (q : Nat × va_E), (gL (stZ Z (ad0 h0 a q9)) M0)[i]? = some q → ∃ k, gOk k ∧ gPos k = i ∧ ∃ e, (wsF Z h0 a q9)[pl0 k]? = some (q.1, e) := by
    intro i q hi
    obtain ⟨k, hk, hp, rfl⟩ := gL_of hi
    obtain ⟨e, he, -⟩ := at_all Z h0 a q9 k hk
    exact ⟨k, hk, hp, e, he⟩
  refine ⟨fun i j p q hi hj hpq => ?_, fun i q hi => ?_⟩
  · obtain ⟨ki, li, pi, e1, h1⟩ := key i p hi
    obtain ⟨kj, lj, pj, e2, h2⟩ := key j q hj
    have := pl0_inj ki (gOk_lt li) kj (gOk_lt lj) (h.1 _ _ _ _ h1 h2 hpq)
    rw [← pi, ← pj, this]
  · obtain ⟨k, -, -, e, he⟩ := key i q hi
    exact h.2 _ (q.1, e) he
