/-! ===== the memory of the system: cell, place -> number ===== -/
abbrev gM : Type := Nat → Nat → Int32
def gset (M : gM) (a j : Nat) (v : Int32) : gM := fun b => if b = a then upd (M b) j v else M b
/-- a result: 0 stuck, 1 returned, 2.. thrown; the number; the memory behind it -/
abbrev gR : Type := Nat × Int32 × gM
def rStuck : gR := (0, 0, fun _ _ => 0)
def rRet (v : Int32) (M : gM) : gR := (1, v, M)
def rThr (k : Nat) (M : gM) : gR := (k + 2, 0, M)
def rb (r : gR) (K : Int32 → gM → gR) : gR := if r.1 = 1 then K r.2.1 r.2.2 else r
theorem rb_ret (v : Int32) (M : gM) (K : Int32 → gM → gR) : rb (rRet v M) K = K v M := rfl
theorem rb_thr (k : Nat) (M : gM) (K : Int32 → gM → gR) : rb (rThr k M) K = rThr k M := by
  have h : ¬ (k + 2 = 1) := by omega
  simp [rb, rThr]
theorem rb_stuck (K : Int32 → gM → gR) : rb rStuck K = rStuck := rfl
theorem rb_ne {r : gR} {K : Int32 → gM → gR} (h : (rb r K).1 ≠ 0) : r.1 ≠ 0 := fun e => h (by simp [rb, e])
/-- a number, a memory gets a name -/
def bV (x : Int32) (f : Int32 → gR) : gR := f x
def bM (M : gM) (f : gM → gR) : gR := f M
/-- an index in its row, or stuck -/
def gI (i : Int32) (n : Nat) (F : gR) : gR := if 0 ≤ i ∧ i.toNatClampNeg < n then F else rStuck
theorem gI_in {i : Int32} {n : Nat} {F : gR} (h : (gI i n F).1 ≠ 0) : vp_in i n ∧ gI i n F = F := by
  unfold gI at h ⊢
  by_cases c : 0 ≤ i ∧ i.toNatClampNeg < n
  · rw [if_pos c]
    refine ⟨fun q => ?_, rfl⟩
    rcases q with q | q
    · exact absurd c.1 (Int32.not_le.mpr q)
    · omega
  · rw [if_neg c] at h
    exact absurd rfl h
/-- a divisor that is not 0, or stuck -/
def gNz (y : Int32) (F : gR) : gR := if y = 0 then rStuck else F
/-- a truth value, or stuck -/
def gZ01 (y : Int32) (F : gR) : gR := if y = 0 ∨ y = 1 then F else rStuck
def gEx : Nat → String
  | 0 => "java/lang/IndexOutOfBoundsException"
  | 1 => "java/lang/IllegalArgumentException"
  | _ => "java/lang/IllegalStateException"
/-! ===== the cells ===== -/
/-- kind, and what it needs: 0 object (class); 1 ints, 2 booleans, 4 longs (length); 3 rows (how many, the first row's cell); 5 a row (width, its grid, its number) -/

def gT : List (Nat × Nat × Nat × Nat) := [(0, 8, 0, 0), (0, 0, 0, 0), (0, 1, 0, 0), (0, 2, 0, 0), (0, 3, 0, 0), (0, 5, 0, 0), (0, 6, 0, 0), (0, 4, 0, 0), (0, 7, 0, 0), (9, 0, 0, 0), (9, 0, 0, 0), (1, 1401, 0, 0), (1, 30, 0, 0), (1, 5, 0, 0), (2, 5, 0, 0), (3, 8, 16, 160), (5, 160, 15, 0), (5, 160, 15, 1), (5, 160, 15, 2), (5, 160, 15, 3), (5, 160, 15, 4), (5, 160, 15, 5), (5, 160, 15, 6), (5, 160, 15, 7), (1, 8, 0, 0), (1, 8, 0, 0), (1, 8, 0, 0), (1, 8, 0, 0), (1, 8, 0, 0), (3, 8, 30, 16), (5, 16, 29, 0), (5, 16, 29, 1), (5, 16, 29, 2), (5, 16, 29, 3), (5, 16, 29, 4), (5, 16, 29, 5), (5, 16, 29, 6), (5, 16, 29, 7), (3, 8, 39, 16), (5, 16, 38, 0), (5, 16, 38, 1), (5, 16, 38, 2), (5, 16, 38, 3), (5, 16, 38, 4), (5, 16, 38, 5), (5, 16, 38, 6), (5, 16, 38, 7), (1, 24, 0, 0), (1, 24, 0, 0), (1, 24, 0, 0), (1, 24, 0, 0), (1, 24, 0, 0), (1, 24, 0, 0), (1, 24, 0, 0), (1, 24, 0, 0), (1, 160, 0, 0), (1, 160, 0, 0), (1, 160, 0, 0), (1, 160, 0, 0), (1, 160, 0, 0), (1, 160, 0, 0), (2, 160, 0, 0), (2, 160, 0, 0), (1, 160, 0, 0), (2, 160, 0, 0), (1, 160, 0, 0), (1, 160, 0, 0), (2, 160, 0, 0), (2, 160, 0, 0), (1, 40, 0, 0), (1, 40, 0, 0), (1, 40, 0, 0), (1, 8, 0, 0), (1, 8, 0, 0), (3, 8, 75, 8), (5, 8, 74, 0), (5, 8, 74, 1), (5, 8, 74, 2), (5, 8, 74, 3), (5, 8, 74, 4), (5, 8, 74, 5), (5, 8, 74, 6), (5, 8, 74, 7), (1, 8, 0, 0), (1, 12, 0, 0), (2, 12, 0, 0), (3, 12, 87, 2), (5, 2, 86, 0), (5, 2, 86, 1), (5, 2, 86, 2), (5, 2, 86, 3), (5, 2, 86, 4), (5, 2, 86, 5), (5, 2, 86, 6), (5, 2, 86, 7), (5, 2, 86, 8), (5, 2, 86, 9), (5, 2, 86, 10), (5, 2, 86, 11), (1, 512, 0, 0), (1, 512, 0, 0), (2, 512, 0, 0), (9, 0, 0, 0), (9, 0, 0, 0), (9, 0, 0, 0), (9, 0, 0, 0), (9, 0, 0, 0), (9, 0, 0, 0), (9, 0, 0, 0), (9, 0, 0, 0), (9, 0, 0, 0), (9, 0, 0, 0), (9, 0, 0, 0), (9, 0, 0, 0), (9, 0, 0, 0), (9, 0, 0, 0), (9, 0, 0, 0), (9, 0, 0, 0), (9, 0, 0, 0), (9, 0, 0, 0), (9, 0, 0, 0), (9, 0, 0, 0), (9, 0, 0, 0), (9, 0, 0, 0), (9, 0, 0, 0), (9, 0, 0, 0), (9, 0, 0, 0), (9, 0, 0, 0), (9, 0, 0, 0), (9, 0, 0, 0), (9, 0, 0, 0), (9, 0, 0, 0), (9, 0, 0, 0), (9, 0, 0, 0), (9, 0, 0, 0), (9, 0, 0, 0), (9, 0, 0, 0), (9, 0, 0, 0), (9, 0, 0, 0), (9, 0, 0, 0), (9, 0, 0, 0), (9, 0, 0, 0), (9, 0, 0, 0), (9, 0, 0, 0), (9, 0, 0, 0), (9, 0, 0, 0), (1, 24, 0, 0)]
/-- the cells that stand in the heap: the class's, and the law's row of ends (146); what lies between are ghosts -/
abbrev gOk (k : Nat) : Prop := k < 9 ∨ (11 ≤ k ∧ k < 102) ∨ k = 146
def gIds : List Nat := [0, 1, 2, 3, 4, 5, 6, 7, 8, 11, 12, 13, 14, 15, 16, 17, 18, 19, 20, 21, 22, 23, 24, 25, 26, 27, 28, 29, 30, 31, 32, 33, 34, 35, 36, 37, 38, 39, 40, 41, 42, 43, 44, 45, 46, 47, 48, 49, 50, 51, 52, 53, 54, 55, 56, 57, 58, 59, 60, 61, 62, 63, 64, 65, 66, 67, 68, 69, 70, 71, 72, 73, 74, 75, 76, 77, 78, 79, 80, 81, 82, 83, 84, 85, 86, 87, 88, 89, 90, 91, 92, 93, 94, 95, 96, 97, 98, 99, 100, 101, 146]
def gPos (k : Nat) : Nat := if k < 9 then k else if k < 102 then k - 2 else 100
theorem gIds_ok : ∀ i, i < 101 → gOk (gIds.getD i 0) ∧ gPos (gIds.getD i 0) = i ∧ gIds[i]? = some (gIds.getD i 0) := by decide +kernel
theorem gPos_ok : ∀ k, k < 147 → gOk k → gIds[gPos k]? = some k := by decide +kernel
theorem gOk_at {k : Nat} (h : gOk k) : gIds[gPos k]? = some k := gPos_ok k (by have h : k < 9 ∨ (11 ≤ k ∧ k < 102) ∨ k = 146 := h; omega) h
theorem gOk_in {k : Nat} (h : gOk k) : k ∈ gIds := List.mem_of_getElem? (gOk_at h)
/-- an object's fields: 0 a number; k + 1 a reference to the cell k -/
def gO : Nat → List Nat
  | 0 => [2, 3, 4, 5, 6, 7, 8, 9]
  | 1 => [0, 12, 13, 0, 14, 15, 16, 25]
  | 2 => [0, 26, 27, 28, 29, 30, 39]
  | 3 => [0, 48, 49, 50, 51, 52, 53, 54, 55]
  | 4 => [0, 56, 57, 58, 59, 60, 61, 62, 63, 64, 65, 66, 67, 68, 69]
  | 5 => [0, 70, 71, 72]
  | 6 => [73, 74, 75, 84]
  | 7 => [0, 85, 86, 87]
  | 8 => [0, 100, 101, 102]
  | _ => []
/-- where things are: the first address of ours; the classes; the array classes of int, boolean, int rows, long; the cells' addresses -/
abbrev gZ : Type := Nat × va_G × (ClassId × ClassId × ClassId × ClassId) × (Nat → Nat)
abbrev zA (Z : gZ) : Nat → Prop := fun q => Z.1 ≤ q
abbrev zD (Z : gZ) : va_G := Z.2.1
abbrev zad (Z : gZ) : Nat → Nat := Z.2.2.2
abbrev gTys (Z : gZ) : List (ClassId × FieldType) := [(Z.2.2.1.1, .int), (Z.2.2.1.2.1, .boolean), (Z.2.2.1.2.2.1, .array .int)]
def gFv (Z : gZ) (M : gM) (k : Nat) : Nat → List Nat → List Value
  | _, [] => []
  | f, c :: r => (if c = 0 then .int (M k f) else .ref (zad Z (c - 1))) :: gFv Z M k (f + 1) r
def gE (Z : gZ) (M : gM) (k : Nat) : va_E := match gT.getD k (9, 0, 0, 0) with
  | (0, ci, _, _) => .inr (ci, gFv Z M k 0 (gO k))
  | (1, n, _, _) => .inl (Z.2.2.1.1, n, .inl (M k))
  | (2, n, _, _) => .inl (Z.2.2.1.2.1, n, .inl (M k))
  | (3, n, b, _) => .inl (Z.2.2.1.2.2.1, n, .inr (.inr (.inr (.inr (fun i => some (zad Z (b + i)))))))
  | (4, n, _, _) => .inl (Z.2.2.1.2.2.2, n, .inr (.inl (fun j => (M k j).toInt64)))
  | (5, w, g, i) => .inl (Z.2.2.1.1, w, .inl (fun j => if j < w then M g (i * w + j) else 0))
  | _ => .inl (Z.2.2.1.1, 0, .inl (fun _ => 0))
def gL (Z : gZ) (M : gM) : va_W := gIds.map (fun k => (zad Z k, gE Z M k))
theorem gL_at {Z : gZ} {M : gM} {k : Nat} (h : gOk k) : (gL Z M)[gPos k]? = some (zad Z k, gE Z M k) := by
  unfold gL
  rw [List.getElem?_map, gOk_at h]
  rfl
theorem gL_len (Z : gZ) (M : gM) : (gL Z M).length = 101 := by
  unfold gL
  rw [List.length_map]
  rfl
theorem gL_ext {Z : gZ} {M1 : gM} {ws : va_W} (hl : ws.length = 101) (h : ∀ k, gOk k → ws[gPos k]? = some (zad Z k, gE Z M1 k)) : ws = gL Z M1 := by
  apply List.ext_getElem?
  intro i
  by_cases hi : i < 101
  · obtain ⟨h1, h2, h3⟩ := gIds_ok i hi
    have h4 := h _ h1
    have h5 := gL_at (Z := Z) (M := M1) h1
    rw [h2] at h4 h5
    rw [h4, h5]
  · rw [List.getElem?_eq_none (by omega), List.getElem?_eq_none (by rw [gL_len]; omega)]
theorem gL_set {Z : gZ} {M M1 : gM} {q : Nat} {e : va_E} (hq : gOk q) (he : e = gE Z M1 q) (ho : ∀ k, gOk k → k ≠ q → gE Z M k = gE Z M1 k) : (gL Z M).set (gPos q) (zad Z q, e) = gL Z M1 := by
  refine gL_ext (by rw [List.length_set, gL_len]) (fun k hk => ?_)
  by_cases hkq : k = q
  · subst hkq
    have hlt : gPos k < (gL Z M).length := (List.getElem?_eq_some_iff.mp (gL_at (Z := Z) (M := M) hk)).1
    rw [List.getElem?_set_self hlt, he]
  · rw [List.getElem?_set_ne (fun z => hkq (Option.some.inj ((gOk_at hk).symm.trans ((congrArg (fun j => gIds[j]?) z.symm).trans (gOk_at hq))))), gL_at hk, ho k hk hkq]
theorem gset_ne {M : gM} {a b j : Nat} {v : Int32} (h : b ≠ a) : gset M a j v b = M b := by
  unfold gset
  rw [if_neg h]
theorem gset_self {M : gM} {a j : Nat} {v : Int32} : gset M a j v a = upd (M a) j v := by
  unfold gset
  rw [if_pos rfl]
theorem gFv_ne {Z : gZ} {M : gM} {a k j : Nat} {v : Int32} (h : k ≠ a) : ∀ (l : List Nat) (f : Nat), gFv Z (gset M a j v) k f l = gFv Z M k f l
  | [], _ => rfl
  | c :: r, f => by
    unfold gFv
    rw [gset_ne h, gFv_ne h r (f + 1)]
/-- rows: a grid's rows are all as wide, and each stands once; a row's grid is one of rows -/
def gRowOk (k q : Nat) : Bool := (gT.getD k (9, 0, 0, 0)).1 != 5 || (gT.getD q (9, 0, 0, 0)).1 != 5 || (gT.getD k (9, 0, 0, 0)).2.2.1 != (gT.getD q (9, 0, 0, 0)).2.2.1 || ((gT.getD k (9, 0, 0, 0)).2.1 == (gT.getD q (9, 0, 0, 0)).2.1 && ((gT.getD k (9, 0, 0, 0)).2.2.2 != (gT.getD q (9, 0, 0, 0)).2.2.2 || k == q))
def gRowG (k : Nat) : Bool := (gT.getD k (9, 0, 0, 0)).1 != 5 || (gT.getD (gT.getD k (9, 0, 0, 0)).2.2.1 (9, 0, 0, 0)).1 == 3
theorem gRow_ok : gIds.all (fun k => gIds.all (fun q => gRowOk k q)) = true := by decide +kernel
theorem gRow_g : gIds.all (fun k => gRowG k) = true := by decide +kernel
theorem gRow_is {k w g i : Nat} (hk : gOk k) (e : gT.getD k (9, 0, 0, 0) = (5, w, g, i)) : (gT.getD g (9, 0, 0, 0)).1 = 3 := by
  have h := List.all_eq_true.mp gRow_g k (gOk_in hk)
  unfold gRowG at h
  rw [e] at h
  simpa using h
theorem gRow_two {k q w g i w1 i1 : Nat} (hk : gOk k) (hq : gOk q) (e : gT.getD k (9, 0, 0, 0) = (5, w1, g, i1)) (e2 : gT.getD q (9, 0, 0, 0) = (5, w, g, i)) (h : k ≠ q) : w1 = w ∧ i1 ≠ i := by
  have hr := List.all_eq_true.mp (List.all_eq_true.mp gRow_ok k (gOk_in hk)) q (gOk_in hq)
  unfold gRowOk at hr
  rw [e, e2] at hr
  simp [h] at hr
  exact hr
/-- what a cell that is no row reads: itself alone -/
theorem gE_ne {Z : gZ} {M : gM} {a k j : Nat} {v : Int32} (h : k ≠ a) (hk : gOk k) (ha : (gT.getD a (9, 0, 0, 0)).1 ≠ 3) : gE Z M k = gE Z (gset M a j v) k := by
  unfold gE
  split
  · rw [gFv_ne h]
  · rw [gset_ne h]
  · rw [gset_ne h]
  · rfl
  · rw [gset_ne h]
  · rename_i w g i e
    have hga : g ≠ a := fun z => ha (z ▸ gRow_is hk e)
    rw [gset_ne hga]
  · rfl
/-- a row is written: the other cells stay -/
theorem gE_row {Z : gZ} {M : gM} {q k w g i j : Nat} {v : Int32} (hq : gOk q) (e : gT.getD q (9, 0, 0, 0) = (5, w, g, i)) (hj : j < w) (h : k ≠ q) (hk : gOk k) : gE Z M k = gE Z (gset M g (i * w + j) v) k := by
  have h3 := gRow_is hq e
  have hkg : ∀ x : Nat × Nat × Nat × Nat, gT.getD k (9, 0, 0, 0) = x → x.1 ≠ 3 → k ≠ g := fun x hx hn z => by
    subst z
    rw [hx] at h3
    exact hn h3
  unfold gE
  split
  · rename_i e1
    rw [gFv_ne (hkg _ e1 (by simp))]
  · rename_i e1
    rw [gset_ne (hkg _ e1 (by simp))]
  · rename_i e1
    rw [gset_ne (hkg _ e1 (by simp))]
  · rfl
  · rename_i e1
    rw [gset_ne (hkg _ e1 (by simp))]
  · rename_i w1 g1 i1 e1
    by_cases hgg : g1 = g
    · subst hgg
      obtain ⟨hw, hii⟩ := gRow_two hk hq e1 e h
      subst hw
      rw [gset_self]
      have hfun : ∀ x : Nat, (if x < w1 then M g1 (i1 * w1 + x) else 0) = (if x < w1 then upd (M g1) (i * w1 + j) v (i1 * w1 + x) else 0) := by
        intro x
        by_cases hx : x < w1
        · rw [if_pos hx, if_pos hx]
          unfold upd
          rw [if_neg]
          intro z
          apply hii
          have hd1 : (i1 * w1 + x) / w1 = i1 := by
            rw [Nat.add_comm, Nat.add_mul_div_right _ _ (by omega), Nat.div_eq_of_lt hx, Nat.zero_add]
          have hd2 : (i * w1 + j) / w1 = i := by
            rw [Nat.add_comm, Nat.add_mul_div_right _ _ (by omega), Nat.div_eq_of_lt hj, Nat.zero_add]
          rw [← hd1, z, hd2]
        · rw [if_neg hx, if_neg hx]
      simp only [hfun]
    · rw [gset_ne hgg]
  · rfl

/-! ===== what a call may rest on ===== -/
def gWS : List Cond := lw_tbl.filter goodWord
def gStr : List (Nat × String) := [(482, "days out of range"), (75, "today would be too late"), (82, "day out of range"), (92, "no holiday can be made of it"), (102, "no such rule"), (113, "no such judge"), (118, "too many cases"), (484, "no such case"), (486, "no such person"), (488, "no such side"), (137, "a party already"), (238, "amount out of range"), (164, "no such claim can be made"), (490, "no such claim"), (193, "no such way"), (504, "no such entry can be made"), (329, "no deadline of this sort is extended"), (496, "no such sort"), (492, "no such entry"), (494, "no such motion"), (340, "it cannot be extended"), (464, "no such part"), (152, "it cannot be led by that one"), (175, "it cannot be severed"), (276, "outcome out of range"), (278, "cap out of range"), (307, "it can get no defect"), (327, "it cannot be cured"), (342, "no such slot"), (349, "no hearing can be then"), (498, "no such hearing"), (363, "it cannot be continued"), (500, "no such juror"), (380, "this strike cannot be"), (394, "no one can be seated instead"), (400, "no such seat"), (406, "too many exhibits"), (502, "no such exhibit"), (421, "the side has objected"), (423, "no objection waits"), (444, "it cannot be made a class"), (446, "membership cannot change")]
/-- words of a throw that later states must be told -/
def gNg : List Cond := [.castable (gEx 0) (gEx 0), .castable (gEx 1) (gEx 1), .castable (gEx 2) (gEx 2), .declares (Bundle.initS "java/lang/RuntimeException"), .declares (Bundle.initS "java/lang/Exception"), .declares (Bundle.initS Bundle.tN)]
theorem gNg_tab : ∀ w ∈ gNg, w.onTables = true := by decide +kernel
theorem gNg_warm {s U : State} (hW : s.WarmedH U.vm) (h : ∀ w ∈ gNg, va_Nw w s) : ∀ w ∈ gNg, va_Nw w U := by
  intro w hw
  have h1 := h w hw
  simp only [gNg, List.mem_cons, List.not_mem_nil, or_false] at hw
  rcases hw with e | e | e | e | e | e <;> (subst e; first | exact va_Nw.warmC hW h1 | exact va_Nw.warmD hW h1)
/-- what is so below our own cells -/
def gG (Z : gZ) (U : State) : Prop := Z.1 ≤ U.heap.size ∧ vx_Zq Bundle.tN "UNASSIGNED_STACK" Bundle.steD (zA Z) U U.heap ∧ vx_Zq Bundle.tN "SUPPRESSED_SENTINEL" Bundle.listD (zA Z) U U.heap ∧
  (∀ q ∈ gStr, ∃ a, vk_R RX8 q.1 q.2 a U) ∧ (∀ w ∈ gNg, va_Nw w U) ∧
  (∃ t, va_Z RX8 "FIRST_RULE_DAYS" "[I" (.ref t) (zA Z) U U.heap ∧ va_T .int t 5 (fun j => .int ([21, 14, 30, 14, 5].getD j 0)) (zA Z) U U.heap) ∧
  (∃ t, va_Z RX8 "WAY_DAYS" "[I" (.ref t) (zA Z) U U.heap ∧ va_T .int t 3 (fun j => .int ([0, 3, 7].getD j 0)) (zA Z) U U.heap)
theorem gG_move {Z : gZ} {s U : State} {H : Heap} {locs : List Loc} (h : gG Z s) (hS : va_S (zA Z) s.heap H locs) (hU : U.heap = H) (hW : s.WarmedH U.vm) : gG Z U := by
  subst hU
  have hq : ∀ a : Nat, a < s.heap.size → ¬ zA Z a → U.heap[a]? = s.heap[a]? := hS.2.1
  obtain ⟨h1, h2, h3, h4, h5, ⟨t6, h6, h6'⟩, ⟨t7, h7, h7'⟩⟩ := h
  exact ⟨Nat.le_trans h1 hS.1, (h2.moved hW.alike).kept hq, (h3.moved hW.alike).kept hq, fun q hq => (h4 q hq).imp fun a ha => vk_R.warm hW ha, gNg_warm hW h5,
    ⟨t6, (h6.moved hW.alike).kept hq, (h6'.moved hW.alike).kept hq⟩, ⟨t7, (h7.moved hW.alike).kept hq, (h7'.moved hW.alike).kept hq⟩⟩
theorem gG_call {Z : gZ} {U : State} {g : JFrame} {mk : MethodId} {a : Array Value} (h : gG Z U) : gG Z (U.calling g mk a) :=
  gG_move (U := U.calling g mk a) h (va_S.rf) rfl (State.WarmedH.refl U)
/-- the world, at a state -/
def gB (Z : gZ) (M : gM) (t : State) : Prop := va_P (zD Z) vwCl (gL Z M) t.heap ∧ va_K (zD Z) vwCl (gTys Z) t ∧ va_D (zA Z) (gL Z M)
def gWd (Z : gZ) (M : gM) (t : State) : Prop := gB Z M t ∧ gG Z t
def gQc (kd : Nat) (Z : gZ) (F : gR) : Array Value → State → Outcome → State → Prop := match kd with
  | 0 => va_Qv (fun M1 : gM => F = rRet 0 M1) (gB Z) (zA Z)
  | _ => va_Qi (fun (r : Int32) (M1 : gM) => F = rRet r M1) (gB Z) (zA Z)
def gXc (Z : gZ) (F : gR) : String → State → State → Prop := vx_X (fun q : Nat × gM => F = rThr q.1 q.2) (fun E q t => E = gEx q.1 ∧ gB Z q.2 t) (zA Z)
/-- a method's contract: from the memory M it comes to what F says -/
def gMet (l : Launch) (y : MethodName) (cc : ByteArray) (maxL : Nat) (ret : Option FieldType) (rm : Room) (kd mc : Nat) (Z : gZ) (M : gM) (As : List Value) (F : gR) : Prop :=
  F.1 ≠ 0 → vx_Met l y (.code y cc maxL ret :: gWS) rm (va_Pc As (gWd Z M)) (gQc kd Z F) (gXc Z F) mc (6 * mc) (zA Z)
/-- what stays through a method's body -/
def gC (p : Program) (l : Launch) (s : State) (m : MethodId) (args : Array Value) (meth : Method) (c : Code) (cc : ByteArray) (nL : Nat) (own : String) (ret : Option FieldType) (Z : gZ) : Prop :=
  p.tables.exec = Jvm.exec ∧ c.code = cc ∧ c.maxLocals = nL ∧ s.vm.findClass own = some m.cls ∧ (∀ w ∈ gWS, w.before args s = true) ∧ va_K (zD Z) vwCl (gTys Z) s ∧ meth.locks = false ∧ l.stackTraces = false ∧ gG Z s ∧ (∀ x ∈ c.exceptionTable.toList, False) ∧ meth.sig.returnType = ret
/-- from here, with these locals and this stack, the method comes to what F says -/
def gW (p : Program) (l : Launch) (e : Env) (R : Room) (s : State) (m : MethodId) (args : Array Value) (below : List Frame) (meth : Method) (c : Code) (nL : Nat) (Z : gZ) (kd mc : Nat) (k : Nat) (M : gM) (pc : Nat) (lv : List (Nat × Value)) (st : List Value) (F : gR) : Prop :=
  F.1 ≠ 0 → ∀ (H : Heap) (locs : List Loc) (ls : Array Slot), va_P (zD Z) vwCl (gL Z M) H → va_D (zA Z) (gL Z M) → va_S (zA Z) s.heap H locs → lv_has ls nL lv →
    W p l e R s m args below meth c H locs k (6 * k) (vx_MQ below (gQc kd Z F) (gXc Z F) args s mc (6 * mc) (zA Z)) (F0 m pc ls st)
