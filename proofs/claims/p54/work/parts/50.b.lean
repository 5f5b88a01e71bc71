def bt (x : Int32) (i : Nat) : Bool := x.toBitVec.getLsbD i
theorem b_ext {x y : Int32} (h : ∀ i, i < 32 → bt x i = bt y i) : x = y := Int32.toBitVec_inj.mp (BitVec.eq_of_getLsbD_eq (fun i hi => h i hi))
theorem b_or (x y : Int32) (i : Nat) : bt (x ||| y) i = (bt x i || bt y i) := by unfold bt; rw [Int32.toBitVec_or, BitVec.getLsbD_or]
theorem b_and (x y : Int32) (i : Nat) : bt (x &&& y) i = (bt x i && bt y i) := by unfold bt; rw [Int32.toBitVec_and, BitVec.getLsbD_and]
theorem b_xor (x y : Int32) (i : Nat) : bt (x ^^^ y) i = (bt x i ^^ bt y i) := by unfold bt; rw [Int32.toBitVec_xor, BitVec.getLsbD_xor]
theorem b_big {x : Int32} {i : Nat} (h : 32 ≤ i) : bt x i = false := BitVec.getLsbD_of_ge _ _ h
theorem b_m1 : ∀ i, i < 32 → bt (-1) i = true := by decide +kernel
theorem b_0 (i : Nat) : bt 0 i = false := BitVec.getLsbD_zero
theorem s_l : ∀ n, n < 32 → ((nI n &&& 31).toBitVec.smod 32).toNat = n := by decide +kernel
theorem s_u : ∀ n, n < 32 → (((nI n).toUInt32 &&& Int32.toUInt32 31).toBitVec % 32).toNat = n := by decide +kernel
theorem b_shl (n : Nat) (hn : n < 32) (x : Int32) {i : Nat} (hi : i < 32) : bt (x <<< (nI n &&& 31)) i = (decide (n ≤ i) && bt x (i - n)) := by
  unfold bt
  rw [Int32.toBitVec_shiftLeft]
  show (x.toBitVec <<< ((nI n &&& 31).toBitVec.smod 32).toNat).getLsbD i = _
  rw [s_l n hn, BitVec.getLsbD_shiftLeft]
  rcases Nat.lt_or_ge i n with h | h
  · simp [h, Nat.not_le.mpr h]
  · simp [hi, h, Nat.not_lt.mpr h]
theorem b_ushr (n : Nat) (hn : n < 32) (x : Int32) (i : Nat) : bt ((x.toUInt32 >>> ((nI n).toUInt32 &&& Int32.toUInt32 31)).toInt32) i = bt x (n + i) := by
  show (x.toUInt32 >>> ((nI n).toUInt32 &&& Int32.toUInt32 31)).toBitVec.getLsbD i = x.toUInt32.toBitVec.getLsbD (n + i)
  rw [UInt32.toBitVec_shiftRight]
  show (x.toUInt32.toBitVec >>> (((nI n).toUInt32 &&& Int32.toUInt32 31).toBitVec % 32).toNat).getLsbD i = _
  rw [s_u n hn, BitVec.getLsbD_ushiftRight]
theorem b_sshr (n : Nat) (hn : n < 32) (x : Int32) {i : Nat} (hi : i < 32) : bt (x >>> (nI n &&& 31)) i = if n + i < 32 then bt x (n + i) else bt x 31 := by
  unfold bt
  rw [Int32.toBitVec_shiftRight]
  show (x.toBitVec.sshiftRight ((nI n &&& 31).toBitVec.smod 32).toNat).getLsbD i = _
  rw [s_l n hn, BitVec.getLsbD_sshiftRight, BitVec.msb_eq_getLsbD_last]
  simp [hi]
theorem b_test (n : Nat) (hn : n < 32) (x : Int32) : ((x >>> (nI n &&& 31)) &&& 1 = 1) ↔ bt x n = true := by
  have h0 : bt (x >>> (nI n &&& 31)) 0 = bt x n := by
    rw [b_sshr n hn x (by omega)]
    simp [hn]
  constructor
  · intro h
    have h1 := congrArg (fun y => bt y 0) h
    simp only [b_and, h0] at h1
    rw [show bt 1 0 = true from by decide] at h1
    simpa using h1
  · intro h
    refine b_ext (fun i hi => ?_)
    rw [b_and]
    cases i with
    | zero => rw [h0, h]; decide
    | succ j => rw [show bt 1 (j + 1) = false from (by decide +kernel : ∀ j, j < 31 → bt 1 (j + 1) = false) j (by omega), Bool.and_false]
theorem b_one : ∀ n, n < 32 → ∀ i, i < 32 → bt ((1 : Int32) <<< (nI n &&& 31)) i = decide (i = n) := by decide +kernel
theorem b_mask {x m : Int32} {n : Nat} (hn : n < 32) (hm : ∀ i, i < 32 → bt m i = decide (i = n)) : (x &&& m = 0) ↔ bt x n = false := by
  constructor
  · intro h
    have h1 := congrArg (fun y => bt y n) h
    simp only [b_and, b_0, hm n hn] at h1
    simpa using h1
  · intro h
    refine b_ext (fun i hi => ?_)
    rw [b_and, b_0, hm i hi]
    by_cases e : i = n
    · rw [e, h, Bool.false_and]
    · simp [e]
theorem b_256 : ∀ i, i < 32 → bt 256 i = decide (i = 8) := by decide +kernel
theorem b_not (x : Int32) {i : Nat} (hi : i < 32) : bt (x ^^^ (-1)) i = !bt x i := by
  rw [b_xor, b_m1 i hi]
  cases bt x i <;> rfl
/-! ===== the groups of the invariant ===== -/
def isIx (n : Nat) (x : Int32) : Prop := ∃ i, i < n ∧ x = nI i
def z01 (x : Int32) : Prop := x = 0 ∨ x = 1
theorem z01_eq {x : Int32} {F : gR} (h : z01 x) : gZ01 x F = F := if_pos h
theorem isIx_mono {n m : Nat} {x : Int32} (h : isIx n x) (hm : n ≤ m) : isIx m x := by
  obtain ⟨i, hi, e⟩ := h
  exact ⟨i, by omega, e⟩
/-- is a case by itself stayed on a day, told by the entries before e -/
def sAlone (K A D : Nat → Int32) (c d : Int32) : Nat → Int32
  | 0 => 0
  | e + 1 => if K e < 11 then sAlone K A D c d e else if A e = c then if d < D e then sAlone K A D c d e else if K e = 11 then 1 else 0 else sAlone K A D c d e
/-- the same, told by the turns of a case -/
def sTurn (T : Nat → Int32) (d : Int32) : Nat → Int32
  | 0 => 0
  | k + 1 => if d < T k then sTurn T d k else if k % 2 = 0 then 1 else 0
def free (m102 : Nat → Int32) (d : Nat) : Prop := 5 ≤ d % 7 ∨ (d ≤ 1000 ∧ m102 d = 1)
/-- numbers -/
def Gnum (t nh nc nk ne nr nx ns n : Nat) (m1 m2 m3 m4 m5 m7 m8 m9 : Nat → Int32) : Prop :=
  (m1 0 = nI t ∧ m1 3 = nI nh ∧ m2 0 = nI nc ∧ m3 0 = nI nk ∧ m4 0 = nI ne ∧ m5 0 = nI nr ∧ m7 0 = nI nx ∧ m8 0 = nI ns) ∧
  (m9 1 = nI t ∧ m9 2 = nI nh ∧ m9 6 = nI nc ∧ m9 11 = nI nk ∧ m9 23 = nI ne ∧ m9 41 = nI nr ∧ m9 48 = nI nx) ∧
  (t ≤ 900 ∧ nh ≤ 30 ∧ nc ≤ 8 ∧ nk ≤ 24 ∧ ne ≤ 160 ∧ nr ≤ 40 ∧ nx ≤ 12 ∧ ns ≤ n)
/-- holidays, free days -/
def Ghol (nh : Nat) (m11 m12 m102 : Nat → Int32) : Prop :=
  (∀ d, z01 (m102 d)) ∧ (∀ i, i < nh → isIx 1001 (m12 i)) ∧ (∀ d, d ≤ 1000 → (m102 d = 1 ↔ ∃ i, i < nh ∧ m12 i = nI d)) ∧ (∀ d, d ≤ 1400 → (bt (m11 d) 8 = true ↔ free m102 d))
/-- rules -/
def Grule (m13 m14 m103 m104 : Nat → Int32) : Prop :=
  m103 = m13 ∧ m104 = m14 ∧ ∀ j, j < 5 → (∃ x, 1 ≤ x ∧ x ≤ 60 ∧ m13 j = nI x) ∧ z01 (m14 j)
/-- stays -/
def Gstay (t ne : Nat) (m11 m15 m24 m120 m121 m122 : Nat → Int32) : Prop :=
  (∀ c, c < 8 → ∀ d, d ≤ 1400 → (bt (m11 d) c = true ↔ sAlone m120 m122 m121 (nI c) (nI d) ne = 1)) ∧
  (∀ c, c < 8 → ∃ tc, tc ≤ ne ∧ m24 c = nI tc ∧ (∀ k, k < tc → ∃ x, x ≤ t ∧ m15 (c * 160 + k) = nI x) ∧ ∀ d, sTurn (fun k => m15 (c * 160 + k)) d tc = sAlone m120 m122 m121 (nI c) d ne)
/-- how many parties a case has -/
def cntP (m107 : Nat → Int32) (c : Nat) : Nat → Nat
  | 0 => 0
  | p + 1 => cntP m107 c p + if m107 (16 * c + p) = -1 then 0 else 1
/-- cases -/
def Gcase (t nc : Nat) (m25 m26 m27 m28 m29 m38 m105 m106 m107 m108 : Nat → Int32) : Prop :=
  (m105 = m25 ∧ m106 = m26 ∧ m108 = m38) ∧ (∀ c, c < nc → m26 c = -1 ∨ isIx nc (m26 c)) ∧
  (∀ c, c < 8 → ∀ p, p < 16 → (bt (m28 c) p = true ↔ m107 (16 * c + p) ≠ -1) ∧ (m107 (16 * c + p) ≠ -1 → isIx 2 (m107 (16 * c + p)) ∧ m29 (c * 16 + p) = m107 (16 * c + p))) ∧
  (∀ c, c < 8 → (∀ p, 16 ≤ p → bt (m28 c) p = false) ∧ m27 c = nI (cntP m107 c 16)) ∧ (∀ c, nc ≤ c → c < 8 → ∀ p, p < 16 → m107 (16 * c + p) = -1)
/-- what was paid of a claim, told by the entries before e -/
def sPaid (K A T : Nat → Int32) (k : Int32) : Nat → Int32
  | 0 => 0
  | e + 1 => if K e = 10 then if A e = k then sPaid K A T k e + T e else sPaid K A T k e + 0 else sPaid K A T k e + 0
/-- claims -/
def Gclaim (nc nk ne : Nat) (m47 m48 m49 m50 m51 m52 m53 m54 m107 m109 m110 m111 m112 m113 m114 m115 m120 m122 m123 : Nat → Int32) : Prop :=
  (m109 = m47 ∧ m110 = m48 ∧ m111 = m49 ∧ m112 = m51 ∧ m113 = m50 ∧ m114 = m52 ∧ m115 = m54) ∧
  (∀ k, k < nk → ∃ c p q, c < nc ∧ p < 16 ∧ q < 16 ∧ p ≠ q ∧ m47 k = nI c ∧ m48 k = nI p ∧ m49 k = nI q ∧ m107 (16 * c + p) ≠ -1 ∧ m107 (16 * c + q) ≠ -1) ∧
  (∀ k, k < nk → isIx 6 (m51 k) ∧ (∀ p, 16 ≤ p → bt (m54 k) p = false)) ∧ (∀ k, nk ≤ k → m51 k = 0 ∧ m53 k = 0 ∧ m54 k = 0) ∧
  (∀ k, k < 24 → m53 k = sPaid m120 m122 m123 (nI k) ne)
/-- hearings -/
def Ghear (nc nr : Nat) (m69 m70 m71 m137 m138 m139 : Nat → Int32) : Prop :=
  (m137 = m69 ∧ m138 = m70 ∧ m139 = m71) ∧ ∀ r, r < nr → isIx nc (m69 r) ∧ isIx 1001 (m70 r) ∧ isIx 4 (m71 r)
/-- exhibits -/
def Gexh (nx : Nat) (m84 m85 m86 m143 m144 m145 : Nat → Int32) : Prop :=
  m143 = m84 ∧ m144 = m85 ∧ m145 = m86 ∧ (∀ x, z01 (m85 x)) ∧ ∀ j, isIx 4 (m86 j)
