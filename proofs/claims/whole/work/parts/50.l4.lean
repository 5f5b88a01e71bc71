/-! ===== how many members ===== -/
theorem bt_nI {a i : Nat} (h : i < 32) : bt (nI a) i = a.testBit i := by
  show (BitVec.ofNat 32 a).getLsbD i = _
  rw [BitVec.getLsbD_ofNat, decide_eq_true h, Bool.true_and]
theorem nI_and (a b : Nat) : nI a &&& nI b = nI (Nat.land a b) := by
  refine b_ext (fun i hi => ?_)
  rw [b_and, bt_nI hi, bt_nI hi, bt_nI hi]
  exact (Nat.testBit_and a b i).symm
theorem tb_big {a i : Nat} (h : a < 2 ^ 31) (hi : 31 ≤ i) : a.testBit i = false :=
  Nat.testBit_lt_two_pow (Nat.lt_of_lt_of_le h (Nat.pow_le_pow_right (by omega) hi))
theorem nI_ush {a n : Nat} (h : a < 2 ^ 31) (hn : n < 32) : ((nI a).toUInt32 >>> ((nI n).toUInt32 &&& Int32.toUInt32 31)).toInt32 = nI (Nat.shiftRight a n) := by
  refine b_ext (fun i hi => ?_)
  rw [b_ushr n hn, bt_nI hi]
  have e : (Nat.shiftRight a n).testBit i = a.testBit (n + i) := Nat.testBit_shiftRight a
  rw [e]
  by_cases c : n + i < 32
  · exact bt_nI c
  · rw [b_big (by omega), tb_big h (by omega)]
theorem nI_ssh {a n : Nat} (h : a < 2 ^ 31) (hn : n < 32) : nI a >>> (nI n &&& 31) = nI (Nat.shiftRight a n) := by
  refine b_ext (fun i hi => ?_)
  rw [b_sshr n hn _ hi, bt_nI hi]
  have e : (Nat.shiftRight a n).testBit i = a.testBit (n + i) := Nat.testBit_shiftRight a
  rw [e]
  by_cases c : n + i < 32
  · rw [if_pos c]; exact bt_nI c
  · rw [if_neg c, bt_nI (by omega), tb_big h (by omega), tb_big h (by omega)]
def sN (m : Nat) : Nat → Nat
  | 0 => 0
  | i + 1 => Nat.add (sN m i) (Nat.land (Nat.shiftRight m i) 1)
def pN1 (m : Nat) : Nat := Nat.sub m (Nat.land (Nat.shiftRight m 1) 1431655765)
def pN2 (m : Nat) : Nat := Nat.add (Nat.land m 858993459) (Nat.land (Nat.shiftRight m 2) 858993459)
def pN3 (m : Nat) : Nat := Nat.land (Nat.add m (Nat.shiftRight m 4)) 252645135
def pN4 (m : Nat) : Nat := Nat.add m (Nat.shiftRight m 8)
def pN5 (m : Nat) : Nat := Nat.land (Nat.add m (Nat.shiftRight m 16)) 63
def pCk (m : Nat) : Bool := Nat.beq (pN5 (pN4 (pN3 (pN2 (pN1 m))))) (sN m 16) && Nat.ble (Nat.land (Nat.shiftRight m 1) 1431655765) m && Nat.ble (pN4 (pN3 (pN2 (pN1 m)))) 1000000 && Nat.ble (pN3 (pN2 (pN1 m))) 1000000 && Nat.ble (pN2 (pN1 m)) 1000000
def pRw (a : Nat) : Nat → Bool
  | 0 => true
  | b + 1 => pCk (Nat.add (Nat.mul 256 a) b) && pRw a b
theorem pRw_0 : ∀ a, a < 16 → pRw (Nat.add 0 a) 256 = true := by decide +kernel
theorem pRw_1 : ∀ a, a < 16 → pRw (Nat.add 16 a) 256 = true := by decide +kernel
theorem pRw_2 : ∀ a, a < 16 → pRw (Nat.add 32 a) 256 = true := by decide +kernel
theorem pRw_3 : ∀ a, a < 16 → pRw (Nat.add 48 a) 256 = true := by decide +kernel
theorem pRw_4 : ∀ a, a < 16 → pRw (Nat.add 64 a) 256 = true := by decide +kernel
theorem pRw_5 : ∀ a, a < 16 → pRw (Nat.add 80 a) 256 = true := by decide +kernel
theorem pRw_6 : ∀ a, a < 16 → pRw (Nat.add 96 a) 256 = true := by decide +kernel
theorem pRw_7 : ∀ a, a < 16 → pRw (Nat.add 112 a) 256 = true := by decide +kernel
theorem pRw_8 : ∀ a, a < 16 → pRw (Nat.add 128 a) 256 = true := by decide +kernel
theorem pRw_9 : ∀ a, a < 16 → pRw (Nat.add 144 a) 256 = true := by decide +kernel
theorem pRw_10 : ∀ a, a < 16 → pRw (Nat.add 160 a) 256 = true := by decide +kernel
theorem pRw_11 : ∀ a, a < 16 → pRw (Nat.add 176 a) 256 = true := by decide +kernel
theorem pRw_12 : ∀ a, a < 16 → pRw (Nat.add 192 a) 256 = true := by decide +kernel
theorem pRw_13 : ∀ a, a < 16 → pRw (Nat.add 208 a) 256 = true := by decide +kernel
theorem pRw_14 : ∀ a, a < 16 → pRw (Nat.add 224 a) 256 = true := by decide +kernel
theorem pRw_15 : ∀ a, a < 16 → pRw (Nat.add 240 a) 256 = true := by decide +kernel
theorem pRw_ok (a : Nat) (h : a < 256) : pRw a 256 = true := by
  have h1 : a / 16 < 16 := by omega
  have h2 : a % 16 < 16 := by omega
  have e : ∀ i, a / 16 = i → a = Nat.add (16 * i) (a % 16) := by
    intro i hi
    show a = 16 * i + a % 16
    omega
  generalize a / 16 = i at h1 e
  match i, h1, e with
  | 0, _, e =>
    rw [e 0 rfl]
    exact pRw_0 _ h2
  | 1, _, e =>
    rw [e 1 rfl]
    exact pRw_1 _ h2
  | 2, _, e =>
    rw [e 2 rfl]
    exact pRw_2 _ h2
  | 3, _, e =>
    rw [e 3 rfl]
    exact pRw_3 _ h2
  | 4, _, e =>
    rw [e 4 rfl]
    exact pRw_4 _ h2
  | 5, _, e =>
    rw [e 5 rfl]
    exact pRw_5 _ h2
  | 6, _, e =>
    rw [e 6 rfl]
    exact pRw_6 _ h2
  | 7, _, e =>
    rw [e 7 rfl]
    exact pRw_7 _ h2
  | 8, _, e =>
    rw [e 8 rfl]
    exact pRw_8 _ h2
  | 9, _, e =>
    rw [e 9 rfl]
    exact pRw_9 _ h2
  | 10, _, e =>
    rw [e 10 rfl]
    exact pRw_10 _ h2
  | 11, _, e =>
    rw [e 11 rfl]
    exact pRw_11 _ h2
  | 12, _, e =>
    rw [e 12 rfl]
    exact pRw_12 _ h2
  | 13, _, e =>
    rw [e 13 rfl]
    exact pRw_13 _ h2
  | 14, _, e =>
    rw [e 14 rfl]
    exact pRw_14 _ h2
  | 15, _, e =>
    rw [e 15 rfl]
    exact pRw_15 _ h2
  | n + 16, h, _ => omega
theorem pRw_at {a : Nat} : ∀ n b : Nat, b < n → pRw a n = true → pCk (256 * a + b) = true
  | 0, b, h, _ => by omega
  | n + 1, b, h, h2 => by
    have h2 : (pCk (256 * a + n) && pRw a n) = true := h2
    rw [Bool.and_eq_true] at h2
    by_cases q : b = n
    · rw [q]; exact h2.1
    · exact pRw_at n b (by omega) h2.2
theorem pCk_all {m : Nat} (h : m < 65536) : pCk m = true := by
  have := pRw_at (a := m / 256) 256 (m % 256) (by omega) (pRw_ok (m / 256) (by omega))
  rw [show 256 * (m / 256) + m % 256 = m by omega] at this
  exact this
