/-! ===== how many members ===== -/
theorem bt_nI {a i : Nat} (h : i < 32) : bt (nI a) i = a.testBit i := by
  show (BitVec.ofNat 32 a).getLsbD i = _
  rw [BitVec.getLsbD_ofNat, decide_eq_true h, Bool.true_and]
theorem nI_and (a b : Nat) : nI a &&& nI b = nI (Nat.land a b) := by
  refine b_ext (fun i hi => ?_)
  rw [b_and, bt_nI hi, bt_nI hi, bt_nI hi]
  exact (Nat.testBit_and a b i).symm
theorem tb_big {a i : Nat} (h : a < 2 ^ 31) (hi : 31 ≤ i) : a.testBit i = false :=
  Nat.testBit_lt_two_pow (Nat.lt_of_lt_of_le h (Nat.pow_le_pow_right (by omega) hi))
theorem nI_ush {a n : Nat} (h : a < 2 ^ 31) (hn : n < 32) : ((nI a).toUInt32 >>> ((nI n).toUInt32 &&& Int32.toUInt32 31)).toInt32 = nI (Nat.shiftRight a n) := by
  refine b_ext (fun i hi => ?_)
  rw [b_ushr n hn, bt_nI hi]
  have e : (Nat.shiftRight a n).testBit i = a.testBit (n + i) := Nat.testBit_shiftRight a
  rw [e]
  by_cases c : n + i < 32
  · exact bt_nI c
  · rw [b_big (by omega), tb_big h (by omega)]
theorem nI_ssh {a n : Nat} (h : a < 2 ^ 31) (hn : n < 32) : nI a >>> (nI n &&& 31) = nI (Nat.shiftRight a n) := by
  refine b_ext (fun i hi => ?_)
  rw [b_sshr n hn _ hi, bt_nI hi]
  have e : (Nat.shiftRight a n).testBit i = a.testBit (n + i) := Nat.testBit_shiftRight a
  rw [e]
  by_cases c : n + i < 32
  · rw [if_pos c]; exact bt_nI c
  · rw [if_neg c, bt_nI (by omega), tb_big h (by omega), tb_big h (by omega)]
def sN (m : Nat) : Nat → Nat
  | 0 => 0
  | i + 1 => Nat.add (sN m i) (Nat.land (Nat.shiftRight m i) 1)
def pN1 (m : Nat) : Nat := Nat.sub m (Nat.land (Nat.shiftRight m 1) 1431655765)
def pN2 (m : Nat) : Nat := Nat.add (Nat.land m 858993459) (Nat.land (Nat.shiftRight m 2) 858993459)
def pN3 (m : Nat) : Nat := Nat.land (Nat.add m (Nat.shiftRight m 4)) 252645135
def pN4 (m : Nat) : Nat := Nat.add m (Nat.shiftRight m 8)
def pN5 (m : Nat) : Nat := Nat.land (Nat.add m (Nat.shiftRight m 16)) 63
def pCk (m : Nat) : Bool := Nat.beq (pN5 (pN4 (pN3 (pN2 (pN1 m))))) (sN m 16) && Nat.ble (Nat.land (Nat.shiftRight m 1) 1431655765) m && Nat.ble (pN4 (pN3 (pN2 (pN1 m)))) 1000000 && Nat.ble (pN3 (pN2 (pN1 m))) 1000000 && Nat.ble (pN2 (pN1 m)) 1000000
def pRw (a : Nat) : Nat → Bool
  | 0 => true
  | b + 1 => pCk (Nat.add (Nat.mul 256 a) b) && pRw a b
theorem pRw_ok : ∀ a, a < 256 → pRw a 256 = true := by decide +kernel
theorem pRw_at {a : Nat} : ∀ n b : Nat, b < n → pRw a n = true → pCk (256 * a + b) = true
  | 0, b, h, _ => by omega
  | n + 1, b, h, h2 => by
    have h2 : (pCk (256 * a + n) && pRw a n) = true := h2
    rw [Bool.and_eq_true] at h2
    by_cases q : b = n
    · rw [q]; exact h2.1
    · exact pRw_at n b (by omega) h2.2
theorem pCk_all {m : Nat} (h : m < 65536) : pCk m = true := by
  have := pRw_at (a := m / 256) 256 (m % 256) (by omega) (pRw_ok (m / 256) (by omega))
  rw [show 256 * (m / 256) + m % 256 = m by omega] at this
  exact this
