/-! ===== the reference's cells alone; loops ===== -/
def Rf (M' M : gM) : Prop := (∀ i, i ≠ 0 → M' 9 i = M 9 i) ∧ ∀ a, 102 ≤ a → M' a = M a
theorem Rf.rfl (M : gM) : Rf M M := ⟨fun _ _ => Eq.refl _, fun _ _ => Eq.refl _⟩
theorem Rf.s {M' M : gM} (h : Rf M' M) {a : Nat} (h1 : a < 102) (h2 : a ≠ 9) (j : Nat) (v : Int32) : Rf (gset M' a j v) M := by
  refine ⟨fun i hi => ?_, fun b hb => ?_⟩
  · rw [gset_ne (fun e => h2 e.symm)]
    exact h.1 i hi
  · rw [gset_ne (by omega)]
    exact h.2 b hb
theorem Rf.r {M' M : gM} (h : Rf M' M) (v : Int32) : Rf (gset M' 9 0 v) M := by
  refine ⟨fun i hi => ?_, fun b hb => ?_⟩
  · rw [gset_self, upd_at, if_neg hi]
    exact h.1 i hi
  · rw [gset_ne (by omega)]
    exact h.2 b hb
theorem Rf.o {M' M : gM} (h : Rf M' M) (v : Int32) : Rf (gset M' 10 0 v) M := h.s (by omega) (by omega) 0 v
/-- a loop upwards that ends at the first hit -/
theorem lp_ex {L : Nat → Int32 → gR} {p : Nat → Prop} {r0 r1 : gR} {n : Nat} (hit : ∀ g i, i < n → p i → L (g + 2) (nI i) = r1) (mis : ∀ g i, i < n → ¬ p i → L (g + 2) (nI i) = L (g + 1) (nI (i + 1))) (fin : ∀ g, L (g + 1) (nI n) = r0) :
    ∀ (d i f : Nat), i + d = n → d + 1 < f → ((∃ j, i ≤ j ∧ j < n ∧ p j) → L f (nI i) = r1) ∧ ((∀ j, i ≤ j → j < n → ¬ p j) → L f (nI i) = r0) := by
  intro d
  induction d with
  | zero =>
    intro i f hi hf
    obtain ⟨g, rfl⟩ : ∃ g, f = g + 1 := ⟨f - 1, by omega⟩
    obtain rfl : i = n := by omega
    exact ⟨fun ⟨j, h1, h2, _⟩ => by omega, fun _ => fin g⟩
  | succ d ih =>
    intro i f hi hf
    obtain ⟨g, rfl⟩ : ∃ g, f = g + 2 := ⟨f - 2, by omega⟩
    have k := ih (i + 1) (g + 1) (by omega) (by omega)
    by_cases c : p i
    · exact ⟨fun _ => hit g i (by omega) c, fun h => absurd c (h i (by omega) (by omega))⟩
    · rw [mis g i (by omega) c]
      refine ⟨fun ⟨j, h1, h2, h3⟩ => k.1 ⟨j, ?_, h2, h3⟩, fun h => k.2 (fun j h1 h2 => h j (by omega) h2)⟩
      have : j ≠ i := fun e => c (e ▸ h3)
      omega
/-- the same from 0, as one equation -/
theorem lp_ex0 {n : Nat} {L : Nat → Int32 → gR} {p : Nat → Prop} [D : Decidable (∃ j, j < n ∧ p j)] {r0 r1 : gR} (hit : ∀ g i, i < n → p i → L (g + 2) (nI i) = r1) (mis : ∀ g i, i < n → ¬ p i → L (g + 2) (nI i) = L (g + 1) (nI (i + 1))) (fin : ∀ g, L (g + 1) (nI n) = r0) (hn : n ≤ 2000) :
    L 5000 0 = if ∃ j, j < n ∧ p j then r1 else r0 := by
  have k := lp_ex hit mis fin n 0 5000 (by omega) (by omega)
  rw [nI_0] at k
  by_cases c : ∃ j, j < n ∧ p j
  · rw [if_pos c]
    obtain ⟨j, h1, h2⟩ := c
    exact k.1 ⟨j, by omega, h1, h2⟩
  · rw [if_neg c]
    exact k.2 (fun j _ h1 h2 => c ⟨j, h1, h2⟩)
/-- the last hit below n -/
def lastP (p : Nat → Bool) : Nat → Int32
  | 0 => -1
  | e + 1 => if p e then nI e else lastP p e
/-- a loop downwards that ends at the first hit -/
theorem lp_dn {L : Nat → Int32 → gR} {p : Nat → Bool} {M : gM} {n : Nat} (hit : ∀ g i, i < n → p i = true → L (g + 1) (nI i) = rRet (nI i) M) (mis : ∀ g i, i < n → p i = false → L (g + 1) (nI i) = L g (nI i - 1)) (fin : ∀ g, L (g + 1) (nI 0 - 1) = rRet (-1) M) :
    ∀ (i f : Nat), i ≤ n → i < f → L f (nI i - 1) = rRet (lastP p i) M := by
  intro i
  induction i with
  | zero =>
    intro f _ hf
    obtain ⟨g, rfl⟩ : ∃ g, f = g + 1 := ⟨f - 1, by omega⟩
    exact fin g
  | succ i ih =>
    intro f hi hf
    obtain ⟨g, rfl⟩ : ∃ g, f = g + 1 := ⟨f - 1, by omega⟩
    rw [nI_pred]
    show _ = rRet (if p i then nI i else lastP p i) M
    cases c : p i with
    | true => exact hit g i (by omega) c
    | false => rw [mis g i (by omega) c, ih g (by omega) (by omega)]; rfl
/-- a loop upwards with a state -/
def fold {σ : Type} (st : Nat → σ → σ) (s : σ) : Nat → σ
  | 0 => s
  | e + 1 => st e (fold st s e)
theorem lp_fd {σ : Type} {L : Nat → σ → Int32 → gR} {st : Nat → σ → σ} {s0 : σ} {F : σ → gR} {n : Nat} (stp : ∀ g i, i < n → L (g + 1) (fold st s0 i) (nI i) = L g (fold st s0 (i + 1)) (nI (i + 1))) (fin : ∀ g, L (g + 1) (fold st s0 n) (nI n) = F (fold st s0 n)) :
    ∀ (d i f : Nat), i + d = n → d < f → L f (fold st s0 i) (nI i) = F (fold st s0 n) := by
  intro d
  induction d with
  | zero =>
    intro i f hi hf
    obtain ⟨g, rfl⟩ : ∃ g, f = g + 1 := ⟨f - 1, by omega⟩
    obtain rfl : i = n := by omega
    exact fin g
  | succ d ih =>
    intro i f hi hf
    obtain ⟨g, rfl⟩ : ∃ g, f = g + 1 := ⟨f - 1, by omega⟩
    rw [stp g i (by omega)]
    exact ih (i + 1) g (by omega) (by omega)
theorem lp_fd0 {σ : Type} {L : Nat → σ → Int32 → gR} {st : Nat → σ → σ} {s0 : σ} {F : σ → gR} {n : Nat} (stp : ∀ g i, i < n → L (g + 1) (fold st s0 i) (nI i) = L g (fold st s0 (i + 1)) (nI (i + 1))) (fin : ∀ g, L (g + 1) (fold st s0 n) (nI n) = F (fold st s0 n)) (hn : n ≤ 2000) : L 5000 s0 0 = F (fold st s0 n) := by
  have k := lp_fd stp fin n 0 5000 (by omega) (by omega)
  rw [nI_0] at k
  exact k
/-- a last hit is a hit, and there is none behind it -/
theorem lastP_cases (p : Nat → Bool) : ∀ n : Nat, (lastP p n = -1 ∧ ∀ e, e < n → p e = false) ∨ ∃ e, e < n ∧ lastP p n = nI e ∧ p e = true ∧ ∀ i, e < i → i < n → p i = false
  | 0 => Or.inl ⟨rfl, fun e h => by omega⟩
  | n + 1 => by
    show ((if p n then nI n else lastP p n) = -1 ∧ _) ∨ ∃ e, e < n + 1 ∧ (if p n then nI n else lastP p n) = nI e ∧ _
    cases c : p n with
    | true => exact Or.inr ⟨n, by omega, if_pos rfl, c, fun i h1 h2 => by omega⟩
    | false =>
      rw [if_neg (by decide)]
      rcases lastP_cases p n with ⟨h1, h2⟩ | ⟨e, h1, h2, h3, h4⟩
      · refine Or.inl ⟨h1, fun e he => ?_⟩
        by_cases q : e = n
        · rw [q, c]
        · exact h2 e (by omega)
      · refine Or.inr ⟨e, by omega, h2, h3, fun i i1 i2 => ?_⟩
        by_cases q : i = n
        · rw [q, c]
        · exact h4 i i1 (by omega)
theorem lastP_none {p : Nat → Bool} {n : Nat} (h : ∀ e, e < n → p e = false) : lastP p n = -1 := by
  rcases lastP_cases p n with ⟨h1, -⟩ | ⟨e, h1, -, h3, -⟩
  · exact h1
  · rw [h e h1] at h3
    cases h3
theorem lastP_at {p : Nat → Bool} : ∀ {n e : Nat}, e < n → p e = true → (∀ i, e < i → i < n → p i = false) → lastP p n = nI e
  | 0, e, h, _, _ => by omega
  | n + 1, e, h, h2, h3 => by
    show (if p n then nI n else lastP p n) = nI e
    by_cases q : e = n
    · rw [← q, h2, if_pos rfl]
    · rw [h3 n (by omega) (by omega), if_neg (by decide)]
      exact lastP_at (by omega) h2 (fun i i1 i2 => h3 i i1 (by omega))
theorem lastP_congr {p q : Nat → Bool} : ∀ {n : Nat}, (∀ e, e < n → p e = q e) → lastP p n = lastP q n
  | 0, _ => rfl
  | n + 1, h => by
    show (if p n then nI n else lastP p n) = (if q n then nI n else lastP q n)
    rw [h n (by omega), lastP_congr (fun e he => h e (by omega))]
