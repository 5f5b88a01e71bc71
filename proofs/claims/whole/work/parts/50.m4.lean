/-! ===== strikes; who is seated ===== -/
/-- how many of the first i are left -/
def plN (u : Nat → Bool) : Nat → Nat
  | 0 => 0
  | i + 1 => plN u i + if u i then 1 else 0
/-- who is at a place when the first i have been looked at -/
def veN (u : Nat → Bool) (s : Nat) : Nat → Int32
  | 0 => 0
  | i + 1 => if u i && decide (s = plN u i) then nI i else veN u s i
def flR (f : Nat → Int32) (b : Nat) (u : Nat → Bool) (i : Nat) : Nat → Int32 := fun j => if b ≤ j ∧ j < b + plN u i then veN u (j - b) i else f j
theorem flR_0 (f : Nat → Int32) (b : Nat) (u : Nat → Bool) : flR f b u 0 = f := by
  funext j
  unfold flR
  rw [if_neg (show ¬ (b ≤ j ∧ j < b + plN u 0) from by show ¬ (b ≤ j ∧ j < b + 0); omega)]
theorem flR_s {f : Nat → Int32} {b : Nat} {u : Nat → Bool} {i : Nat} (h : u i = true) : flR f b u (i + 1) = upd (flR f b u i) (b + plN u i) (nI i) := by
  have e : plN u (i + 1) = plN u i + 1 := by
    show plN u i + (if u i then 1 else 0) = _
    rw [h, if_pos rfl]
  funext j
  rw [upd_at]
  unfold flR
  rw [e]
  by_cases c : j = b + plN u i
  · rw [if_pos c, if_pos (by omega)]
    show (if u i && decide (j - b = plN u i) then nI i else veN u (j - b) i) = _
    rw [h, decide_eq_true (show j - b = plN u i by omega)]
    rfl
  · rw [if_neg c]
    by_cases q : b ≤ j ∧ j < b + plN u i
    · rw [if_pos (by omega), if_pos q]
      show (if u i && decide (j - b = plN u i) then nI i else veN u (j - b) i) = _
      rw [h, decide_eq_false (show ¬ j - b = plN u i by omega)]
      rfl
    · rw [if_neg (by omega), if_neg q]
theorem flR_n {f : Nat → Int32} {b : Nat} {u : Nat → Bool} {i : Nat} (h : u i = false) : flR f b u (i + 1) = flR f b u i ∧ plN u (i + 1) = plN u i := by
  have e : plN u (i + 1) = plN u i := by
    show plN u i + (if u i then 1 else 0) = _
    rw [h, if_neg (by decide)]
    rfl
  refine ⟨?_, e⟩
  funext j
  unfold flR
  rw [e]
  show (if b ≤ j ∧ j < b + plN u i then (if u i && decide (j - b = plN u i) then nI i else veN u (j - b) i) else f j) = _
  rw [h]
  rfl
theorem plN_mono {u : Nat → Bool} {i : Nat} : ∀ d : Nat, plN u i ≤ plN u (i + d)
  | 0 => Nat.le_refl _
  | d + 1 => Nat.le_trans (plN_mono d) (Nat.le_add_right _ _)
theorem flR_end {f : Nat → Int32} {b : Nat} {u : Nat → Bool} : ∀ (d i : Nat), plN u i = plN u (i + d) → flR f b u i = flR f b u (i + d)
  | 0, i, _ => rfl
  | d + 1, i, h => by
    have h1 := plN_mono (u := u) (i := i) d
    have h2 : plN u (i + (d + 1)) = plN u (i + d) + if u (i + d) then 1 else 0 := rfl
    have hu : u (i + d) = false := by
      cases q : u (i + d) with
      | false => rfl
      | true =>
        rw [q, if_pos rfl] at h2
        omega
    have h3 := flR_n (f := f) (b := b) hu
    rw [show i + (d + 1) = i + d + 1 from rfl, h3.1]
    rw [show i + (d + 1) = i + d + 1 from rfl, h3.2] at h
    exact flR_end d i h
theorem ve_ok {u : Nat → Bool} {s : Nat} : ∀ i : Nat, s < plN u i → ∃ x, x < i ∧ veN u s i = nI x ∧ plN u x = s
  | 0, h => by
    have : s < 0 := h
    omega
  | i + 1, h => by
    show ∃ x, x < i + 1 ∧ (if u i && decide (s = plN u i) then nI i else veN u s i) = nI x ∧ plN u x = s
    have e : plN u (i + 1) = plN u i + if u i then 1 else 0 := rfl
    by_cases q : u i = true ∧ s = plN u i
    · rw [q.1, decide_eq_true q.2]
      exact ⟨i, by omega, rfl, q.2.symm⟩
    · have hs : s < plN u i := by
        rw [e] at h
        by_cases z : u i = true
        · rw [if_pos z] at h
          have : s ≠ plN u i := fun y => q ⟨z, y⟩
          omega
        · rw [if_neg z] at h
          omega
      obtain ⟨x, x1, x2, x3⟩ := ve_ok i hs
      have : (u i && decide (s = plN u i)) = false := by
        cases z : u i with
        | false => rfl
        | true => rw [decide_eq_false (fun y => q ⟨z, y⟩)]; rfl
      rw [this, if_neg (by decide)]
      exact ⟨x, by omega, x2, x3⟩
theorem ve_lt {u : Nat → Bool} {s : Nat} {x i : Nat} (h : veN u s i = nI x) (hx : x < 100) (hi : i ≤ 100) (hs : s < plN u i) : plN u x = s := by
  obtain ⟨y, y1, y2, y3⟩ := ve_ok i hs
  have : x = y := (nI_eq (by omega) (by omega)).mp (h.symm.trans y2)
  rw [this]
  exact y3
theorem pl_cnt {m141 : Nat → Int32} {c : Nat} {u : Nat → Bool} : ∀ i : Nat, (∀ j, j < i → (u j = true ↔ ¬ m141 (14 * c + j) = 1)) → plN u i + cntS m141 c i = i
  | 0, _ => rfl
  | i + 1, h => by
    have k := pl_cnt i (fun j hj => h j (by omega))
    show plN u i + (if u i then 1 else 0) + (cntS m141 c i + if m141 (14 * c + i) = 1 then 1 else 0) = i + 1
    have hi := h i (by omega)
    by_cases q : m141 (14 * c + i) = 1
    · rw [if_pos q, if_neg (fun z => hi.mp z q)]
      omega
    · rw [if_neg q, if_pos (hi.mpr q)]
      omega
theorem gput_at (M : gM) (a : Nat) (f : Nat → Int32) : gput M a f a = f := if_pos rfl
theorem gput_ne {M : gM} {a b : Nat} {f : Nat → Int32} (h : b ≠ a) : gput M a f b = M b := if_neg h
theorem gset_gput {M : gM} {a j : Nat} {v : Int32} {f : Nat → Int32} : gset (gput M a f) a j v = gput M a (upd f j v) := by
  funext b
  rw [gset_at]
  unfold gput
  by_cases c : b = a
  · rw [if_pos c, if_pos c, if_pos c]
  · rw [if_neg c, if_neg c, if_neg c]
theorem l_fill8 {M : gM} {c : Nat} {u : Nat → Bool} (hc : c < 8) (hu : ∀ j, j < 14 → (u j = true ↔ bt (M 73 c) j = false)) (h8 : plN u 14 = 8) : ∀ (d i f : Nat), i + d = 14 → d < f → f_X6_fillPlaces_l4 f (gput M 74 (flR (M 74) (c * 8) u i)) (nI c) (nI (plN u i)) (nI i) = rRet 0 (gput M 74 (flR (M 74) (c * 8) u 14)) := by
  have hg : ∀ F : gR, gI (nI c) 8 F = F := fun F => gI_nI hc (by omega)
  have hcc : (nI c).toNatClampNeg = c := nI_clamp (by omega)
  intro d
  induction d with
  | zero =>
    intro i f hi hf
    obtain ⟨g, rfl⟩ : ∃ g, f = g + 1 := ⟨f - 1, by omega⟩
    obtain rfl : i = 14 := by omega
    show f_X6_fillPlaces_lb4 _ _ (nI c) (nI (plN u 14)) (nI 14) = _
    unfold f_X6_fillPlaces_lb4
    rw [if_pos (by decide)]
  | succ d ih =>
    intro i f hi hf
    obtain ⟨g, rfl⟩ : ∃ g, f = g + 1 := ⟨f - 1, by omega⟩
    have hm := plN_mono (u := u) (i := i) (14 - i)
    rw [show i + (14 - i) = 14 by omega, h8] at hm
    show f_X6_fillPlaces_lb4 _ _ (nI c) (nI (plN u i)) (nI i) = _
    unfold f_X6_fillPlaces_lb4
    rw [show (14 : Int32) = nI 14 from by decide, if_neg (nI_ge (by omega) (by omega)), show (8 : Int32) = nI 8 from by decide]
    by_cases q : plN u i = 8
    · rw [if_pos (nI_le (by omega) (by omega)), flR_end (14 - i) i (by rw [show i + (14 - i) = 14 by omega, h8, q]), show i + (14 - i) = 14 by omega]
    · rw [if_neg (nI_ge (by omega) (by omega))]
      have ks : f_X6_isStruck (gput M 74 (flR (M 74) (c * 8) u i)) (nI c) (nI i) = rRet (if u i then 0 else 1) (gput M 74 (flR (M 74) (c * 8) u i)) := by
        unfold f_X6_isStruck
        rw [hg, hcc, gput_ne (by omega)]
        have t := b_test i (by omega) (M 73 c)
        cases z : u i with
        | true =>
          have := (hu i (by omega)).mp z
          rw [if_neg (fun h => by rw [t.mp h] at this; cases this)]
          rfl
        | false =>
          have : bt (M 73 c) i = true := by
            cases y : bt (M 73 c) i with
            | true => rfl
            | false => rw [(hu i (by omega)).mpr y] at z; cases z
          rw [if_pos (t.mpr this)]
          rfl
      rw [ks, rb_ret]
      cases z : u i with
      | true =>
        have e : plN u (i + 1) = plN u i + 1 := by
          show plN u i + (if u i then 1 else 0) = _
          rw [z, if_pos rfl]
        have k := ih (i + 1) g (by omega) (by omega)
        rw [flR_s z, e] at k
        rw [if_pos rfl, if_pos rfl, hg, gI_nI (show plN u i < 8 by omega) (by omega), hcc, nI_clamp (show plN u i < 2 ^ 31 by omega), gset_gput]
        simp only [bM, bV]
        rw [nI_1, nI_1]
        exact k
      | false =>
        have e := flR_n (f := M 74) (b := c * 8) z
        have k := ih (i + 1) g (by omega) (by omega)
        rw [e.1, e.2] at k
        rw [if_neg (by decide)]
        simp only [bV]
        rw [nI_1]
        exact k
theorem ix14 (c p : Nat) : (14 : Int32) * nI c + nI p = nI (14 * c + p) := by
  rw [show (14 : Int32) = nI 14 from by decide, nI_mul, nI_add]
theorem l_fill9 {M : gM} {c : Nat} {u : Nat → Bool} (hc : c < 8) (hu : ∀ j, j < 14 → (u j = true ↔ M 141 (14 * c + j) = 0)) (h8 : plN u 14 = 8) : ∀ (d i f : Nat), i + d = 14 → d < f → f_X9_strike_l133 f (gput M 142 (flR (M 142) (8 * c) u i)) (nI c) (nI (plN u i)) (nI i) = rRet (M 140 c) (gput M 142 (flR (M 142) (8 * c) u 14)) := by
  have hg : ∀ F : gR, gI (nI c) 8 F = F := fun F => gI_nI hc (by omega)
  have hcc : (nI c).toNatClampNeg = c := nI_clamp (by omega)
  intro d
  induction d with
  | zero =>
    intro i f hi hf
    obtain ⟨g, rfl⟩ : ∃ g, f = g + 1 := ⟨f - 1, by omega⟩
    obtain rfl : i = 14 := by omega
    show f_X9_strike_lb133 _ _ (nI c) (nI (plN u 14)) (nI 14) = _
    unfold f_X9_strike_lb133 f_X9_strike_b178
    rw [if_pos (by decide), hg, hcc, gput_ne (by omega)]
  | succ d ih =>
    intro i f hi hf
    obtain ⟨g, rfl⟩ : ∃ g, f = g + 1 := ⟨f - 1, by omega⟩
    have hm := plN_mono (u := u) (i := i + 1) (14 - (i + 1))
    rw [show i + 1 + (14 - (i + 1)) = 14 by omega, h8] at hm
    show f_X9_strike_lb133 _ _ (nI c) (nI (plN u i)) (nI i) = _
    unfold f_X9_strike_lb133
    rw [if_neg (show ¬ (14 : Int32) ≤ nI i from nI_ge (a := i) (b := 14) (by omega) (by omega)), ix14, gI_nI (show 14 * c + i < 112 by omega) (by omega), nI_clamp (show 14 * c + i < 2 ^ 31 by omega), gput_ne (by omega)]
    cases z : u i with
    | true =>
      have e : plN u (i + 1) = plN u i + 1 := by
        show plN u i + (if u i then 1 else 0) = _
        rw [z, if_pos rfl]
      have k := ih (i + 1) g (by omega) (by omega)
      rw [flR_s z, e] at k
      rw [if_pos ((hu i (by omega)).mp z), ix8, gI_nI (show 8 * c + plN u i < 64 by omega) (by omega), nI_clamp (show 8 * c + plN u i < 2 ^ 31 by omega), gset_gput]
      simp only [bM, bV]
      rw [nI_1, nI_1]
      exact k
    | false =>
      have e := flR_n (f := M 142) (b := 8 * c) z
      have k := ih (i + 1) g (by omega) (by omega)
      rw [e.1, e.2] at k
      rw [if_neg (fun h => by rw [(hu i (by omega)).mpr h] at z; cases z)]
      simp only [bV]
      rw [nI_1]
      exact k
theorem cntS_ne {f : Nat → Int32} {c c2 p : Nat} {s : Int32} (hp : p < 14) (h : c2 ≠ c) : ∀ q, q ≤ 14 → cntS (upd f (14 * c + p) s) c2 q = cntS f c2 q
  | 0, _ => rfl
  | q + 1, hq => by
    unfold cntS
    rw [cntS_ne hp h q (by omega), upd_ne (by omega)]
theorem cntS_up {f : Nat → Int32} {c p : Nat} (hp : p < 14) (h : ¬ f (14 * c + p) = 1) : ∀ q, q ≤ 14 → cntS (upd f (14 * c + p) 1) c q = cntS f c q + if p < q then 1 else 0
  | 0, _ => rfl
  | q + 1, hq => by
    unfold cntS
    rw [cntS_up hp h q (by omega)]
    by_cases e : q = p
    · subst e
      rw [upd_self, if_pos rfl, if_neg h, if_neg (by omega), if_pos (by omega)]
    · rw [upd_ne (by omega)]
      have h5 : (if p < q + 1 then 1 else 0) = (if p < q then 1 else 0 : Nat) := by
        by_cases e2 : p < q
        · rw [if_pos e2, if_pos (Nat.lt_succ_of_lt e2)]
        · rw [if_neg e2, if_neg (fun z => e2 (by omega))]
      rw [h5]
      omega
