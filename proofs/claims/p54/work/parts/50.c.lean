/-- how many jurors are struck -/
def cntS (m141 : Nat → Int32) (c : Nat) : Nat → Nat
  | 0 => 0
  | j + 1 => cntS m141 c j + if m141 (14 * c + j) = 1 then 1 else 0
/-- juries -/
def Gjury (m72 m73 m74 m83 m140 m141 m142 : Nat → Int32) : Prop :=
  m140 = m72 ∧ (∀ j, z01 (m141 j)) ∧ ∀ c, c < 8 → ∃ k, k ≤ 6 ∧ m72 c = nI k ∧ k = cntS m141 c 14 ∧ (∀ j, j < 14 → (bt (m73 c) j = true ↔ m141 (14 * c + j) = 1)) ∧
    (k < 6 → (∀ s, s < 8 → m142 (8 * c + s) = -1) ∧ m83 c = 0) ∧
    (k = 6 → ∃ g, g ≤ 2 ∧ m83 c = nI g ∧ (∀ s, s < 8 → s < 6 ∨ 6 + g ≤ s → m142 (8 * c + s) = m74 (c * 8 + s)) ∧ (∀ s, 6 ≤ s → s < 6 + g → m142 (8 * c + s) = -1) ∧ (∀ s, s < 8 → isIx 14 (m74 (c * 8 + s))) ∧
      ∀ s r, s < 8 → r < 8 → (s < 6 ∨ 6 + g ≤ s) → (r < 6 ∨ 6 + g ≤ r) → m74 (c * 8 + s) = m74 (c * 8 + r) → s = r)
/-- is an entry sealed on a day, told by the sealings before i -/
def sSeal (E D O : Nat → Int32) (e d : Int32) : Nat → Int32
  | 0 => 0
  | i + 1 => if E i = e then if d < D i then sSeal E D O e d i else O i else sSeal E D O e d i
/-- seals -/
def Gseal (t ns : Nat) (m99 m100 m101 m136 : Nat → Int32) : Prop :=
  (∀ i, i < ns → isIx (t + 1) (m100 i)) ∧ (∀ i, z01 (m101 i)) ∧ ∀ e, e < 160 → ∀ d, d < 901 → m136 (901 * e + d) = sSeal m99 m100 m101 (nI e) (nI d) ns
/-- entries: what they are -/
def Gd1 (t nc nk ne : Nat) (m55 m56 m57 m58 m59 m61 m62 m120 m121 m122 m123 m124 m130 : Nat → Int32) : Prop :=
  (m120 = m55 ∧ m121 = m56 ∧ m122 = m57 ∧ m123 = m58 ∧ m124 = m59 ∧ m130 = m61) ∧
  (∀ e, e < ne → ∃ k d, k < 13 ∧ d ≤ t ∧ m55 e = nI k ∧ m56 e = nI d ∧ (11 ≤ k → isIx nc (m57 e)) ∧ (k < 11 → isIx nk (m57 e))) ∧
  (∀ e, e < ne → m55 e = 0 → isIx 3 (m58 e)) ∧
  (∀ e, e < ne → m55 e = 3 → ∃ m, m < e ∧ m58 e = nI m ∧ m55 m = 2) ∧
  (∀ e, e < ne → m55 e = 4 → ∃ m, m < e ∧ m59 e = nI m ∧ m55 m = 2 ∧ m57 m = m57 e) ∧
  (∀ e, e < ne → m55 e = 6 → ∃ o, o < e ∧ m58 e = nI o ∧ (m55 o = 4 ∨ m55 o = 5) ∧ m57 o = m57 e) ∧
  (∀ e, z01 (m61 e) ∧ z01 (m62 e)) ∧ (∀ e, e < ne → m61 e = 1 → m55 e = 4 ∨ m55 e = 5) ∧ (∀ e, ne ≤ e → m61 e = 0 ∧ m62 e = 0) ∧
  (∀ m, m < ne → (m62 m = 1 ↔ ∃ e, e < ne ∧ m55 e = 4 ∧ m59 e = nI m)) ∧
  (∀ e, e < ne → (m55 e = 1 ∨ m55 e = 2 ∨ m55 e = 4 ∨ m55 e = 5 ∨ m55 e = 6) → ∃ s, s < e ∧ m55 s = 0 ∧ m57 s = m57 e) ∧
  (∀ s r, s < ne → r < ne → m55 s = 0 → m55 r = 0 → m57 s = m57 r → s = r)
/-- entries: defects -/
def Gd2 (t ne : Nat) (m55 m65 m66 m67 m68 m132 m133 m134 m135 : Nat → Int32) : Prop :=
  (m133 = m66 ∧ m134 = m67 ∧ m135 = m68) ∧ (∀ e, z01 (m67 e) ∧ z01 (m68 e)) ∧
  (∀ e, e < ne → m132 e = m65 e + 1 ∧ (m65 e = -1 ∨ ((∃ d, d ≤ t ∧ m65 e = nI d) ∧ (m55 e = 1 ∨ m55 e = 2 ∨ m55 e = 3) ∧ ∃ x, 1 ≤ x ∧ x ≤ 60 ∧ m66 e = nI x))) ∧
  (∀ e, ne ≤ e → m132 e = 0 ∧ m68 e = 0)
def wayD (m55 m58 : Nat → Int32) (e : Nat) : Int32 := if m55 e = 0 then if m58 e = 1 then 3 else if m58 e = 2 then 7 else 0 else 0
/-- entries: the numbers of days of the deadlines that begin with them -/
def Gd3 (n nk ne : Nat) (m55 m57 m58 m63 m64 m116 m117 m118 m119 m125 m126 m131 : Nat → Int32) : Prop :=
  (∀ e, e < ne → (m55 e = 0 ∨ m55 e = 2 ∨ m55 e = 4 ∨ m55 e = 5 ∨ m55 e = 6 ∨ m55 e = 8) → (∃ x, 1 ≤ x ∧ x ≤ 100 + 60 * n ∧ m63 e = nI x) ∧ m64 e = m126 e) ∧
  (∀ e, z01 (m64 e) ∧ z01 (m126 e)) ∧
  (∀ e, e < ne → m55 e = 2 → m63 e = m125 e + m131 e) ∧
  (∀ k, k < nk → ∀ e, e < ne → m57 e = nI k → (m55 e = 0 ∨ m55 e = 4 ∨ m55 e = 6) → (m117 k < nI e → m63 e = m125 e + wayD m55 m58 e) ∧ (m117 k = nI e → m63 e = m125 e + wayD m55 m58 e + m116 k)) ∧
  (∀ k, k < nk → m117 k = -1 ∨ ∃ f, f < ne ∧ m117 k = nI f ∧ m57 f = nI k ∧ (m55 f = 0 ∨ (m55 f = 4 ∧ m58 f ≠ 0) ∨ (m55 f = 6 ∧ m55 (m58 f).toNatClampNeg = 4))) ∧
  (∀ k, k < nk → ∀ e, e < ne → m57 e = nI k → (m55 e = 5 ∨ m55 e = 8) → (m119 k < nI e → m63 e = m125 e) ∧ (m119 k = nI e → m63 e = m125 e + m118 k)) ∧
  (∀ k, k < nk → m119 k = -1 ∨ ∃ f, f < ne ∧ m119 k = nI f ∧ m57 f = nI k ∧ (m55 f = 5 ∨ m55 f = 8)) ∧
  (∀ e, ne ≤ e → m131 e = 0)
/-- what stateByDocket keeps: state, amount, day of the judgement, what was paid -/
def fStep (K D T : Int32) (q : Int32 × Int32 × Int32 × Int32) : Int32 × Int32 × Int32 × Int32 :=
  if K = 4 then (if T = 0 then (1, q.2) else q)
  else if K = 5 then ((if T = 0 then 1 else 2), T, D, q.2.2.2)
  else if K = 6 then (0, q.2)
  else if K = 7 then (3, q.2)
  else if K = 8 then ((if T = 0 then 2 else if T = 1 then 1 else 0), q.2)
  else if K = 9 then (4, q.2)
  else if K = 10 then ((if q.2.1 + q.2.1 * ((D - q.2.2.1) / 30) / 100 = q.2.2.2 + T then 5 else q.1), q.2.1, q.2.2.1, q.2.2.2 + T)
  else q
def sFold (K D A T : Nat → Int32) (k : Int32) : Nat → Int32 × Int32 × Int32 × Int32
  | 0 => (0, 0, 0, 0)
  | e + 1 => if A e = k then fStep (K e) (D e) (T e) (sFold K D A T k e) else sFold K D A T k e
/-- entries: what they leave of the claims -/
def Gd4 (nk ne : Nat) (m50 m51 m52 m53 m55 m56 m57 m58 m60 m61 m127 m128 m129 : Nat → Int32) : Prop :=
  (∀ k, k < 24 → (sFold m55 m56 m57 m58 (nI k) ne).1 = m51 k ∧ (sFold m55 m56 m57 m58 (nI k) ne).2.2.2 = m53 k) ∧
  (∀ k, k < nk → (m51 k = 2 ∨ m51 k = 3) → (sFold m55 m56 m57 m58 (nI k) ne).2.1 = m50 k ∧ ∃ j, j < ne ∧ m55 j = 5 ∧ m57 j = nI k ∧ m61 j = 0 ∧ (sFold m55 m56 m57 m58 (nI k) ne).2.2.1 = m56 j ∧ ∀ i, j < i → i < ne → ¬ (m55 i = 5 ∧ m57 i = nI k)) ∧
  (∀ e, e < ne → (m55 e = 4 ∨ m55 e = 5) → m127 e = 0 ∧ m128 e = m60 e) ∧
  (∀ k, k < nk → ∀ o, o < ne → m57 o = nI k → (m55 o = 4 ∨ m55 o = 5) → (∀ d, o < d → d < ne → ¬ (m55 d = 8 ∧ m57 d = nI k)) → m129 o = m52 k)
def InvP (t nh nc nk ne nr nx ns n : Nat) (M : gM) : Prop :=
  Gnum t nh nc nk ne nr nx ns n (M 1) (M 2) (M 3) (M 4) (M 5) (M 7) (M 8) (M 9) ∧ Ghol nh (M 11) (M 12) (M 102) ∧ Grule (M 13) (M 14) (M 103) (M 104) ∧ Gstay t ne (M 11) (M 15) (M 24) (M 120) (M 121) (M 122) ∧
  Gcase t nc (M 25) (M 26) (M 27) (M 28) (M 29) (M 38) (M 105) (M 106) (M 107) (M 108) ∧ Gclaim nc nk ne (M 47) (M 48) (M 49) (M 50) (M 51) (M 52) (M 53) (M 54) (M 107) (M 109) (M 110) (M 111) (M 112) (M 113) (M 114) (M 115) (M 120) (M 122) (M 123) ∧
  Ghear nc nr (M 69) (M 70) (M 71) (M 137) (M 138) (M 139) ∧ Gexh nx (M 84) (M 85) (M 86) (M 143) (M 144) (M 145) ∧ Gjury (M 72) (M 73) (M 74) (M 83) (M 140) (M 141) (M 142) ∧ Gseal t ns (M 99) (M 100) (M 101) (M 136) ∧
  Gd1 t nc nk ne (M 55) (M 56) (M 57) (M 58) (M 59) (M 61) (M 62) (M 120) (M 121) (M 122) (M 123) (M 124) (M 130) ∧ Gd2 t ne (M 55) (M 65) (M 66) (M 67) (M 68) (M 132) (M 133) (M 134) (M 135) ∧
  Gd3 n nk ne (M 55) (M 57) (M 58) (M 63) (M 64) (M 116) (M 117) (M 118) (M 119) (M 125) (M 126) (M 131) ∧ Gd4 nk ne (M 50) (M 51) (M 52) (M 53) (M 55) (M 56) (M 57) (M 58) (M 60) (M 61) (M 127) (M 128) (M 129)
def Inv (n : Nat) (M : gM) : Prop := ∃ t nh nc nk ne nr nx ns, InvP t nh nc nk ne nr nx ns n M
theorem Gnum.up {t nh nc nk ne nr nx ns n : Nat} {m1 m2 m3 m4 m5 m7 m8 m9 : Nat → Int32} (h : Gnum t nh nc nk ne nr nx ns n m1 m2 m3 m4 m5 m7 m8 m9) : Gnum t nh nc nk ne nr nx ns (n + 1) m1 m2 m3 m4 m5 m7 m8 m9 := by
  obtain ⟨h1, h2, a, b, c, d, e, f, g, i⟩ := h
  exact ⟨h1, h2, a, b, c, d, e, f, g, by omega⟩
theorem Gd3.up {n nk ne : Nat} {m55 m57 m58 m63 m64 m116 m117 m118 m119 m125 m126 m131 : Nat → Int32} (h : Gd3 n nk ne m55 m57 m58 m63 m64 m116 m117 m118 m119 m125 m126 m131) : Gd3 (n + 1) nk ne m55 m57 m58 m63 m64 m116 m117 m118 m119 m125 m126 m131 := by
  obtain ⟨h1, h2⟩ := h
  refine ⟨fun e he hk => ?_, h2⟩
  obtain ⟨⟨x, x1, x2, x3⟩, y⟩ := h1 e he hk
  exact ⟨⟨x, x1, by omega, x3⟩, y⟩
theorem InvP.up {t nh nc nk ne nr nx ns n : Nat} {M : gM} (h : InvP t nh nc nk ne nr nx ns n M) : InvP t nh nc nk ne nr nx ns (n + 1) M := by
  obtain ⟨h1, h2, h3, h4, h5, h6, h7, h8, h9, h10, h11, h12, h13, h14⟩ := h
  exact ⟨h1.up, h2, h3, h4, h5, h6, h7, h8, h9, h10, h11, h12, h13.up, h14⟩
theorem inv_mono : ∀ n M, n < 512 → Inv n M → Inv (n + 1) M := fun n M _ ⟨t, nh, nc, nk, ne, nr, nx, ns, h⟩ => ⟨t, nh, nc, nk, ne, nr, nx, ns, h.up⟩
/-- what was refused, what only reads -/
theorem InvP.r9 {t nh nc nk ne nr nx ns n : Nat} {M : gM} (v : Int32) (h : InvP t nh nc nk ne nr nx ns n M) : InvP t nh nc nk ne nr nx ns n (gset M 9 0 v) := h
theorem InvP.r10 {t nh nc nk ne nr nx ns n : Nat} {M : gM} (v : Int32) (h : InvP t nh nc nk ne nr nx ns n M) : InvP t nh nc nk ne nr nx ns n (gset M 10 0 v) := h
theorem inv_no {t nh nc nk ne nr nx ns n : Nat} {M : gM} {v : Int32} (h : InvP t nh nc nk ne nr nx ns n M) : Inv (n + 1) (gset M 9 0 v) := ⟨t, nh, nc, nk, ne, nr, nx, ns, (h.r9 v).up⟩
theorem inv_rd {t nh nc nk ne nr nx ns n : Nat} {M : gM} {v w : Int32} (h : InvP t nh nc nk ne nr nx ns n M) : Inv (n + 1) (gset (gset M 10 0 v) 9 0 w) := ⟨t, nh, nc, nk, ne, nr, nx, ns, ((h.r10 v).r9 w).up⟩
