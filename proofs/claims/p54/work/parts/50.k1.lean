theorem Gclaim.ent {nc nk ne : Nat} {m47 m48 m49 m50 m51 m52 m53 m54 m107 m109 m110 m111 m112 m113 m114 m115 m120 m122 m123 : Nat → Int32} (h : Gclaim nc nk ne m47 m48 m49 m50 m51 m52 m53 m54 m107 m109 m110 m111 m112 m113 m114 m115 m120 m122 m123) {m50' m51' m52' m53' m112' m113' m114' : Nat → Int32} {K A T : Int32}
    (e1 : m112' = m51') (e2 : m113' = m50') (e3 : m114' = m52') (h51 : ∀ k, k < nk → isIx 6 (m51' k)) (hz : ∀ k, nk ≤ k → m51' k = 0 ∧ m53' k = 0) (h53 : ∀ k, k < 24 → m53' k = if K = 10 then if A = nI k then m53 k + T else m53 k else m53 k) :
    Gclaim nc nk (ne + 1) m47 m48 m49 m50' m51' m52' m53' m54 m107 m109 m110 m111 m112' m113' m114' m115 (upd m120 ne K) (upd m122 ne A) (upd m123 ne T) := by
  obtain ⟨⟨q1, q2, q3, q4, q5, q6, q7⟩, g2, g3, g4, g5⟩ := h
  refine ⟨⟨q1, q2, q3, e1, e2, e3, q7⟩, g2, fun k hk => ⟨h51 k hk, (g3 k hk).2⟩, fun k hk => ⟨(hz k hk).1, (hz k hk).2, (g4 k hk).2.2⟩, fun k hk => ?_⟩
  rw [sPaid_add, h53 k hk, ← g5 k hk]
theorem Gclaim.ent0 {nc nk ne : Nat} {m47 m48 m49 m50 m51 m52 m53 m54 m107 m109 m110 m111 m112 m113 m114 m115 m120 m122 m123 : Nat → Int32} (h : Gclaim nc nk ne m47 m48 m49 m50 m51 m52 m53 m54 m107 m109 m110 m111 m112 m113 m114 m115 m120 m122 m123) {K A T : Int32} (hK : K ≠ 10) :
    Gclaim nc nk (ne + 1) m47 m48 m49 m50 m51 m52 m53 m54 m107 m109 m110 m111 m112 m113 m114 m115 (upd m120 ne K) (upd m122 ne A) (upd m123 ne T) :=
  h.ent h.1.2.2.2.1 h.1.2.2.2.2.1 h.1.2.2.2.2.2.1 (fun k hk => (h.2.2.1 k hk).1) (fun k hk => ⟨(h.2.2.2.1 k hk).1, (h.2.2.2.1 k hk).2.1⟩) (fun k _ => by rw [if_neg hK])
def en8 (M : gM) (ne t : Nat) (K A T O : Int32) : gM := gset (gset (gset (gset (gset (gset (gset M 55 ne K) 56 ne (nI t)) 57 ne A) 65 ne (-1)) 4 0 (nI (ne + 1))) 58 ne T) 59 ne O
def en9 (M : gM) (ne t : Nat) (K A T O : Int32) (r : Nat) : gM := gset (gset (gset (gset (gset (gset (gset M 120 ne K) 121 ne (nI t)) 122 ne A) 123 ne T) 124 ne O) 125 ne (M 103 r)) 126 ne (M 104 r)
theorem e_en8 {M : gM} {ne t : Nat} (a5 : M 4 0 = nI ne) (a1 : M 1 0 = nI t) (h : ne < 160) (K A T O : Int32) : f_X8_enter M K A T O = if K = 4 then f_X8_enter_b51 (en8 M ne t K A T O) K A (nI ne) else if K = 5 then f_X8_enter_b51 (en8 M ne t K A T O) K A (nI ne) else f_X8_enter_b70 (en8 M ne t K A T O) K (nI ne) := by
  have hg : ∀ F : gR, gI (nI ne) 160 F = F := fun F => gI_nI h (by omega)
  have hc : (nI ne).toNatClampNeg = ne := nI_clamp (by omega)
  have k : f_X3_add M K (M 1 0) A = rRet (nI ne) (gset (gset (gset (gset (gset M 55 ne K) 56 ne (nI t)) 57 ne A) 65 ne (-1)) 4 0 (nI (ne + 1))) := by
    unfold f_X3_add
    rw [a5, a1]
    simp only [bV, bM]
    rw [hg, hg, hg, hg, hc]
    show rRet (nI ne) (gset _ 4 0 (M 4 0 + 1)) = _
    rw [a5, nI_1]
  unfold f_X8_enter
  rw [k, rb_ret, hg, hc]
  simp only [bM]
  rw [hg]
  rfl
theorem e_b70n {M : gM} {ne : Nat} {K : Int32} (h : K = 1 ∨ K = 3 ∨ K = 7 ∨ K = 9 ∨ K = 10 ∨ K = 11 ∨ K = 12) : f_X8_enter_b70 M K (nI ne) = rRet (nI ne) M := by
  unfold f_X8_enter_b70 f_X8_ruleOf
  rcases h with h | h | h | h | h | h | h <;> rw [h] <;> rfl
theorem e_b70r {M : gM} {ne r : Nat} {K : Int32} (hne : ne < 160) (hr : f_X8_ruleOf M K = rRet (nI r) M) (r5 : r < 5) (hz : z01 (M 14 r)) : f_X8_enter_b70 M K (nI ne) = rRet (nI ne) (gset (gset M 63 ne (M 13 r)) 64 ne (M 14 r)) := by
  have hg : ∀ F : gR, gI (nI ne) 160 F = F := fun F => gI_nI hne (by omega)
  have hh : ∀ F : gR, gI (nI r) 5 F = F := fun F => gI_nI r5 (by omega)
  unfold f_X8_enter_b70
  rw [hr, rb_ret, if_neg (m1_ne (by omega)), hh, hg, nI_clamp (show ne < 2 ^ 31 by omega), nI_clamp (show r < 2 ^ 31 by omega)]
  simp only [bM]
  rw [hh, hg]
  exact z01_eq hz
theorem e_en8n {M : gM} {ne t : Nat} (a5 : M 4 0 = nI ne) (a1 : M 1 0 = nI t) (h : ne < 160) {K : Int32} (A T O : Int32) (hK : K = 1 ∨ K = 3 ∨ K = 7 ∨ K = 9 ∨ K = 10 ∨ K = 11 ∨ K = 12) : f_X8_enter M K A T O = rRet (nI ne) (en8 M ne t K A T O) := by
  rw [e_en8 a5 a1 h, if_neg (by rcases hK with h | h | h | h | h | h | h <;> rw [h] <;> decide), if_neg (by rcases hK with h | h | h | h | h | h | h <;> rw [h] <;> decide)]
  exact e_b70n hK
theorem e_en8r {M : gM} {ne t r : Nat} (a5 : M 4 0 = nI ne) (a1 : M 1 0 = nI t) (h : ne < 160) {K : Int32} (A T O : Int32) (h4 : K ≠ 4) (h5 : K ≠ 5) (hr : ∀ N, f_X8_ruleOf N K = rRet (nI r) N) (r5 : r < 5) (hz : z01 (M 14 r)) : f_X8_enter M K A T O = rRet (nI ne) (gset (gset (en8 M ne t K A T O) 63 ne (M 13 r)) 64 ne (M 14 r)) := by
  rw [e_en8 a5 a1 h, if_neg h4, if_neg h5]
  exact e_b70r h (hr _) r5 hz
theorem e_en8a {M : gM} {ne t r c : Nat} (a5 : M 4 0 = nI ne) (a1 : M 1 0 = nI t) (h : ne < 160) (hc : c < 24) {K : Int32} (T O : Int32) (h45 : K = 4 ∨ K = 5) (hr : ∀ N, f_X8_ruleOf N K = rRet (nI r) N) (r5 : r < 5) (hz : z01 (M 14 r)) : f_X8_enter M K (nI c) T O = rRet (nI ne) (gset (gset (gset (en8 M ne t K (nI c) T O) 60 ne (M 50 c)) 63 ne (M 13 r)) 64 ne (M 14 r)) := by
  have k : f_X8_enter_b51 (en8 M ne t K (nI c) T O) K (nI c) (nI ne) = rRet (nI ne) (gset (gset (gset (en8 M ne t K (nI c) T O) 60 ne (M 50 c)) 63 ne (M 13 r)) 64 ne (M 14 r)) := by
    unfold f_X8_enter_b51
    rw [gI_nI hc (by omega), gI_nI h (by omega), nI_clamp (show ne < 2 ^ 31 by omega), nI_clamp (show c < 2 ^ 31 by omega)]
    simp only [bM]
    exact e_b70r h (hr _) r5 hz
  rw [e_en8 a5 a1 h, k]
  rcases h45 with h | h
  · rw [if_pos h]
  · rw [if_neg (by rw [h]; decide), if_pos h]
/-- the rule of a kind, as the reference reads it -/
def ru9 (K : Int32) : Nat := if K = 0 then 0 else if K = 2 then 1 else if K = 5 then 2 else if K = 8 then 2 else 3
theorem e_b87 {M : gM} {ne r : Nat} {K A : Int32} (h23 : M 9 23 = nI ne) (h : ne < 160) (r5 : r < 5) (hz : z01 (M 104 r)) : f_X9_enter_b87 M K A (nI r) = if 11 ≤ K then rRet (nI ne) (gset (gset (gset M 125 ne (M 103 r)) 126 ne (M 104 r)) 9 23 (nI (ne + 1))) else gI A 24 (rRet (nI ne) (gset (gset (gset (gset (gset (gset M 125 ne (M 103 r)) 126 ne (M 104 r)) 127 ne (M 112 A.toNatClampNeg)) 128 ne (M 113 A.toNatClampNeg)) 129 ne (M 114 A.toNatClampNeg)) 9 23 (nI (ne + 1)))) := by
  have hg : ∀ F : gR, gI (nI ne) 160 F = F := fun F => gI_nI h (by omega)
  have hc : (nI ne).toNatClampNeg = ne := nI_clamp (by omega)
  have hh : ∀ F : gR, gI (nI r) 5 F = F := fun F => gI_nI r5 (by omega)
  have hr : (nI r).toNatClampNeg = r := nI_clamp (by omega)
  have e172 : ∀ N : gM, N 9 23 = nI ne → f_X9_enter_b172 N = rRet (nI ne) (gset N 9 23 (nI (ne + 1))) := by
    intro N hN
    unfold f_X9_enter_b172
    rw [hN, nI_1]
    show rRet (nI (ne + 1) - 1) _ = _
    rw [nI_pred]
  unfold f_X9_enter_b87
  rw [hh, h23, hg, hc, hr]
  simp only [bM]
  rw [hh]
  show gZ01 (M 104 r) (gI (M 9 23) 160 _) = _
  rw [z01_eq hz, h23, hg]
  by_cases k : 11 ≤ K
  · rw [if_pos k, if_pos k]
    show f_X9_enter_b172 (gset (gset M 125 ne (M 103 r)) 126 (M 9 23).toNatClampNeg (M 104 r)) = _
    rw [h23, hc]
    exact e172 _ h23
  · rw [if_neg k, if_neg k]
    show gI A 24 (gI (M 9 23) 160 (gI A 24 (gI (M 9 23) 160 (gI A 24 (gI (M 9 23) 160 (f_X9_enter_b172 (gset (gset (gset (gset (gset M 125 ne (M 103 r)) 126 (M 9 23).toNatClampNeg (M 104 r)) 127 (M 9 23).toNatClampNeg (M 112 A.toNatClampNeg)) 128 (M 9 23).toNatClampNeg (M 113 A.toNatClampNeg)) 129 (M 9 23).toNatClampNeg (M 114 A.toNatClampNeg)))))))) = _
    rw [h23, hg, hg, hg, hc, e172 (gset (gset (gset (gset (gset M 125 ne (M 103 r)) 126 ne (M 104 r)) 127 ne (M 112 A.toNatClampNeg)) 128 ne (M 113 A.toNatClampNeg)) 129 ne (M 114 A.toNatClampNeg)) h23]
    unfold gI
    by_cases q : 0 ≤ A ∧ A.toNatClampNeg < 24
    · rw [if_pos q, if_pos q, if_pos q]
    · rw [if_neg q, if_neg q]
theorem ru_lt (K : Int32) : ru9 K < 4 := by
  unfold ru9
  by_cases h0 : K = 0
  · rw [if_pos h0]; omega
  · rw [if_neg h0]
    by_cases h0 : K = 2
    · rw [if_pos h0]; omega
    · rw [if_neg h0]
      by_cases h0 : K = 5
      · rw [if_pos h0]; omega
      · rw [if_neg h0]
        by_cases h0 : K = 8
        · rw [if_pos h0]; omega
        · rw [if_neg h0]; omega
theorem e_en9c {M : gM} {ne t : Nat} (h23 : M 9 23 = nI ne) (h1 : M 9 1 = nI t) (h : ne < 160) (K A T O : Int32) : f_X9_enter M K A T O = f_X9_enter_b87 (gset (gset (gset (gset (gset M 120 ne K) 121 ne (nI t)) 122 ne A) 123 ne T) 124 ne O) K A (nI (ru9 K)) := by
  have hg : ∀ F : gR, gI (nI ne) 160 F = F := fun F => gI_nI h (by omega)
  have hc : (nI ne).toNatClampNeg = ne := nI_clamp (by omega)
  unfold f_X9_enter
  rw [h23, hg, hc]
  simp only [bM]
  show gI (M 9 23) 160 (gI (M 9 23) 160 (gI (M 9 23) 160 (gI (M 9 23) 160 (if K = 0 then f_X9_enter_b87 (gset (gset (gset (gset (gset M 120 ne K) 121 (M 9 23).toNatClampNeg (M 9 1)) 122 (M 9 23).toNatClampNeg A) 123 (M 9 23).toNatClampNeg T) 124 (M 9 23).toNatClampNeg O) K A 0 else _)))) = _
  show gI (M 9 23) 160 (gI (M 9 23) 160 (gI (M 9 23) 160 (gI (M 9 23) 160 (if K = 0 then f_X9_enter_b87 (gset (gset (gset (gset (gset M 120 ne K) 121 (M 9 23).toNatClampNeg (M 9 1)) 122 (M 9 23).toNatClampNeg A) 123 (M 9 23).toNatClampNeg T) 124 (M 9 23).toNatClampNeg O) K A 0 else if K = 2 then f_X9_enter_b87 (gset (gset (gset (gset (gset M 120 ne K) 121 (M 9 23).toNatClampNeg (M 9 1)) 122 (M 9 23).toNatClampNeg A) 123 (M 9 23).toNatClampNeg T) 124 (M 9 23).toNatClampNeg O) K A 1 else if K = 5 then f_X9_enter_b87 (gset (gset (gset (gset (gset M 120 ne K) 121 (M 9 23).toNatClampNeg (M 9 1)) 122 (M 9 23).toNatClampNeg A) 123 (M 9 23).toNatClampNeg T) 124 (M 9 23).toNatClampNeg O) K A 2 else if K = 8 then f_X9_enter_b87 (gset (gset (gset (gset (gset M 120 ne K) 121 (M 9 23).toNatClampNeg (M 9 1)) 122 (M 9 23).toNatClampNeg A) 123 (M 9 23).toNatClampNeg T) 124 (M 9 23).toNatClampNeg O) K A 2 else f_X9_enter_b87 (gset (gset (gset (gset (gset M 120 ne K) 121 (M 9 23).toNatClampNeg (M 9 1)) 122 (M 9 23).toNatClampNeg A) 123 (M 9 23).toNatClampNeg T) 124 (M 9 23).toNatClampNeg O) K A 3)))) = _
  rw [h23, hg, hg, hg, hg, hc, h1]
  unfold ru9
  by_cases h0 : K = 0
  · rw [if_pos h0, if_pos h0]; rfl
  · rw [if_neg h0, if_neg h0]
    by_cases h2 : K = 2
    · rw [if_pos h2, if_pos h2]; rfl
    · rw [if_neg h2, if_neg h2]
      by_cases h5 : K = 5
      · rw [if_pos h5, if_pos h5]; rfl
      · rw [if_neg h5, if_neg h5]
        by_cases h8 : K = 8
        · rw [if_pos h8, if_pos h8]; rfl
        · rw [if_neg h8, if_neg h8]; rfl
theorem e_en9 {M : gM} {ne t c : Nat} (h23 : M 9 23 = nI ne) (h1 : M 9 1 = nI t) (h : ne < 160) (hc : c < 24) {K : Int32} (T O : Int32) (hK : ¬ 11 ≤ K) (hz : z01 (M 104 (ru9 K))) : f_X9_enter M K (nI c) T O = rRet (nI ne) (gset (gset (gset (gset (en9 M ne t K (nI c) T O (ru9 K)) 127 ne (M 112 c)) 128 ne (M 113 c)) 129 ne (M 114 c)) 9 23 (nI (ne + 1))) := by
  have := ru_lt K
  rw [e_en9c h23 h1 h, e_b87 (M := gset (gset (gset (gset (gset M 120 ne K) 121 ne (nI t)) 122 ne (nI c)) 123 ne T) 124 ne O) h23 h (by omega) hz, if_neg hK, gI_nI hc (by omega), nI_clamp (show c < 2 ^ 31 by omega)]
  rfl
theorem e_en9s {M : gM} {ne t : Nat} (h23 : M 9 23 = nI ne) (h1 : M 9 1 = nI t) (h : ne < 160) {K : Int32} (A T O : Int32) (hK : 11 ≤ K) (hz : z01 (M 104 (ru9 K))) : f_X9_enter M K A T O = rRet (nI ne) (gset (en9 M ne t K A T O (ru9 K)) 9 23 (nI (ne + 1))) := by
  have := ru_lt K
  rw [e_en9c h23 h1 h, e_b87 (M := gset (gset (gset (gset (gset M 120 ne K) 121 ne (nI t)) 122 ne A) 123 ne T) 124 ne O) h23 h (by omega) hz, if_pos hK]
  rfl
theorem e_allow {M : gM} {ne : Nat} (a5 : M 4 0 = nI ne) (h : ne < 160) : f_X8_allow M 1 = rRet 0 M := by
  unfold f_X8_allow
  rw [if_neg i10, a5, show (160 : Int32) = nI 160 from by decide, if_pos (nI_lt h (by omega))]
theorem e_allow0 {M : gM} : f_X8_allow M 0 = rThr 2 M := by
  unfold f_X8_allow
  rw [if_pos rfl]
theorem e_allowF {M : gM} {ne : Nat} {x : Int32} (a5 : M 4 0 = nI ne) (h : ¬ ne < 160) (h2 : ne < 1000) : f_X8_allow M x = rThr 2 M := by
  unfold f_X8_allow
  rw [a5, show (160 : Int32) = nI 160 from by decide, if_neg (nI_nlt (by omega) (by omega))]
  by_cases c : x = 0
  · rw [if_pos c]
  · rw [if_neg c]
theorem e_room {M : gM} {ne : Nat} (h23 : M 9 23 = nI ne) (h2 : ne < 1000) : f_X9_hasRoom M = rRet (if ne < 160 then 1 else 0) M := by
  unfold f_X9_hasRoom
  rw [h23, show (160 : Int32) = nI 160 from by decide]
  by_cases c : ne < 160
  · rw [if_neg (nI_ge c (by omega)), if_pos c]
  · rw [if_pos (nI_le (by omega) (by omega)), if_neg c]
theorem e_served {M : gM} {ne : Nat} (h : M 4 0 = nI ne) (h5 : ne ≤ 160) (k : Int32) : f_X8_isServed M k = rRet (if lsV M ne 0 k = -1 then 0 else 1) M := by
  unfold f_X8_isServed
  rw [e_last8 h h5, rb_ret]
  by_cases c : lsV M ne 0 k = -1
  · rw [if_pos c, if_pos c]
  · rw [if_neg c, if_neg c]
/-- a claim waits for an answer -/
def unB (M : gM) (t ne k : Nat) : Bool := decide (M 51 k = 0) && (!decide (lsV M ne 0 (nI k) = -1) && (!ansB M t ne (nI k) && !mopB M t ne (nI k)))
theorem e_un8 {t nh nc nk ne nr nx ns n : Nat} {M : gM} (I : InvP t nh nc nk ne nr nx ns n M) {k : Nat} (hk : k < nk) : f_X8_isUnanswered M (nI k) = rRet (if unB M t ne k then 1 else 0) M := by
  obtain ⟨⟨a1, a2, a3, a4, a5, a6, a7, a8⟩, -, l1, l2, l3, l4, l5, l6, l7, l8⟩ := I.1
  unfold f_X8_isUnanswered unB
  rw [gI_nI (show k < 24 by omega) (by omega), nI_clamp (show k < 2 ^ 31 by omega), e_served a5 l5, rb_ret, e_ans8 I, rb_ret, e_mop8 I, rb_ret]
  by_cases c1 : M 51 k = 0
  · rw [if_pos c1, decide_eq_true c1]
    by_cases c2 : lsV M ne 0 (nI k) = -1
    · rw [if_pos c2, if_pos rfl, decide_eq_true c2]; rfl
    · rw [if_neg c2, if_neg i10, decide_eq_false c2]
      cases ansB M t ne (nI k) <;> cases mopB M t ne (nI k) <;> rfl
  · rw [if_neg c1, decide_eq_false c1]; rfl
theorem e_late8 {t nh nc nk ne nr nx ns n : Nat} {M : gM} (I : InvP t nh nc nk ne nr nx ns n M) (hn : n ≤ 512) {e : Nat} (he : e < ne) (hk : kdD (M 55 e)) : f_X8_isLate M (nI e) = rRet (paV t (duV M ne e)) M := by
  obtain ⟨⟨a1, a2, a3, a4, a5, a6, a7, a8⟩, -, l1, l2, l3, l4, l5, l6, l7, l8⟩ := I.1
  unfold f_X8_isLate
  rw [if_neg (m1_ne (by omega)), e_due8 I hn he hk, rb_ret, e_past8 a1, rb_ret]
  rcases paV_z t (duV M ne e) with z | z
  · rw [z, if_pos rfl]
  · rw [z, if_neg i10]
theorem e_lateA {t nh nc nk ne nr nx ns n : Nat} {M : gM} (I : InvP t nh nc nk ne nr nx ns n M) (hn : n ≤ 512) {k : Nat} (hk : k < nk) (hm : mopB M t ne (nI k) = false) : f_X8_isLate M (asV M ne (nI k)) = rRet (paV t (adV M t ne (nI k))) M := by
  obtain ⟨⟨a1, a2, a3, a4, a5, a6, a7, a8⟩, -, l1, l2, l3, l4, l5, l6, l7, l8⟩ := I.1
  unfold adV
  rw [hm]
  rcases as_dom M ne (nI k) with h | ⟨e, h1, h2, h3, h4, h5⟩
  · rw [h]
    rfl
  · rw [h2, if_neg (m1_ne (by omega)), if_neg (by decide), nI_clamp (show e < 2 ^ 31 by omega), e_late8 I hn h1 ?_]
    rcases h4 with h | h | h
    · exact Or.inl h
    · exact Or.inr (Or.inr (Or.inl h))
    · exact Or.inr (Or.inr (Or.inr (Or.inr (Or.inl h))))
def caB (M : gM) (t ne k : Nat) : Bool := unB M t ne k && decide (paV t (adV M t ne (nI k)) = 0)
theorem e_can9 {t nh nc nk ne nr nx ns n : Nat} {M' M : gM} (I : InvP t nh nc nk ne nr nx ns n M) (R : Rf M' M) (hn : n ≤ 512) {k : Nat} (hk : k < nk) : f_X9_canAnswer M' (nI k) = rRet (if ne < 160 then (if caB M t ne k then 1 else 0) else 0) M' := by
  obtain ⟨-, ⟨b1, b2, b3, b4, b5, b6, b7⟩, l1, l2, l3, l4, l5, l6, l7, l8⟩ := I.1
  have e112 : M' 112 = M 51 := (R.2 112 (by omega)).trans I.2.2.2.2.2.1.1.2.2.2.1
  unfold f_X9_canAnswer caB unB
  rw [e_room ((R.1 23 (by omega)).trans b5) (by omega), rb_ret, gI_nI (show k < 24 by omega) (by omega), nI_clamp (show k < 2 ^ 31 by omega), e112, e_last9 I R, lv_ls I (by decide) (by decide), rb_ret, e_ans9 I R, rb_ret, e_mop9 I R, rb_ret, e_aDue I R hn hk, rb_ret, e_past9 ((R.1 1 (by omega)).trans b1), rb_ret]
  by_cases c0 : ne < 160
  · rw [if_pos c0, if_pos c0, if_neg i10]
    by_cases c1 : M 51 k = 0
    · rw [if_pos c1, decide_eq_true c1]
      by_cases c2 : lsV M ne 0 (nI k) = -1
      · rw [if_pos c2, decide_eq_true c2]; rfl
      · rw [if_neg c2, decide_eq_false c2]
        rcases paV_z t (adV M t ne (nI k)) with z | z
        · rw [z]
          cases ansB M t ne (nI k) <;> cases mopB M t ne (nI k) <;> rfl
        · rw [z]
          cases ansB M t ne (nI k) <;> cases mopB M t ne (nI k) <;> rfl
    · rw [if_neg c1, decide_eq_false c1]; rfl
  · rw [if_neg c0, if_neg c0, if_pos rfl]
