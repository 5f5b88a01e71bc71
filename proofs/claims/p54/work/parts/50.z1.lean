/-! ===== a ghost step leaves the heap's cells alone ===== -/
def Ag (M1 M : gM) : Prop := ∀ a, gOk a → M1 a = M a
theorem Ag.rfl (M : gM) : Ag M M := fun _ _ => Eq.refl _
theorem Ag.trans {M2 M1 M : gM} (h : Ag M2 M1) (h2 : Ag M1 M) : Ag M2 M := fun a ha => (h a ha).trans (h2 a ha)
theorem Ag.st {M1 M : gM} (h : Ag M1 M) {a j : Nat} {v : Int32} (ha : ¬ gOk a) : Ag (gset M1 a j v) M := by
  intro b hb
  have q : b ≠ a := by
    intro q
    rw [q] at hb
    exact ha hb
  rw [gset_ne q]
  exact h b hb
def Fr (M : gM) (r : gR) : Prop := r.1 ≠ 0 → Ag r.2.2 M
theorem Fr.ret {M1 M : gM} {v : Int32} (h : Ag M1 M) : Fr M (rRet v M1) := fun _ => h
theorem Fr.thr {M1 M : gM} {k : Nat} (h : Ag M1 M) : Fr M (rThr k M1) := fun _ => h
theorem Fr.stuck {M : gM} : Fr M rStuck := fun h => absurd rfl h
theorem Fr.ite {M : gM} {P : Prop} {_ : Decidable P} {A B : gR} (ha : Fr M A) (hb : Fr M B) : Fr M (if P then A else B) := by
  by_cases h : P
  · rw [if_pos h]; exact ha
  · rw [if_neg h]; exact hb
theorem Fr.gI {M : gM} {i : Int32} {n : Nat} {F : gR} (h : Fr M F) : Fr M (gI i n F) := Fr.ite h Fr.stuck
theorem Fr.gNz {M : gM} {y : Int32} {F : gR} (h : Fr M F) : Fr M (gNz y F) := Fr.ite Fr.stuck h
theorem Fr.gZ01 {M : gM} {y : Int32} {F : gR} (h : Fr M F) : Fr M (gZ01 y F) := Fr.ite h Fr.stuck
theorem Fr.bV {M : gM} {x : Int32} {f : Int32 → gR} (h : ∀ y, Fr M (f y)) : Fr M (bV x f) := h x
theorem Fr.bM {M N : gM} {f : gM → gR} (hN : Ag N M) (h : ∀ M1, Ag M1 M → Fr M (f M1)) : Fr M (bM N f) := h N hN
theorem Fr.rb {M : gM} {r : gR} {K : Int32 → gM → gR} (h : Fr M r) (hk : ∀ v M1, Ag M1 M → Fr M (K v M1)) : Fr M (rb r K) := by
  show Fr M (if r.1 = 1 then K r.2.1 r.2.2 else r)
  by_cases c : r.1 = 1
  · rw [if_pos c]
    exact hk _ _ (h (by rw [c]; decide))
  · rw [if_neg c]
    exact h
/-- the ghosts behind a call of the class's, where the statements of whole say that the invariant holds behind it -/
theorem gh_I {rL : gR} {f : gM → gR} {P : gM → Prop} {E : gM} (h : AgI rL f P) (hf : ∀ M, Fr M (f M)) (hE : Ag rL.2.2 E) : P (gh E (f rL.2.2)) := by
  obtain ⟨v, M1, b, M2, h1, h2, -, -, hP⟩ := h
  have e : gh E (f rL.2.2) = M2 := by
    have e1 : rL.2.2 = M1 := by rw [h1]; rfl
    rw [e1] at hE ⊢
    have hF := hf M1
    rw [h2] at hF ⊢
    funext a
    unfold gh
    by_cases ha : gOk a
    · rw [if_pos ha, ← hE a ha]
      exact (hF (show (1 : Nat) ≠ 0 by decide) a ha).symm
    · rw [if_neg ha]
      rfl
  rw [e]
  exact hP
theorem gh_B {rL : gR} {f : gM → gR} {P : gM → Prop} {E : gM} (h : AgB rL f P) (hf : ∀ M, Fr M (f M)) (hE : Ag rL.2.2 E) : P (gh E (f rL.2.2)) := by
  obtain ⟨v, M1, b, M2, h1, h2, -, -, hP⟩ := h
  have e : gh E (f rL.2.2) = M2 := by
    have e1 : rL.2.2 = M1 := by rw [h1]; rfl
    rw [e1] at hE ⊢
    have hF := hf M1
    rw [h2] at hF ⊢
    funext a
    unfold gh
    by_cases ha : gOk a
    · rw [if_pos ha, ← hE a ha]
      exact (hF (show (1 : Nat) ≠ 0 by decide) a ha).symm
    · rw [if_neg ha]
      rfl
  rw [e]
  exact hP
theorem gh_ag (E : gM) (r : gR) : Ag (gh E r) E := fun a ha => if_pos ha
theorem fr_X9_refused {M0 : gM}  {M : gM} (h : Ag M M0) {a1 : Int32} : Fr M0 (f_X9_refused  M a1) := by
  unfold f_X9_refused
  exact (Fr.bM (h.st (by decide)) (fun M1 hM1 => (Fr.ite (Fr.ret hM1) (Fr.ret hM1))))
theorem fr_X9_pass_b32 {M0 : gM}  {M : gM} (h : Ag M M0) {a1 : Int32} {t1 : Int32} : Fr M0 (f_X9_pass_b32  M a1 t1) := by
  unfold f_X9_pass_b32
  exact (Fr.rb (fr_X9_refused h) (fun x2 M1 hM1 => (Fr.ite (Fr.bM (hM1.st (by decide)) (fun M3 hM3 => (Fr.ret hM3))) (Fr.ret hM1))))
theorem fr_X9_within {M0 : gM}  {M : gM} (h : Ag M M0) {a0 : Int32} {a1 : Int32} {a2 : Int32} : Fr M0 (f_X9_within  M a0 a1 a2) := by
  unfold f_X9_within
  exact (Fr.ite (Fr.ret h) (Fr.ite (Fr.ret h) (Fr.ret h)))
theorem fr_X9_pass {M0 : gM}  {M : gM} (h : Ag M M0) {a1 : Int32} : Fr M0 (f_X9_pass  M a1) := by
  unfold f_X9_pass
  exact (Fr.rb (fr_X9_within h) (fun x5 M4 hM4 => (Fr.ite (fr_X9_pass_b32 hM4) (Fr.ite (fr_X9_pass_b32 hM4) (fr_X9_pass_b32 hM4)))))
theorem fr_X9_isFree {M0 : gM}  {M : gM} (h : Ag M M0) {a1 : Int32} : Fr M0 (f_X9_isFree  M a1) := by
  unfold f_X9_isFree
  exact (Fr.gNz (Fr.ite (Fr.ret h) (Fr.ite (Fr.ret h) (Fr.gI (Fr.ite (Fr.ret h) (Fr.ret h))))))
theorem fr_X9_holiday_b49 {M0 : gM}  {M : gM} (h : Ag M M0) {a1 : Int32} {t1 : Int32} : Fr M0 (f_X9_holiday_b49  M a1 t1) := by
  unfold f_X9_holiday_b49
  exact (Fr.rb (fr_X9_refused h) (fun x2 M1 hM1 => (Fr.ite (Fr.rb (fr_X9_isFree hM1) (fun x4 M3 hM3 => (Fr.gZ01 (Fr.gI (Fr.bM (hM3.st (by decide)) (fun M5 hM5 => (Fr.bM (hM5.st (by decide)) (fun M6 hM6 => (Fr.ite (Fr.ret hM6) (Fr.ret hM6)))))))))) (Fr.ret hM1))))
theorem fr_X9_holiday_b44 {M0 : gM}  {M : gM} (h : Ag M M0) {a1 : Int32} : Fr M0 (f_X9_holiday_b44  M a1) := by
  unfold f_X9_holiday_b44
  exact (fr_X9_holiday_b49 h)
theorem fr_X9_holiday {M0 : gM}  {M : gM} (h : Ag M M0) {a1 : Int32} : Fr M0 (f_X9_holiday  M a1) := by
  unfold f_X9_holiday
  exact (Fr.rb (fr_X9_within h) (fun x8 M7 hM7 => (Fr.ite (fr_X9_holiday_b49 hM7) (Fr.ite (fr_X9_holiday_b44 hM7) (Fr.gI (Fr.ite (Fr.ite (fr_X9_holiday_b44 hM7) (fr_X9_holiday_b49 hM7)) (fr_X9_holiday_b44 hM7)))))))
theorem fr_X9_setRule_b29 {M0 : gM}  {M : gM} (h : Ag M M0) {a1 : Int32} {a2 : Int32} {a3 : Int32} {t1 : Int32} : Fr M0 (f_X9_setRule_b29  M a1 a2 a3 t1) := by
  unfold f_X9_setRule_b29
  exact (Fr.rb (fr_X9_refused h) (fun x2 M1 hM1 => (Fr.ite (Fr.gI (Fr.bV (fun x3 => (Fr.gI (Fr.bM (hM1.st (by decide)) (fun M4 hM4 => (Fr.gZ01 (Fr.gI (Fr.bM (hM4.st (by decide)) (fun M5 hM5 => (Fr.ret hM5))))))))))) (Fr.ret hM1))))
theorem fr_X9_setRule {M0 : gM}  {M : gM} (h : Ag M M0) {a1 : Int32} {a2 : Int32} {a3 : Int32} : Fr M0 (f_X9_setRule  M a1 a2 a3) := by
  unfold f_X9_setRule
  exact (Fr.rb (fr_X9_within h) (fun x7 M6 hM6 => (Fr.ite (fr_X9_setRule_b29 hM6) (Fr.rb (fr_X9_within hM6) (fun x9 M8 hM8 => (Fr.ite (fr_X9_setRule_b29 hM8) (fr_X9_setRule_b29 hM8)))))))
theorem fr_X9_newCase {M0 : gM}  {M : gM} (h : Ag M M0) {a1 : Int32} : Fr M0 (f_X9_newCase  M a1) := by
  unfold f_X9_newCase
  exact (Fr.gI (Fr.bM (h.st (by decide)) (fun M1 hM1 => (Fr.gI (Fr.bM (hM1.st (by decide)) (fun M2 hM2 => (Fr.bM (hM2.st (by decide)) (fun M3 hM3 => (Fr.ret hM3)))))))))
theorem fr_X9_open_b28 {M0 : gM}  {M : gM} (h : Ag M M0) {a1 : Int32} {t1 : Int32} : Fr M0 (f_X9_open_b28  M a1 t1) := by
  unfold f_X9_open_b28
  exact (Fr.rb (fr_X9_refused h) (fun x2 M1 hM1 => (Fr.ite (Fr.rb (fr_X9_newCase hM1) (fun x4 M3 hM3 => (Fr.ret hM3))) (Fr.ret hM1))))
theorem fr_X9_open {M0 : gM}  {M : gM} (h : Ag M M0) {a1 : Int32} : Fr M0 (f_X9_open  M a1) := by
  unfold f_X9_open
  exact (Fr.rb (fr_X9_within h) (fun x6 M5 hM5 => (Fr.ite (fr_X9_open_b28 hM5) (Fr.ite (fr_X9_open_b28 hM5) (fr_X9_open_b28 hM5)))))
theorem fr_X9_isPerson {M0 : gM}  {M : gM} (h : Ag M M0) {a0 : Int32} : Fr M0 (f_X9_isPerson  M a0) := by
  unfold f_X9_isPerson
  exact (Fr.rb (fr_X9_within h) (fun x2 M1 hM1 => (Fr.gZ01 (Fr.ret hM1))))
theorem fr_X9_isCase {M0 : gM}  {M : gM} (h : Ag M M0) {a1 : Int32} : Fr M0 (f_X9_isCase  M a1) := by
  unfold f_X9_isCase
  exact (Fr.rb (fr_X9_within h) (fun x2 M1 hM1 => (Fr.gZ01 (Fr.ret hM1))))
theorem fr_X9_isParty {M0 : gM}  {M : gM} (h : Ag M M0) {a1 : Int32} {a2 : Int32} : Fr M0 (f_X9_isParty  M a1 a2) := by
  unfold f_X9_isParty
  exact (Fr.gI (Fr.ite (Fr.ret h) (Fr.ret h)))
theorem fr_X9_join_lb96 {M0 : gM} {self96 : gM → Int32 → Int32 → Int32 → gR} (hs96 : ∀ (M : gM) (x0 : Int32) (x1 : Int32) (x2 : Int32), Ag M M0 → Fr M0 (self96 M x0 x1 x2)) {M : gM} (h : Ag M M0) {a1 : Int32} {a5 : Int32} {a6 : Int32} : Fr M0 (f_X9_join_lb96 self96 M a1 a5 a6) := by
  unfold f_X9_join_lb96
  exact (Fr.ite (Fr.ret h) (Fr.rb (fr_X9_isParty h) (fun x2 M1 hM1 => (Fr.ite (Fr.bV (fun x3 => (Fr.bV (fun x4 => (hs96 _ _ _ _ hM1))))) (Fr.bV (fun x5 => (Fr.bV (fun x6 => (hs96 _ _ _ _ hM1)))))))))
theorem fr_X9_join_l96 {M0 : gM}  : ∀ (n : Nat) {M : gM} (h : Ag M M0) {a0 : Int32} {a1 : Int32} {a2 : Int32}, Fr M0 (f_X9_join_l96  n M a0 a1 a2)
  | 0, _, _, _, _, _ => Fr.stuck
  | n + 1, _, h, _, _, _ => fr_X9_join_lb96 (fun _ _ _ _ h2 => fr_X9_join_l96 n h2) h
theorem fr_X9_join_b55 {M0 : gM}  {M : gM} (h : Ag M M0) {a1 : Int32} {a2 : Int32} {a3 : Int32} {t1 : Int32} : Fr M0 (f_X9_join_b55  M a1 a2 a3 t1) := by
  unfold f_X9_join_b55
  exact (Fr.rb (fr_X9_refused h) (fun x8 M7 hM7 => (Fr.ite (Fr.gI (Fr.bM (hM7.st (by decide)) (fun M9 hM9 => (Fr.gI (Fr.bM (hM9.st (by decide)) (fun M10 hM10 => (fr_X9_join_l96 5000 hM10))))))) (Fr.ret hM7))))
theorem fr_X9_join_b29 {M0 : gM}  {M : gM} (h : Ag M M0) {a1 : Int32} {a2 : Int32} {a3 : Int32} {t0 : Int32} : Fr M0 (f_X9_join_b29  M a1 a2 a3 t0) := by
  unfold f_X9_join_b29
  exact (Fr.ite (fr_X9_join_b55 h) (Fr.rb (fr_X9_isParty h) (fun x12 M11 hM11 => (Fr.ite (fr_X9_join_b55 hM11) (fr_X9_join_b55 hM11)))))
theorem fr_X9_join_b28 {M0 : gM}  {M : gM} (h : Ag M M0) {a1 : Int32} {a2 : Int32} {a3 : Int32} : Fr M0 (f_X9_join_b28  M a1 a2 a3) := by
  unfold f_X9_join_b28
  exact (fr_X9_join_b29 h)
theorem fr_X9_join {M0 : gM}  {M : gM} (h : Ag M M0) {a1 : Int32} {a2 : Int32} {a3 : Int32} : Fr M0 (f_X9_join  M a1 a2 a3) := by
  unfold f_X9_join
  exact (Fr.rb (fr_X9_isCase h) (fun x14 M13 hM13 => (Fr.ite (fr_X9_join_b28 hM13) (Fr.rb (fr_X9_isPerson hM13) (fun x16 M15 hM15 => (Fr.ite (fr_X9_join_b28 hM15) (Fr.rb (fr_X9_within hM15) (fun x18 M17 hM17 => (Fr.ite (fr_X9_join_b28 hM17) (fr_X9_join_b29 hM17))))))))))
theorem fr_X9_claim_b128 {M0 : gM}  {M : gM} (h : Ag M M0) {a1 : Int32} {a2 : Int32} {a3 : Int32} {a4 : Int32} {t1 : Int32} : Fr M0 (f_X9_claim_b128  M a1 a2 a3 a4 t1) := by
  unfold f_X9_claim_b128
  exact (Fr.rb (fr_X9_refused h) (fun x2 M1 hM1 => (Fr.ite (Fr.gI (Fr.bM (hM1.st (by decide)) (fun M3 hM3 => (Fr.gI (Fr.bM (hM3.st (by decide)) (fun M4 hM4 => (Fr.gI (Fr.bM (hM4.st (by decide)) (fun M5 hM5 => (Fr.gI (Fr.bM (hM5.st (by decide)) (fun M6 hM6 => (Fr.gI (Fr.bM (hM6.st (by decide)) (fun M7 hM7 => (Fr.gI (Fr.bM (hM7.st (by decide)) (fun M8 hM8 => (Fr.gI (Fr.bM (hM8.st (by decide)) (fun M9 hM9 => (Fr.bM (hM9.st (by decide)) (fun M10 hM10 => (Fr.ret hM10)))))))))))))))))))))))) (Fr.ret hM1))))
theorem fr_X9_claim_b91 {M0 : gM}  {M : gM} (h : Ag M M0) {a1 : Int32} {a2 : Int32} {a3 : Int32} {a4 : Int32} {a5 : Int32} {t0 : Int32} : Fr M0 (f_X9_claim_b91  M a1 a2 a3 a4 a5 t0) := by
  unfold f_X9_claim_b91
  exact (Fr.ite (fr_X9_claim_b128 h) (Fr.rb (fr_X9_within h) (fun x12 M11 hM11 => (Fr.ite (fr_X9_claim_b128 hM11) (Fr.ite (fr_X9_claim_b128 hM11) (fr_X9_claim_b128 hM11))))))
theorem fr_X9_claim_b90 {M0 : gM}  {M : gM} (h : Ag M M0) {a1 : Int32} {a2 : Int32} {a3 : Int32} {a4 : Int32} {a5 : Int32} : Fr M0 (f_X9_claim_b90  M a1 a2 a3 a4 a5) := by
  unfold f_X9_claim_b90
  exact (fr_X9_claim_b91 h)
theorem fr_X9_claim_b27 {M0 : gM}  {M : gM} (h : Ag M M0) {a1 : Int32} {a2 : Int32} {a3 : Int32} {a4 : Int32} {t0 : Int32} : Fr M0 (f_X9_claim_b27  M a1 a2 a3 a4 t0) := by
  unfold f_X9_claim_b27
  exact (Fr.ite (fr_X9_claim_b90 h) (Fr.ite (fr_X9_claim_b90 h) (Fr.rb (fr_X9_isParty h) (fun x14 M13 hM13 => (Fr.ite (fr_X9_claim_b90 hM13) (Fr.rb (fr_X9_isParty hM13) (fun x16 M15 hM15 => (Fr.ite (fr_X9_claim_b90 hM15) (Fr.gI (Fr.gI (Fr.ite (fr_X9_claim_b90 hM15) (fr_X9_claim_b91 hM15))))))))))))
theorem fr_X9_claim_b26 {M0 : gM}  {M : gM} (h : Ag M M0) {a1 : Int32} {a2 : Int32} {a3 : Int32} {a4 : Int32} : Fr M0 (f_X9_claim_b26  M a1 a2 a3 a4) := by
  unfold f_X9_claim_b26
  exact (fr_X9_claim_b27 h)
theorem fr_X9_claim {M0 : gM}  {M : gM} (h : Ag M M0) {a1 : Int32} {a2 : Int32} {a3 : Int32} {a4 : Int32} : Fr M0 (f_X9_claim  M a1 a2 a3 a4) := by
  unfold f_X9_claim
  exact (Fr.rb (fr_X9_isCase h) (fun x18 M17 hM17 => (Fr.ite (fr_X9_claim_b26 hM17) (Fr.rb (fr_X9_isPerson hM17) (fun x20 M19 hM19 => (Fr.ite (fr_X9_claim_b26 hM19) (Fr.rb (fr_X9_isPerson hM19) (fun x22 M21 hM21 => (Fr.ite (fr_X9_claim_b26 hM21) (fr_X9_claim_b27 hM21))))))))))
theorem fr_X9_hasRoom {M0 : gM}  {M : gM} (h : Ag M M0)  : Fr M0 (f_X9_hasRoom  M ) := by
  unfold f_X9_hasRoom
  exact (Fr.ite (Fr.ret h) (Fr.ret h))
theorem fr_X9_latest_lb5 {M0 : gM} {self5 : gM → Int32 → Int32 → Int32 → Int32 → gR} (hs5 : ∀ (M : gM) (x0 : Int32) (x1 : Int32) (x2 : Int32) (x3 : Int32), Ag M M0 → Fr M0 (self5 M x0 x1 x2 x3)) {M : gM} (h : Ag M M0) {a1 : Int32} {a2 : Int32} {a3 : Int32} {a4 : Int32} : Fr M0 (f_X9_latest_lb5 self5 M a1 a2 a3 a4) := by
  unfold f_X9_latest_lb5
  exact (Fr.ite (Fr.ret h) (Fr.gI (Fr.ite (Fr.gI (Fr.ite (Fr.gI (Fr.ite (Fr.bV (fun x1 => (hs5 _ _ _ _ _ h))) (Fr.bV (fun x2 => (hs5 _ _ _ _ _ h))))) (Fr.bV (fun x3 => (hs5 _ _ _ _ _ h))))) (Fr.bV (fun x4 => (hs5 _ _ _ _ _ h))))))
theorem fr_X9_latest_l5 {M0 : gM}  : ∀ (n : Nat) {M : gM} (h : Ag M M0) {a0 : Int32} {a1 : Int32} {a2 : Int32} {a3 : Int32}, Fr M0 (f_X9_latest_l5  n M a0 a1 a2 a3)
  | 0, _, _, _, _, _, _ => Fr.stuck
  | n + 1, _, h, _, _, _, _ => fr_X9_latest_lb5 (fun _ _ _ _ _ h2 => fr_X9_latest_l5 n h2) h
theorem fr_X9_latest {M0 : gM}  {M : gM} (h : Ag M M0) {a1 : Int32} {a2 : Int32} : Fr M0 (f_X9_latest  M a1 a2) := by
  unfold f_X9_latest
  exact (fr_X9_latest_l5 5000 h)
theorem fr_X9_enter_b172 {M0 : gM}  {M : gM} (h : Ag M M0)  : Fr M0 (f_X9_enter_b172  M ) := by
  unfold f_X9_enter_b172
  exact (Fr.bM (h.st (by decide)) (fun M1 hM1 => (Fr.ret hM1)))
theorem fr_X9_enter_b87 {M0 : gM}  {M : gM} (h : Ag M M0) {a1 : Int32} {a2 : Int32} {t0 : Int32} : Fr M0 (f_X9_enter_b87  M a1 a2 t0) := by
  unfold f_X9_enter_b87
  exact (Fr.gI (Fr.gI (Fr.bM (h.st (by decide)) (fun M2 hM2 => (Fr.gI (Fr.gZ01 (Fr.gI (Fr.bM (hM2.st (by decide)) (fun M3 hM3 => (Fr.ite (fr_X9_enter_b172 hM3) (Fr.gI (Fr.gI (Fr.bM (hM3.st (by decide)) (fun M4 hM4 => (Fr.gI (Fr.gI (Fr.bM (hM4.st (by decide)) (fun M5 hM5 => (Fr.gI (Fr.gI (Fr.bM (hM5.st (by decide)) (fun M6 hM6 => (fr_X9_enter_b172 hM6)))))))))))))))))))))))
theorem fr_X9_enter_b82 {M0 : gM}  {M : gM} (h : Ag M M0) {a1 : Int32} {a2 : Int32} : Fr M0 (f_X9_enter_b82  M a1 a2) := by
  unfold f_X9_enter_b82
  exact (fr_X9_enter_b87 h)
theorem fr_X9_enter {M0 : gM}  {M : gM} (h : Ag M M0) {a1 : Int32} {a2 : Int32} {a3 : Int32} {a4 : Int32} : Fr M0 (f_X9_enter  M a1 a2 a3 a4) := by
  unfold f_X9_enter
  exact (Fr.gI (Fr.bM (h.st (by decide)) (fun M7 hM7 => (Fr.gI (Fr.bM (hM7.st (by decide)) (fun M8 hM8 => (Fr.gI (Fr.bM (hM8.st (by decide)) (fun M9 hM9 => (Fr.gI (Fr.bM (hM9.st (by decide)) (fun M10 hM10 => (Fr.gI (Fr.bM (hM10.st (by decide)) (fun M11 hM11 => (Fr.ite (fr_X9_enter_b87 hM11) (Fr.ite (fr_X9_enter_b87 hM11) (Fr.ite (fr_X9_enter_b82 hM11) (Fr.ite (fr_X9_enter_b82 hM11) (fr_X9_enter_b87 hM11))))))))))))))))))))
theorem fr_X9_serve_b79 {M0 : gM}  {M : gM} (h : Ag M M0) {a1 : Int32} {a2 : Int32} {t1 : Int32} : Fr M0 (f_X9_serve_b79  M a1 a2 t1) := by
  unfold f_X9_serve_b79
  exact (Fr.rb (fr_X9_refused h) (fun x2 M1 hM1 => (Fr.ite (Fr.rb (fr_X9_enter hM1) (fun x4 M3 hM3 => (Fr.ret hM3))) (Fr.ret hM1))))
theorem fr_X9_serve_b58 {M0 : gM}  {M : gM} (h : Ag M M0) {a1 : Int32} {a2 : Int32} {a3 : Int32} {t0 : Int32} : Fr M0 (f_X9_serve_b58  M a1 a2 a3 t0) := by
  unfold f_X9_serve_b58
  exact (Fr.ite (fr_X9_serve_b79 h) (Fr.ite (fr_X9_serve_b79 h) (fr_X9_serve_b79 h)))
theorem fr_X9_serve_b57 {M0 : gM}  {M : gM} (h : Ag M M0) {a1 : Int32} {a2 : Int32} {a3 : Int32} : Fr M0 (f_X9_serve_b57  M a1 a2 a3) := by
  unfold f_X9_serve_b57
  exact (fr_X9_serve_b58 h)
theorem fr_X9_serve_b22 {M0 : gM}  {M : gM} (h : Ag M M0) {a1 : Int32} {a2 : Int32} {t0 : Int32} : Fr M0 (f_X9_serve_b22  M a1 a2 t0) := by
  unfold f_X9_serve_b22
  exact (Fr.ite (fr_X9_serve_b57 h) (Fr.rb (fr_X9_hasRoom h) (fun x6 M5 hM5 => (Fr.ite (fr_X9_serve_b57 hM5) (Fr.gI (Fr.ite (Fr.rb (fr_X9_latest hM5) (fun x8 M7 hM7 => (Fr.ite (fr_X9_serve_b58 hM7) (fr_X9_serve_b57 hM7)))) (fr_X9_serve_b57 hM5)))))))
theorem fr_X9_isClaim {M0 : gM}  {M : gM} (h : Ag M M0) {a1 : Int32} : Fr M0 (f_X9_isClaim  M a1) := by
  unfold f_X9_isClaim
  exact (Fr.rb (fr_X9_within h) (fun x2 M1 hM1 => (Fr.gZ01 (Fr.ret hM1))))
theorem fr_X9_serve_b21 {M0 : gM}  {M : gM} (h : Ag M M0) {a1 : Int32} {a2 : Int32} : Fr M0 (f_X9_serve_b21  M a1 a2) := by
  unfold f_X9_serve_b21
  exact (fr_X9_serve_b22 h)
theorem fr_X9_serve {M0 : gM}  {M : gM} (h : Ag M M0) {a1 : Int32} {a2 : Int32} : Fr M0 (f_X9_serve  M a1 a2) := by
  unfold f_X9_serve
  exact (Fr.rb (fr_X9_isClaim h) (fun x10 M9 hM9 => (Fr.ite (fr_X9_serve_b21 hM9) (Fr.rb (fr_X9_within hM9) (fun x12 M11 hM11 => (Fr.ite (fr_X9_serve_b21 hM11) (fr_X9_serve_b22 hM11)))))))
theorem fr_X9_isOpen_b40 {M0 : gM} {self8 : gM → Int32 → Int32 → Int32 → gR} (hs8 : ∀ (M : gM) (x0 : Int32) (x1 : Int32) (x2 : Int32), Ag M M0 → Fr M0 (self8 M x0 x1 x2)) {M : gM} (h : Ag M M0) {a1 : Int32} {a3 : Int32} : Fr M0 (f_X9_isOpen_b40 self8 M a1 a3) := by
  unfold f_X9_isOpen_b40
  exact (Fr.bV (fun x1 => (hs8 _ _ _ _ h)))
theorem fr_X9_isOpen_lb8 {M0 : gM} {self8 : gM → Int32 → Int32 → Int32 → gR} (hs8 : ∀ (M : gM) (x0 : Int32) (x1 : Int32) (x2 : Int32), Ag M M0 → Fr M0 (self8 M x0 x1 x2)) {M : gM} (h : Ag M M0) {a1 : Int32} {a2 : Int32} {a3 : Int32} : Fr M0 (f_X9_isOpen_lb8 self8 M a1 a2 a3) := by
  unfold f_X9_isOpen_lb8
  exact (Fr.ite (Fr.gZ01 (Fr.ret h)) (Fr.ite (Fr.gZ01 (Fr.ret h)) (Fr.gI (Fr.ite (Fr.gI (Fr.ite (Fr.bV (fun x2 => (hs8 _ _ _ _ h))) (fr_X9_isOpen_b40 hs8 h))) (fr_X9_isOpen_b40 hs8 h)))))
theorem fr_X9_isOpen_l8 {M0 : gM}  : ∀ (n : Nat) {M : gM} (h : Ag M M0) {a0 : Int32} {a1 : Int32} {a2 : Int32}, Fr M0 (f_X9_isOpen_l8  n M a0 a1 a2)
  | 0, _, _, _, _, _ => Fr.stuck
  | n + 1, _, h, _, _, _ => fr_X9_isOpen_lb8 (fun _ _ _ _ h2 => fr_X9_isOpen_l8 n h2) h
theorem fr_X9_isBehind {M0 : gM}  {M : gM} (h : Ag M M0) {a1 : Int32} : Fr M0 (f_X9_isBehind  M a1) := by
  unfold f_X9_isBehind
  exact (Fr.ite (Fr.ret h) (Fr.ite (Fr.ret h) (Fr.ret h)))
theorem fr_X9_deadline_b48 {M0 : gM} {self6 : gM → Int32 → Int32 → Int32 → Int32 → gR} (hs6 : ∀ (M : gM) (x0 : Int32) (x1 : Int32) (x2 : Int32) (x3 : Int32), Ag M M0 → Fr M0 (self6 M x0 x1 x2 x3)) {M : gM} (h : Ag M M0) {a3 : Int32} {a4 : Int32} {a5 : Int32} {t0 : Int32} : Fr M0 (f_X9_deadline_b48 self6 M a3 a4 a5 t0) := by
  unfold f_X9_deadline_b48
  exact (Fr.bV (fun x1 => (hs6 _ _ _ _ _ h)))
theorem fr_X9_isStayedAlone_lb5 {M0 : gM} {self5 : gM → Int32 → Int32 → Int32 → Int32 → gR} (hs5 : ∀ (M : gM) (x0 : Int32) (x1 : Int32) (x2 : Int32) (x3 : Int32), Ag M M0 → Fr M0 (self5 M x0 x1 x2 x3)) {M : gM} (h : Ag M M0) {a1 : Int32} {a2 : Int32} {a3 : Int32} {a4 : Int32} : Fr M0 (f_X9_isStayedAlone_lb5 self5 M a1 a2 a3 a4) := by
  unfold f_X9_isStayedAlone_lb5
  exact (Fr.ite (Fr.gZ01 (Fr.ret h)) (Fr.gI (Fr.ite (Fr.bV (fun x1 => (hs5 _ _ _ _ _ h))) (Fr.gI (Fr.ite (Fr.gI (Fr.ite (Fr.bV (fun x2 => (hs5 _ _ _ _ _ h))) (Fr.gI (Fr.ite (Fr.bV (fun x3 => (hs5 _ _ _ _ _ h))) (Fr.bV (fun x4 => (hs5 _ _ _ _ _ h))))))) (Fr.bV (fun x5 => (hs5 _ _ _ _ _ h))))))))
theorem fr_X9_isStayedAlone_l5 {M0 : gM}  : ∀ (n : Nat) {M : gM} (h : Ag M M0) {a0 : Int32} {a1 : Int32} {a2 : Int32} {a3 : Int32}, Fr M0 (f_X9_isStayedAlone_l5  n M a0 a1 a2 a3)
  | 0, _, _, _, _, _, _ => Fr.stuck
  | n + 1, _, h, _, _, _, _ => fr_X9_isStayedAlone_lb5 (fun _ _ _ _ _ h2 => fr_X9_isStayedAlone_l5 n h2) h
theorem fr_X9_isStayedAlone {M0 : gM}  {M : gM} (h : Ag M M0) {a1 : Int32} {a2 : Int32} : Fr M0 (f_X9_isStayedAlone  M a1 a2) := by
  unfold f_X9_isStayedAlone
  exact (fr_X9_isStayedAlone_l5 5000 h)
theorem fr_X9_isStayed {M0 : gM}  {M : gM} (h : Ag M M0) {a1 : Int32} {a2 : Int32} : Fr M0 (f_X9_isStayed  M a1 a2) := by
  unfold f_X9_isStayed
  exact (Fr.rb (fr_X9_isStayedAlone h) (fun x2 M1 hM1 => (Fr.ite (Fr.gI (Fr.ite (Fr.ret hM1) (Fr.gI (Fr.rb (fr_X9_isStayedAlone hM1) (fun x4 M3 hM3 => (Fr.ite (Fr.ret hM3) (Fr.ret hM3))))))) (Fr.ret hM1))))
theorem fr_X9_deadline_b93 {M0 : gM}  {M : gM} (h : Ag M M0) {a5 : Int32} : Fr M0 (f_X9_deadline_b93  M a5) := by
  unfold f_X9_deadline_b93
  exact (Fr.ite (Fr.ret h) (Fr.ret h))
theorem fr_X9_deadline_lb59 {M0 : gM} {self59 : gM → Int32 → Int32 → gR} (hs59 : ∀ (M : gM) (x0 : Int32) (x1 : Int32), Ag M M0 → Fr M0 (self59 M x0 x1)) {M : gM} (h : Ag M M0) {a4 : Int32} {a5 : Int32} : Fr M0 (f_X9_deadline_lb59 self59 M a4 a5) := by
  unfold f_X9_deadline_lb59
  exact (Fr.ite (fr_X9_deadline_b93 h) (Fr.rb (fr_X9_isFree h) (fun x3 M2 hM2 => (Fr.ite (Fr.rb (fr_X9_isStayed hM2) (fun x5 M4 hM4 => (Fr.ite (fr_X9_deadline_b93 hM4) (Fr.bV (fun x6 => (hs59 _ _ _ hM4)))))) (Fr.bV (fun x7 => (hs59 _ _ _ hM2)))))))
theorem fr_X9_deadline_l59 {M0 : gM}  : ∀ (n : Nat) {M : gM} (h : Ag M M0) {a0 : Int32} {a1 : Int32}, Fr M0 (f_X9_deadline_l59  n M a0 a1)
  | 0, _, _, _, _ => Fr.stuck
  | n + 1, _, h, _, _ => fr_X9_deadline_lb59 (fun _ _ _ h2 => fr_X9_deadline_l59 n h2) h
theorem fr_X9_deadline_lb6 {M0 : gM} {self6 : gM → Int32 → Int32 → Int32 → Int32 → gR} (hs6 : ∀ (M : gM) (x0 : Int32) (x1 : Int32) (x2 : Int32) (x3 : Int32), Ag M M0 → Fr M0 (self6 M x0 x1 x2 x3)) {M : gM} (h : Ag M M0) {a3 : Int32} {a4 : Int32} {a5 : Int32} {a6 : Int32} : Fr M0 (f_X9_deadline_lb6 self6 M a3 a4 a5 a6) := by
  unfold f_X9_deadline_lb6
  exact (Fr.ite (fr_X9_deadline_l59 5000 h) (Fr.ite (fr_X9_deadline_l59 5000 h) (Fr.bV (fun x8 => (Fr.rb (fr_X9_isStayed h) (fun x10 M9 hM9 => (Fr.ite (Fr.ite (Fr.bV (fun x11 => (hs6 _ _ _ _ _ hM9))) (Fr.rb (fr_X9_isFree hM9) (fun x13 M12 hM12 => (Fr.ite (Fr.bV (fun x14 => (hs6 _ _ _ _ _ hM12))) (fr_X9_deadline_b48 hs6 hM12))))) (fr_X9_deadline_b48 hs6 hM9))))))))
theorem fr_X9_deadline_l6 {M0 : gM}  : ∀ (n : Nat) {M : gM} (h : Ag M M0) {a0 : Int32} {a1 : Int32} {a2 : Int32} {a3 : Int32}, Fr M0 (f_X9_deadline_l6  n M a0 a1 a2 a3)
  | 0, _, _, _, _, _, _ => Fr.stuck
  | n + 1, _, h, _, _, _, _ => fr_X9_deadline_lb6 (fun _ _ _ _ _ h2 => fr_X9_deadline_l6 n h2) h
theorem fr_X9_deadline {M0 : gM}  {M : gM} (h : Ag M M0) {a1 : Int32} {a2 : Int32} {a3 : Int32} {a4 : Int32} : Fr M0 (f_X9_deadline  M a1 a2 a3 a4) := by
  unfold f_X9_deadline
  exact (fr_X9_deadline_l6 5000 h)
theorem fr_X9_cureOf {M0 : gM}  {M : gM} (h : Ag M M0) {a1 : Int32} : Fr M0 (f_X9_cureOf  M a1) := by
  unfold f_X9_cureOf
  exact (Fr.gI (Fr.ite (Fr.ret h) (Fr.gI (Fr.gI (Fr.gI (Fr.gI (Fr.gI (Fr.rb (fr_X9_deadline h) (fun x2 M1 hM1 => (Fr.ret hM1))))))))))
theorem fr_X9_isCounted {M0 : gM}  {M : gM} (h : Ag M M0) {a1 : Int32} : Fr M0 (f_X9_isCounted  M a1) := by
  unfold f_X9_isCounted
  exact (Fr.gI (Fr.ite (Fr.ret h) (Fr.gI (Fr.ite (Fr.rb (fr_X9_cureOf h) (fun x2 M1 hM1 => (Fr.rb (fr_X9_isBehind hM1) (fun x4 M3 hM3 => (Fr.ite (Fr.ret hM3) (Fr.ret hM3)))))) (Fr.ret h)))))
theorem fr_X9_isOpen {M0 : gM}  {M : gM} (h : Ag M M0) {a1 : Int32} : Fr M0 (f_X9_isOpen  M a1) := by
  unfold f_X9_isOpen
  exact (Fr.rb (fr_X9_isCounted h) (fun x4 M3 hM3 => (fr_X9_isOpen_l8 5000 hM3)))
theorem fr_X9_hasOpenMotion_lb4 {M0 : gM} {self4 : gM → Int32 → Int32 → Int32 → gR} (hs4 : ∀ (M : gM) (x0 : Int32) (x1 : Int32) (x2 : Int32), Ag M M0 → Fr M0 (self4 M x0 x1 x2)) {M : gM} (h : Ag M M0) {a1 : Int32} {a2 : Int32} {a3 : Int32} : Fr M0 (f_X9_hasOpenMotion_lb4 self4 M a1 a2 a3) := by
  unfold f_X9_hasOpenMotion_lb4
  exact (Fr.ite (Fr.gZ01 (Fr.ret h)) (Fr.ite (Fr.gI (Fr.ite (Fr.gI (Fr.ite (Fr.rb (fr_X9_isOpen h) (fun x2 M1 hM1 => (Fr.ite (Fr.bV (fun x3 => (hs4 _ _ _ _ hM1))) (Fr.bV (fun x4 => (hs4 _ _ _ _ hM1)))))) (Fr.bV (fun x5 => (hs4 _ _ _ _ h))))) (Fr.bV (fun x6 => (hs4 _ _ _ _ h))))) (Fr.gZ01 (Fr.ret h))))
theorem fr_X9_hasOpenMotion_l4 {M0 : gM}  : ∀ (n : Nat) {M : gM} (h : Ag M M0) {a0 : Int32} {a1 : Int32} {a2 : Int32}, Fr M0 (f_X9_hasOpenMotion_l4  n M a0 a1 a2)
  | 0, _, _, _, _, _ => Fr.stuck
  | n + 1, _, h, _, _, _ => fr_X9_hasOpenMotion_lb4 (fun _ _ _ _ h2 => fr_X9_hasOpenMotion_l4 n h2) h
theorem fr_X9_hasOpenMotion {M0 : gM}  {M : gM} (h : Ag M M0) {a1 : Int32} : Fr M0 (f_X9_hasOpenMotion  M a1) := by
  unfold f_X9_hasOpenMotion
  exact (fr_X9_hasOpenMotion_l4 5000 h)
theorem fr_X9_answerDue_b88 {M0 : gM}  {M : gM} (h : Ag M M0) {a1 : Int32} {a2 : Int32} {t0 : Int32} {t1 : Int32} : Fr M0 (f_X9_answerDue_b88  M a1 a2 t0 t1) := by
  unfold f_X9_answerDue_b88
  exact (Fr.bV (fun x1 => (Fr.gI (Fr.gI (Fr.gI (Fr.rb (fr_X9_deadline h) (fun x3 M2 hM2 => (Fr.ret hM2))))))))
theorem fr_X9_answerDue_b67 {M0 : gM}  {M : gM} (h : Ag M M0) {a1 : Int32} {a2 : Int32} {t0 : Int32} {t1 : Int32} : Fr M0 (f_X9_answerDue_b67  M a1 a2 t0 t1) := by
  unfold f_X9_answerDue_b67
  exact (Fr.gI (Fr.ite (Fr.gI (fr_X9_answerDue_b88 h)) (fr_X9_answerDue_b88 h)))
theorem fr_X9_answerDue_b40 {M0 : gM}  {M : gM} (h : Ag M M0) {a1 : Int32} {a2 : Int32} {t0 : Int32} : Fr M0 (f_X9_answerDue_b40  M a1 a2 t0) := by
  unfold f_X9_answerDue_b40
  exact (Fr.gI (Fr.ite (fr_X9_answerDue_b67 h) (Fr.ite (fr_X9_answerDue_b67 h) (fr_X9_answerDue_b67 h))))
theorem fr_X9_answerFrom_b96 {M0 : gM} {self9 : gM → Int32 → Int32 → Int32 → gR} (hs9 : ∀ (M : gM) (x0 : Int32) (x1 : Int32) (x2 : Int32), Ag M M0 → Fr M0 (self9 M x0 x1 x2)) {M : gM} (h : Ag M M0) {a1 : Int32} {a3 : Int32} : Fr M0 (f_X9_answerFrom_b96 self9 M a1 a3) := by
  unfold f_X9_answerFrom_b96
  exact (Fr.bV (fun x1 => (hs9 _ _ _ _ h)))
theorem fr_X9_answerFrom_b74 {M0 : gM} {self9 : gM → Int32 → Int32 → Int32 → gR} (hs9 : ∀ (M : gM) (x0 : Int32) (x1 : Int32) (x2 : Int32), Ag M M0 → Fr M0 (self9 M x0 x1 x2)) {M : gM} (h : Ag M M0) {a1 : Int32} {a2 : Int32} {a3 : Int32} {a4 : Int32} {t0 : Int32} : Fr M0 (f_X9_answerFrom_b74 self9 M a1 a2 a3 a4 t0) := by
  unfold f_X9_answerFrom_b74
  exact (Fr.gI (Fr.ite (Fr.ite (Fr.ite (Fr.bV (fun x2 => (hs9 _ _ _ _ h))) (fr_X9_answerFrom_b96 hs9 h)) (fr_X9_answerFrom_b96 hs9 h)) (Fr.bV (fun x3 => (hs9 _ _ _ _ h)))))
theorem fr_X9_answerFrom_b73 {M0 : gM} {self9 : gM → Int32 → Int32 → Int32 → gR} (hs9 : ∀ (M : gM) (x0 : Int32) (x1 : Int32) (x2 : Int32), Ag M M0 → Fr M0 (self9 M x0 x1 x2)) {M : gM} (h : Ag M M0) {a1 : Int32} {a2 : Int32} {a3 : Int32} {a4 : Int32} : Fr M0 (f_X9_answerFrom_b73 self9 M a1 a2 a3 a4) := by
  unfold f_X9_answerFrom_b73
  exact (fr_X9_answerFrom_b74 hs9 h)
theorem fr_X9_answerFrom_b41 {M0 : gM} {self9 : gM → Int32 → Int32 → Int32 → gR} (hs9 : ∀ (M : gM) (x0 : Int32) (x1 : Int32) (x2 : Int32), Ag M M0 → Fr M0 (self9 M x0 x1 x2)) {M : gM} (h : Ag M M0) {a1 : Int32} {a2 : Int32} {a3 : Int32} {t0 : Int32} : Fr M0 (f_X9_answerFrom_b41 self9 M a1 a2 a3 t0) := by
  unfold f_X9_answerFrom_b41
  exact (Fr.gI (Fr.ite (Fr.gI (Fr.gI (Fr.ite (fr_X9_answerFrom_b74 hs9 h) (fr_X9_answerFrom_b73 hs9 h)))) (fr_X9_answerFrom_b73 hs9 h)))
theorem fr_X9_answerFrom_b40 {M0 : gM} {self9 : gM → Int32 → Int32 → Int32 → gR} (hs9 : ∀ (M : gM) (x0 : Int32) (x1 : Int32) (x2 : Int32), Ag M M0 → Fr M0 (self9 M x0 x1 x2)) {M : gM} (h : Ag M M0) {a1 : Int32} {a2 : Int32} {a3 : Int32} : Fr M0 (f_X9_answerFrom_b40 self9 M a1 a2 a3) := by
  unfold f_X9_answerFrom_b40
  exact (fr_X9_answerFrom_b41 hs9 h)
theorem fr_X9_answerFrom_lb9 {M0 : gM} {self9 : gM → Int32 → Int32 → Int32 → gR} (hs9 : ∀ (M : gM) (x0 : Int32) (x1 : Int32) (x2 : Int32), Ag M M0 → Fr M0 (self9 M x0 x1 x2)) {M : gM} (h : Ag M M0) {a1 : Int32} {a2 : Int32} {a3 : Int32} : Fr M0 (f_X9_answerFrom_lb9 self9 M a1 a2 a3) := by
  unfold f_X9_answerFrom_lb9
  exact (Fr.ite (Fr.ret h) (Fr.gI (Fr.ite (Fr.gI (Fr.ite (fr_X9_answerFrom_b40 hs9 h) (fr_X9_answerFrom_b41 hs9 h))) (fr_X9_answerFrom_b40 hs9 h))))
theorem fr_X9_answerFrom_l9 {M0 : gM}  : ∀ (n : Nat) {M : gM} (h : Ag M M0) {a0 : Int32} {a1 : Int32} {a2 : Int32}, Fr M0 (f_X9_answerFrom_l9  n M a0 a1 a2)
  | 0, _, _, _, _, _ => Fr.stuck
  | n + 1, _, h, _, _, _ => fr_X9_answerFrom_lb9 (fun _ _ _ _ h2 => fr_X9_answerFrom_l9 n h2) h
theorem fr_X9_answerFrom {M0 : gM}  {M : gM} (h : Ag M M0) {a1 : Int32} : Fr M0 (f_X9_answerFrom  M a1) := by
  unfold f_X9_answerFrom
  exact (Fr.rb (fr_X9_latest h) (fun x5 M4 hM4 => (fr_X9_answerFrom_l9 5000 hM4)))
theorem fr_X9_answerDue {M0 : gM}  {M : gM} (h : Ag M M0) {a1 : Int32} : Fr M0 (f_X9_answerDue  M a1) := by
  unfold f_X9_answerDue
  exact (Fr.rb (fr_X9_answerFrom h) (fun x5 M4 hM4 => (Fr.ite (Fr.ret hM4) (Fr.rb (fr_X9_hasOpenMotion hM4) (fun x7 M6 hM6 => (Fr.ite (Fr.gI (Fr.ite (Fr.gI (fr_X9_answerDue_b40 hM6)) (fr_X9_answerDue_b40 hM6))) (Fr.ret hM6)))))))
theorem fr_X9_answered_lb4 {M0 : gM} {self4 : gM → Int32 → Int32 → Int32 → gR} (hs4 : ∀ (M : gM) (x0 : Int32) (x1 : Int32) (x2 : Int32), Ag M M0 → Fr M0 (self4 M x0 x1 x2)) {M : gM} (h : Ag M M0) {a1 : Int32} {a2 : Int32} {a3 : Int32} : Fr M0 (f_X9_answered_lb4 self4 M a1 a2 a3) := by
  unfold f_X9_answered_lb4
  exact (Fr.ite (Fr.gZ01 (Fr.ret h)) (Fr.ite (Fr.gI (Fr.ite (Fr.gI (Fr.ite (Fr.rb (fr_X9_isCounted h) (fun x2 M1 hM1 => (Fr.ite (Fr.bV (fun x3 => (hs4 _ _ _ _ hM1))) (Fr.bV (fun x4 => (hs4 _ _ _ _ hM1)))))) (Fr.bV (fun x5 => (hs4 _ _ _ _ h))))) (Fr.bV (fun x6 => (hs4 _ _ _ _ h))))) (Fr.gZ01 (Fr.ret h))))
theorem fr_X9_answered_l4 {M0 : gM}  : ∀ (n : Nat) {M : gM} (h : Ag M M0) {a0 : Int32} {a1 : Int32} {a2 : Int32}, Fr M0 (f_X9_answered_l4  n M a0 a1 a2)
  | 0, _, _, _, _, _ => Fr.stuck
  | n + 1, _, h, _, _, _ => fr_X9_answered_lb4 (fun _ _ _ _ h2 => fr_X9_answered_l4 n h2) h
theorem fr_X9_answered {M0 : gM}  {M : gM} (h : Ag M M0) {a1 : Int32} : Fr M0 (f_X9_answered  M a1) := by
  unfold f_X9_answered
  exact (fr_X9_answered_l4 5000 h)
theorem fr_X9_canAnswer {M0 : gM}  {M : gM} (h : Ag M M0) {a1 : Int32} : Fr M0 (f_X9_canAnswer  M a1) := by
  unfold f_X9_canAnswer
  exact (Fr.rb (fr_X9_hasRoom h) (fun x2 M1 hM1 => (Fr.ite (Fr.ret hM1) (Fr.gI (Fr.ite (Fr.rb (fr_X9_latest hM1) (fun x4 M3 hM3 => (Fr.ite (Fr.ret hM3) (Fr.rb (fr_X9_answered hM3) (fun x6 M5 hM5 => (Fr.ite (Fr.rb (fr_X9_hasOpenMotion hM5) (fun x8 M7 hM7 => (Fr.ite (Fr.rb (fr_X9_answerDue hM7) (fun x10 M9 hM9 => (Fr.rb (fr_X9_isBehind hM9) (fun x12 M11 hM11 => (Fr.ite (Fr.ret hM11) (Fr.ret hM11)))))) (Fr.ret hM7)))) (Fr.ret hM5))))))) (Fr.ret hM1))))))
theorem fr_X9_answer_b28 {M0 : gM}  {M : gM} (h : Ag M M0) {a1 : Int32} {t1 : Int32} : Fr M0 (f_X9_answer_b28  M a1 t1) := by
  unfold f_X9_answer_b28
  exact (Fr.rb (fr_X9_refused h) (fun x2 M1 hM1 => (Fr.ite (Fr.rb (fr_X9_enter hM1) (fun x4 M3 hM3 => (Fr.ret hM3))) (Fr.ret hM1))))
theorem fr_X9_answer {M0 : gM}  {M : gM} (h : Ag M M0) {a1 : Int32} : Fr M0 (f_X9_answer  M a1) := by
  unfold f_X9_answer
  exact (Fr.rb (fr_X9_isClaim h) (fun x6 M5 hM5 => (Fr.ite (fr_X9_answer_b28 hM5) (Fr.rb (fr_X9_canAnswer hM5) (fun x8 M7 hM7 => (Fr.ite (fr_X9_answer_b28 hM7) (fr_X9_answer_b28 hM7)))))))
theorem fr_X9_motion_b28 {M0 : gM}  {M : gM} (h : Ag M M0) {a1 : Int32} {t1 : Int32} : Fr M0 (f_X9_motion_b28  M a1 t1) := by
  unfold f_X9_motion_b28
  exact (Fr.rb (fr_X9_refused h) (fun x2 M1 hM1 => (Fr.ite (Fr.rb (fr_X9_enter hM1) (fun x4 M3 hM3 => (Fr.ret hM3))) (Fr.ret hM1))))
theorem fr_X9_motion {M0 : gM}  {M : gM} (h : Ag M M0) {a1 : Int32} : Fr M0 (f_X9_motion  M a1) := by
  unfold f_X9_motion
  exact (Fr.rb (fr_X9_isClaim h) (fun x6 M5 hM5 => (Fr.ite (fr_X9_motion_b28 hM5) (Fr.rb (fr_X9_canAnswer hM5) (fun x8 M7 hM7 => (Fr.ite (fr_X9_motion_b28 hM7) (fr_X9_motion_b28 hM7)))))))
theorem fr_X9_isEntry {M0 : gM}  {M : gM} (h : Ag M M0) {a1 : Int32} : Fr M0 (f_X9_isEntry  M a1) := by
  unfold f_X9_isEntry
  exact (Fr.rb (fr_X9_within h) (fun x2 M1 hM1 => (Fr.gZ01 (Fr.ret hM1))))
theorem fr_X9_isMotion {M0 : gM}  {M : gM} (h : Ag M M0) {a1 : Int32} : Fr M0 (f_X9_isMotion  M a1) := by
  unfold f_X9_isMotion
  exact (Fr.rb (fr_X9_isEntry h) (fun x2 M1 hM1 => (Fr.ite (Fr.ret hM1) (Fr.gI (Fr.ite (Fr.ret hM1) (Fr.ret hM1))))))
theorem fr_X9_responseDue {M0 : gM}  {M : gM} (h : Ag M M0) {a1 : Int32} : Fr M0 (f_X9_responseDue  M a1) := by
  unfold f_X9_responseDue
  exact (Fr.gI (Fr.gI (Fr.gI (Fr.gI (Fr.gI (Fr.gI (Fr.rb (fr_X9_deadline h) (fun x2 M1 hM1 => (Fr.ret hM1)))))))))
theorem fr_X9_respond_b69 {M0 : gM}  {M : gM} (h : Ag M M0) {a1 : Int32} {t1 : Int32} : Fr M0 (f_X9_respond_b69  M a1 t1) := by
  unfold f_X9_respond_b69
  exact (Fr.rb (fr_X9_refused h) (fun x2 M1 hM1 => (Fr.ite (Fr.gI (Fr.rb (fr_X9_enter hM1) (fun x4 M3 hM3 => (Fr.ret hM3)))) (Fr.ret hM1))))
theorem fr_X9_respond_b50 {M0 : gM}  {M : gM} (h : Ag M M0) {a1 : Int32} {a2 : Int32} {t0 : Int32} : Fr M0 (f_X9_respond_b50  M a1 a2 t0) := by
  unfold f_X9_respond_b50
  exact (Fr.ite (fr_X9_respond_b69 h) (Fr.ite (fr_X9_respond_b69 h) (fr_X9_respond_b69 h)))
theorem fr_X9_respond_b49 {M0 : gM}  {M : gM} (h : Ag M M0) {a1 : Int32} {a2 : Int32} : Fr M0 (f_X9_respond_b49  M a1 a2) := by
  unfold f_X9_respond_b49
  exact (fr_X9_respond_b50 h)
theorem fr_X9_isResponded_lb4 {M0 : gM} {self4 : gM → Int32 → Int32 → Int32 → gR} (hs4 : ∀ (M : gM) (x0 : Int32) (x1 : Int32) (x2 : Int32), Ag M M0 → Fr M0 (self4 M x0 x1 x2)) {M : gM} (h : Ag M M0) {a1 : Int32} {a2 : Int32} {a3 : Int32} : Fr M0 (f_X9_isResponded_lb4 self4 M a1 a2 a3) := by
  unfold f_X9_isResponded_lb4
  exact (Fr.ite (Fr.gZ01 (Fr.ret h)) (Fr.ite (Fr.gI (Fr.ite (Fr.gI (Fr.ite (Fr.rb (fr_X9_isCounted h) (fun x2 M1 hM1 => (Fr.ite (Fr.bV (fun x3 => (hs4 _ _ _ _ hM1))) (Fr.bV (fun x4 => (hs4 _ _ _ _ hM1)))))) (Fr.bV (fun x5 => (hs4 _ _ _ _ h))))) (Fr.bV (fun x6 => (hs4 _ _ _ _ h))))) (Fr.gZ01 (Fr.ret h))))
theorem fr_X9_isResponded_l4 {M0 : gM}  : ∀ (n : Nat) {M : gM} (h : Ag M M0) {a0 : Int32} {a1 : Int32} {a2 : Int32}, Fr M0 (f_X9_isResponded_l4  n M a0 a1 a2)
  | 0, _, _, _, _, _ => Fr.stuck
  | n + 1, _, h, _, _, _ => fr_X9_isResponded_lb4 (fun _ _ _ _ h2 => fr_X9_isResponded_l4 n h2) h
theorem fr_X9_isResponded {M0 : gM}  {M : gM} (h : Ag M M0) {a1 : Int32} : Fr M0 (f_X9_isResponded  M a1) := by
  unfold f_X9_isResponded
  exact (fr_X9_isResponded_l4 5000 h)
theorem fr_X9_respond {M0 : gM}  {M : gM} (h : Ag M M0) {a1 : Int32} : Fr M0 (f_X9_respond  M a1) := by
  unfold f_X9_respond
  exact (Fr.rb (fr_X9_isMotion h) (fun x6 M5 hM5 => (Fr.ite (fr_X9_respond_b49 hM5) (Fr.rb (fr_X9_hasRoom hM5) (fun x8 M7 hM7 => (Fr.ite (fr_X9_respond_b49 hM7) (Fr.rb (fr_X9_isOpen hM7) (fun x10 M9 hM9 => (Fr.ite (fr_X9_respond_b49 hM9) (Fr.rb (fr_X9_isResponded hM9) (fun x12 M11 hM11 => (Fr.ite (Fr.rb (fr_X9_responseDue hM11) (fun x14 M13 hM13 => (Fr.rb (fr_X9_isBehind hM13) (fun x16 M15 hM15 => (Fr.ite (fr_X9_respond_b50 hM15) (fr_X9_respond_b49 hM15)))))) (fr_X9_respond_b49 hM11)))))))))))))
theorem fr_X9_ruling_b167 {M0 : gM}  {M : gM} (h : Ag M M0) {a2 : Int32} {a4 : Int32} {a7 : Int32} {t1 : Int32} {t2 : Int32} : Fr M0 (f_X9_ruling_b167  M a2 a4 a7 t1 t2) := by
  unfold f_X9_ruling_b167
  exact (Fr.gI (Fr.bM (h.st (by decide)) (fun M1 hM1 => (Fr.ite (Fr.gI (Fr.gI (Fr.bM (hM1.st (by decide)) (fun M2 hM2 => (Fr.ret hM2))))) (Fr.gI (Fr.bM (hM1.st (by decide)) (fun M3 hM3 => (Fr.ret hM3))))))))
theorem fr_X9_ruling_b133 {M0 : gM}  {M : gM} (h : Ag M M0) {a1 : Int32} {a2 : Int32} {a4 : Int32} {t1 : Int32} : Fr M0 (f_X9_ruling_b133  M a1 a2 a4 t1) := by
  unfold f_X9_ruling_b133
  exact (Fr.rb (fr_X9_refused h) (fun x5 M4 hM4 => (Fr.ite (Fr.rb (fr_X9_enter hM4) (fun x7 M6 hM6 => (Fr.ite (fr_X9_ruling_b167 hM6) (fr_X9_ruling_b167 hM6)))) (Fr.ret hM4))))
theorem fr_X9_ruling_b103 {M0 : gM}  {M : gM} (h : Ag M M0) {a1 : Int32} {a2 : Int32} {a3 : Int32} {a4 : Int32} {a5 : Int32} {t0 : Int32} : Fr M0 (f_X9_ruling_b103  M a1 a2 a3 a4 a5 t0) := by
  unfold f_X9_ruling_b103
  exact (Fr.ite (fr_X9_ruling_b133 h) (Fr.ite (fr_X9_ruling_b133 h) (Fr.ite (fr_X9_ruling_b133 h) (fr_X9_ruling_b133 h))))
theorem fr_X9_ruling_b98 {M0 : gM}  {M : gM} (h : Ag M M0) {a1 : Int32} {a2 : Int32} {a3 : Int32} {a4 : Int32} {a5 : Int32} : Fr M0 (f_X9_ruling_b98  M a1 a2 a3 a4 a5) := by
  unfold f_X9_ruling_b98
  exact (fr_X9_ruling_b103 h)
theorem fr_X9_ruling_b102 {M0 : gM}  {M : gM} (h : Ag M M0) {a1 : Int32} {a2 : Int32} {a3 : Int32} {a4 : Int32} {a5 : Int32} : Fr M0 (f_X9_ruling_b102  M a1 a2 a3 a4 a5) := by
  unfold f_X9_ruling_b102
  exact (fr_X9_ruling_b103 h)
theorem fr_X9_ruling_b47 {M0 : gM}  {M : gM} (h : Ag M M0) {a1 : Int32} {a2 : Int32} {a3 : Int32} {a4 : Int32} {t0 : Int32} : Fr M0 (f_X9_ruling_b47  M a1 a2 a3 a4 t0) := by
  unfold f_X9_ruling_b47
  exact (Fr.ite (fr_X9_ruling_b102 h) (Fr.rb (fr_X9_hasRoom h) (fun x9 M8 hM8 => (Fr.ite (fr_X9_ruling_b102 hM8) (Fr.rb (fr_X9_isOpen hM8) (fun x11 M10 hM10 => (Fr.ite (fr_X9_ruling_b102 hM10) (Fr.gI (Fr.ite (Fr.rb (fr_X9_isResponded hM10) (fun x13 M12 hM12 => (Fr.ite (Fr.rb (fr_X9_responseDue hM12) (fun x15 M14 hM14 => (Fr.rb (fr_X9_isBehind hM14) (fun x17 M16 hM16 => (Fr.ite (fr_X9_ruling_b102 hM16) (fr_X9_ruling_b98 hM16)))))) (fr_X9_ruling_b98 hM12)))) (fr_X9_ruling_b102 hM10))))))))))
theorem fr_X9_ruling_b46 {M0 : gM}  {M : gM} (h : Ag M M0) {a1 : Int32} {a2 : Int32} {a3 : Int32} {a4 : Int32} : Fr M0 (f_X9_ruling_b46  M a1 a2 a3 a4) := by
  unfold f_X9_ruling_b46
  exact (fr_X9_ruling_b47 h)
theorem fr_X9_ruling_b20 {M0 : gM}  {M : gM} (h : Ag M M0) {a1 : Int32} {a2 : Int32} {a3 : Int32} {t0 : Int32} : Fr M0 (f_X9_ruling_b20  M a1 a2 a3 t0) := by
  unfold f_X9_ruling_b20
  exact (Fr.ite (fr_X9_ruling_b46 h) (Fr.ite (fr_X9_ruling_b46 h) (Fr.gI (Fr.ite (fr_X9_ruling_b46 h) (fr_X9_ruling_b47 h)))))
theorem fr_X9_ruling {M0 : gM}  {M : gM} (h : Ag M M0) {a1 : Int32} {a2 : Int32} : Fr M0 (f_X9_ruling  M a1 a2) := by
  unfold f_X9_ruling
  exact (Fr.rb (fr_X9_isMotion h) (fun x19 M18 hM18 => (Fr.ite (fr_X9_ruling_b20 hM18) (Fr.gI (fr_X9_ruling_b20 hM18)))))
theorem fr_X9_judge_b265 {M0 : gM}  {M : gM} (h : Ag M M0) {a1 : Int32} {a7 : Int32} {a8 : Int32} {t1 : Int32} {t2 : Int32} : Fr M0 (f_X9_judge_b265  M a1 a7 a8 t1 t2) := by
  unfold f_X9_judge_b265
  exact (Fr.gI (Fr.bM (h.st (by decide)) (fun M1 hM1 => (Fr.ite (Fr.gI (Fr.gI (Fr.bM (hM1.st (by decide)) (fun M2 hM2 => (Fr.ret hM2))))) (Fr.gI (Fr.bM (hM1.st (by decide)) (fun M3 hM3 => (Fr.ret hM3))))))))
theorem fr_X9_judge_b231 {M0 : gM}  {M : gM} (h : Ag M M0) {a1 : Int32} {a7 : Int32} {t1 : Int32} : Fr M0 (f_X9_judge_b231  M a1 a7 t1) := by
  unfold f_X9_judge_b231
  exact (Fr.rb (fr_X9_refused h) (fun x5 M4 hM4 => (Fr.ite (Fr.rb (fr_X9_enter hM4) (fun x7 M6 hM6 => (Fr.ite (fr_X9_judge_b265 hM6) (fr_X9_judge_b265 hM6)))) (Fr.ret hM4))))
theorem fr_X9_judge_b203 {M0 : gM}  {M : gM} (h : Ag M M0) {a1 : Int32} {a3 : Int32} {a4 : Int32} {a5 : Int32} {a7 : Int32} : Fr M0 (f_X9_judge_b203  M a1 a3 a4 a5 a7) := by
  unfold f_X9_judge_b203
  exact (Fr.ite (fr_X9_judge_b231 h) (Fr.ite (fr_X9_judge_b231 h) (Fr.ite (fr_X9_judge_b231 h) (fr_X9_judge_b231 h))))
theorem fr_X9_judge_b201 {M0 : gM}  {M : gM} (h : Ag M M0) {a1 : Int32} {a3 : Int32} {a4 : Int32} {a7 : Int32} {t0 : Int32} : Fr M0 (f_X9_judge_b201  M a1 a3 a4 a7 t0) := by
  unfold f_X9_judge_b201
  exact (fr_X9_judge_b203 h)
theorem fr_X9_judge_b196 {M0 : gM}  {M : gM} (h : Ag M M0) {a1 : Int32} {a3 : Int32} {a4 : Int32} {a7 : Int32} : Fr M0 (f_X9_judge_b196  M a1 a3 a4 a7) := by
  unfold f_X9_judge_b196
  exact (fr_X9_judge_b201 h)
theorem fr_X9_judge_b200 {M0 : gM}  {M : gM} (h : Ag M M0) {a1 : Int32} {a3 : Int32} {a4 : Int32} {a7 : Int32} : Fr M0 (f_X9_judge_b200  M a1 a3 a4 a7) := by
  unfold f_X9_judge_b200
  exact (fr_X9_judge_b201 h)
theorem fr_X9_judge_b171 {M0 : gM}  {M : gM} (h : Ag M M0) {a1 : Int32} {a2 : Int32} {a3 : Int32} {a4 : Int32} {a5 : Int32} {a6 : Int32} {a7 : Int32} : Fr M0 (f_X9_judge_b171  M a1 a2 a3 a4 a5 a6 a7) := by
  unfold f_X9_judge_b171
  exact (Fr.ite (fr_X9_judge_b203 h) (Fr.rb (fr_X9_answered h) (fun x9 M8 hM8 => (Fr.ite (fr_X9_judge_b200 hM8) (Fr.ite (fr_X9_judge_b196 hM8) (Fr.ite (fr_X9_judge_b200 hM8) (fr_X9_judge_b196 hM8)))))))
theorem fr_X9_judge_b166 {M0 : gM}  {M : gM} (h : Ag M M0) {a1 : Int32} {a3 : Int32} {a4 : Int32} {a5 : Int32} {t0 : Int32} : Fr M0 (f_X9_judge_b166  M a1 a3 a4 a5 t0) := by
  unfold f_X9_judge_b166
  exact (fr_X9_judge_b203 h)
theorem fr_X9_judge_b160 {M0 : gM}  {M : gM} (h : Ag M M0) {a1 : Int32} {a3 : Int32} {a4 : Int32} {a5 : Int32} : Fr M0 (f_X9_judge_b160  M a1 a3 a4 a5) := by
  unfold f_X9_judge_b160
  exact (Fr.gI (fr_X9_judge_b166 h))
theorem fr_X9_judge_b136 {M0 : gM}  {M : gM} (h : Ag M M0) {a1 : Int32} {a3 : Int32} {a4 : Int32} {a6 : Int32} {t0 : Int32} : Fr M0 (f_X9_judge_b136  M a1 a3 a4 a6 t0) := by
  unfold f_X9_judge_b136
  exact (Fr.ite (fr_X9_judge_b160 h) (Fr.gI (Fr.ite (fr_X9_judge_b160 h) (fr_X9_judge_b166 h))))
theorem fr_X9_judge_b135 {M0 : gM}  {M : gM} (h : Ag M M0) {a1 : Int32} {a3 : Int32} {a4 : Int32} {a6 : Int32} : Fr M0 (f_X9_judge_b135  M a1 a3 a4 a6) := by
  unfold f_X9_judge_b135
  exact (fr_X9_judge_b136 h)
theorem fr_X9_judge_b73 {M0 : gM}  {M : gM} (h : Ag M M0) {a1 : Int32} {a2 : Int32} {a3 : Int32} {a4 : Int32} {a5 : Int32} {t0 : Int32} : Fr M0 (f_X9_judge_b73  M a1 a2 a3 a4 a5 t0) := by
  unfold f_X9_judge_b73
  exact (Fr.ite (Fr.ite (fr_X9_judge_b171 h) (Fr.rb (fr_X9_latest h) (fun x11 M10 hM10 => (Fr.ite (fr_X9_judge_b135 hM10) (Fr.rb (fr_X9_answered hM10) (fun x13 M12 hM12 => (Fr.ite (Fr.rb (fr_X9_hasOpenMotion hM12) (fun x15 M14 hM14 => (Fr.ite (Fr.rb (fr_X9_answerDue hM14) (fun x17 M16 hM16 => (Fr.rb (fr_X9_isBehind hM16) (fun x19 M18 hM18 => (Fr.ite (fr_X9_judge_b135 hM18) (Fr.ite (fr_X9_judge_b135 hM18) (fr_X9_judge_b136 hM18))))))) (fr_X9_judge_b135 hM14)))) (fr_X9_judge_b135 hM12)))))))) (fr_X9_judge_b171 h))
theorem fr_X9_judge_b57 {M0 : gM}  {M : gM} (h : Ag M M0) {a1 : Int32} {a2 : Int32} {a3 : Int32} {a4 : Int32} {t0 : Int32} : Fr M0 (f_X9_judge_b57  M a1 a2 a3 a4 t0) := by
  unfold f_X9_judge_b57
  exact (Fr.ite (fr_X9_judge_b73 h) (Fr.gI (fr_X9_judge_b73 h)))
theorem fr_X9_judge_b56 {M0 : gM}  {M : gM} (h : Ag M M0) {a1 : Int32} {a2 : Int32} {a3 : Int32} {a4 : Int32} : Fr M0 (f_X9_judge_b56  M a1 a2 a3 a4) := by
  unfold f_X9_judge_b56
  exact (fr_X9_judge_b57 h)
theorem fr_X9_judge_b29 {M0 : gM}  {M : gM} (h : Ag M M0) {a1 : Int32} {a2 : Int32} {a3 : Int32} {t0 : Int32} : Fr M0 (f_X9_judge_b29  M a1 a2 a3 t0) := by
  unfold f_X9_judge_b29
  exact (Fr.ite (fr_X9_judge_b56 h) (Fr.rb (fr_X9_hasRoom h) (fun x21 M20 hM20 => (Fr.ite (fr_X9_judge_b56 hM20) (Fr.gI (Fr.ite (fr_X9_judge_b57 hM20) (fr_X9_judge_b56 hM20)))))))
theorem fr_X9_judge_b28 {M0 : gM}  {M : gM} (h : Ag M M0) {a1 : Int32} {a2 : Int32} {a3 : Int32} : Fr M0 (f_X9_judge_b28  M a1 a2 a3) := by
  unfold f_X9_judge_b28
  exact (fr_X9_judge_b29 h)
theorem fr_X9_judge {M0 : gM}  {M : gM} (h : Ag M M0) {a1 : Int32} {a2 : Int32} : Fr M0 (f_X9_judge  M a1 a2) := by
  unfold f_X9_judge
  exact (Fr.rb (fr_X9_isClaim h) (fun x23 M22 hM22 => (Fr.ite (fr_X9_judge_b28 hM22) (Fr.gI (Fr.rb (fr_X9_within hM22) (fun x25 M24 hM24 => (Fr.ite (fr_X9_judge_b28 hM24) (fr_X9_judge_b29 hM24))))))))
theorem fr_X9_vacate_b88 {M0 : gM}  {M : gM} (h : Ag M M0) {a1 : Int32} {a3 : Int32} {t1 : Int32} : Fr M0 (f_X9_vacate_b88  M a1 a3 t1) := by
  unfold f_X9_vacate_b88
  exact (Fr.rb (fr_X9_refused h) (fun x2 M1 hM1 => (Fr.ite (Fr.rb (fr_X9_enter hM1) (fun x4 M3 hM3 => (Fr.gZ01 (Fr.gI (Fr.bM (hM3.st (by decide)) (fun M5 hM5 => (Fr.gI (Fr.gI (Fr.bM (hM5.st (by decide)) (fun M6 hM6 => (Fr.gI (Fr.gI (Fr.bM (hM6.st (by decide)) (fun M7 hM7 => (Fr.gI (Fr.gI (Fr.bM (hM7.st (by decide)) (fun M8 hM8 => (Fr.ret hM8))))))))))))))))))) (Fr.ret hM1))))
theorem fr_X9_vacate_b67 {M0 : gM}  {M : gM} (h : Ag M M0) {a1 : Int32} {a2 : Int32} {a3 : Int32} {t0 : Int32} : Fr M0 (f_X9_vacate_b67  M a1 a2 a3 t0) := by
  unfold f_X9_vacate_b67
  exact (Fr.ite (fr_X9_vacate_b88 h) (Fr.ite (fr_X9_vacate_b88 h) (fr_X9_vacate_b88 h)))
theorem fr_X9_vacate_b62 {M0 : gM}  {M : gM} (h : Ag M M0) {a1 : Int32} {a2 : Int32} {a3 : Int32} : Fr M0 (f_X9_vacate_b62  M a1 a2 a3) := by
  unfold f_X9_vacate_b62
  exact (fr_X9_vacate_b67 h)
theorem fr_X9_vacate_b66 {M0 : gM}  {M : gM} (h : Ag M M0) {a1 : Int32} {a2 : Int32} {a3 : Int32} : Fr M0 (f_X9_vacate_b66  M a1 a2 a3) := by
  unfold f_X9_vacate_b66
  exact (fr_X9_vacate_b67 h)
theorem fr_X9_vacate_b52 {M0 : gM}  {M : gM} (h : Ag M M0) {a1 : Int32} {a2 : Int32} {a3 : Int32} : Fr M0 (f_X9_vacate_b52  M a1 a2 a3) := by
  unfold f_X9_vacate_b52
  exact (Fr.gI (Fr.ite (fr_X9_vacate_b62 h) (fr_X9_vacate_b66 h)))
theorem fr_X9_vacate_b19 {M0 : gM}  {M : gM} (h : Ag M M0) {a1 : Int32} {a2 : Int32} {t0 : Int32} : Fr M0 (f_X9_vacate_b19  M a1 a2 t0) := by
  unfold f_X9_vacate_b19
  exact (Fr.ite (fr_X9_vacate_b66 h) (Fr.rb (fr_X9_hasRoom h) (fun x10 M9 hM9 => (Fr.ite (fr_X9_vacate_b66 hM9) (Fr.gI (Fr.ite (Fr.gI (Fr.ite (fr_X9_vacate_b52 hM9) (fr_X9_vacate_b62 hM9))) (fr_X9_vacate_b52 hM9)))))))
theorem fr_X9_latestOrder_b53 {M0 : gM} {self4 : gM → Int32 → Int32 → Int32 → gR} (hs4 : ∀ (M : gM) (x0 : Int32) (x1 : Int32) (x2 : Int32), Ag M M0 → Fr M0 (self4 M x0 x1 x2)) {M : gM} (h : Ag M M0) {a1 : Int32} {a2 : Int32} {a3 : Int32} {t0 : Int32} : Fr M0 (f_X9_latestOrder_b53 self4 M a1 a2 a3 t0) := by
  unfold f_X9_latestOrder_b53
  exact (Fr.ite (Fr.bV (fun x1 => (hs4 _ _ _ _ h))) (Fr.gI (Fr.ite (Fr.gI (Fr.ite (Fr.bV (fun x2 => (hs4 _ _ _ _ h))) (Fr.bV (fun x3 => (hs4 _ _ _ _ h))))) (Fr.bV (fun x4 => (hs4 _ _ _ _ h))))))
theorem fr_X9_latestOrder_b48 {M0 : gM} {self4 : gM → Int32 → Int32 → Int32 → gR} (hs4 : ∀ (M : gM) (x0 : Int32) (x1 : Int32) (x2 : Int32), Ag M M0 → Fr M0 (self4 M x0 x1 x2)) {M : gM} (h : Ag M M0) {a1 : Int32} {a2 : Int32} {a3 : Int32} : Fr M0 (f_X9_latestOrder_b48 self4 M a1 a2 a3) := by
  unfold f_X9_latestOrder_b48
  exact (fr_X9_latestOrder_b53 hs4 h)
theorem fr_X9_latestOrder_lb4 {M0 : gM} {self4 : gM → Int32 → Int32 → Int32 → gR} (hs4 : ∀ (M : gM) (x0 : Int32) (x1 : Int32) (x2 : Int32), Ag M M0 → Fr M0 (self4 M x0 x1 x2)) {M : gM} (h : Ag M M0) {a1 : Int32} {a2 : Int32} {a3 : Int32} : Fr M0 (f_X9_latestOrder_lb4 self4 M a1 a2 a3) := by
  unfold f_X9_latestOrder_lb4
  exact (Fr.ite (Fr.ret h) (Fr.gI (Fr.ite (fr_X9_latestOrder_b48 hs4 h) (Fr.gI (Fr.ite (fr_X9_latestOrder_b48 hs4 h) (Fr.gI (Fr.rb (fr_X9_within h) (fun x6 M5 hM5 => (Fr.ite (fr_X9_latestOrder_b53 hs4 hM5) (fr_X9_latestOrder_b48 hs4 hM5))))))))))
theorem fr_X9_latestOrder_l4 {M0 : gM}  : ∀ (n : Nat) {M : gM} (h : Ag M M0) {a0 : Int32} {a1 : Int32} {a2 : Int32}, Fr M0 (f_X9_latestOrder_l4  n M a0 a1 a2)
  | 0, _, _, _, _, _ => Fr.stuck
  | n + 1, _, h, _, _, _ => fr_X9_latestOrder_lb4 (fun _ _ _ _ h2 => fr_X9_latestOrder_l4 n h2) h
theorem fr_X9_latestOrder {M0 : gM}  {M : gM} (h : Ag M M0) {a1 : Int32} : Fr M0 (f_X9_latestOrder  M a1) := by
  unfold f_X9_latestOrder
  exact (fr_X9_latestOrder_l4 5000 h)
theorem fr_X9_vacate {M0 : gM}  {M : gM} (h : Ag M M0) {a1 : Int32} : Fr M0 (f_X9_vacate  M a1) := by
  unfold f_X9_vacate
  exact (Fr.rb (fr_X9_isClaim h) (fun x12 M11 hM11 => (Fr.ite (fr_X9_vacate_b19 hM11) (Fr.rb (fr_X9_latestOrder hM11) (fun x14 M13 hM13 => (fr_X9_vacate_b19 hM13))))))
theorem fr_X9_appealDue_b39 {M0 : gM}  {M : gM} (h : Ag M M0) {a1 : Int32} {a2 : Int32} {t0 : Int32} {t1 : Int32} : Fr M0 (f_X9_appealDue_b39  M a1 a2 t0 t1) := by
  unfold f_X9_appealDue_b39
  exact (Fr.bV (fun x1 => (Fr.gI (Fr.gI (Fr.gI (Fr.rb (fr_X9_deadline h) (fun x3 M2 hM2 => (Fr.ret hM2))))))))
theorem fr_X9_appealFrom {M0 : gM}  {M : gM} (h : Ag M M0) {a1 : Int32} : Fr M0 (f_X9_appealFrom  M a1) := by
  unfold f_X9_appealFrom
  exact (Fr.rb (fr_X9_latest h) (fun x2 M1 hM1 => (Fr.rb (fr_X9_latest hM1) (fun x4 M3 hM3 => (Fr.gI (Fr.ite (Fr.ite (Fr.ret hM3) (Fr.ret hM3)) (Fr.ret hM3)))))))
theorem fr_X9_appealDue {M0 : gM}  {M : gM} (h : Ag M M0) {a1 : Int32} : Fr M0 (f_X9_appealDue  M a1) := by
  unfold f_X9_appealDue
  exact (Fr.rb (fr_X9_appealFrom h) (fun x5 M4 hM4 => (Fr.ite (Fr.ret hM4) (Fr.gI (Fr.gI (Fr.ite (Fr.gI (fr_X9_appealDue_b39 hM4)) (fr_X9_appealDue_b39 hM4)))))))
theorem fr_X9_appeal_b154 {M0 : gM}  {M : gM} (h : Ag M M0) {a1 : Int32} {t1 : Int32} : Fr M0 (f_X9_appeal_b154  M a1 t1) := by
  unfold f_X9_appeal_b154
  exact (Fr.rb (fr_X9_refused h) (fun x4 M3 hM3 => (Fr.ite (Fr.rb (fr_X9_enter hM3) (fun x6 M5 hM5 => (Fr.gI (Fr.bM (hM5.st (by decide)) (fun M7 hM7 => (Fr.ret hM7)))))) (Fr.ret hM3))))
theorem fr_X9_appeal_b149 {M0 : gM}  {M : gM} (h : Ag M M0) {a1 : Int32} : Fr M0 (f_X9_appeal_b149  M a1) := by
  unfold f_X9_appeal_b149
  exact (fr_X9_appeal_b154 h)
theorem fr_X9_appeal_b130 {M0 : gM}  {M : gM} (h : Ag M M0) {a1 : Int32} {a2 : Int32} {a3 : Int32} {a5 : Int32} : Fr M0 (f_X9_appeal_b130  M a1 a2 a3 a5) := by
  unfold f_X9_appeal_b130
  exact (Fr.ite (fr_X9_appeal_b154 h) (Fr.ite (fr_X9_appeal_b149 h) (Fr.ite (fr_X9_appeal_b154 h) (fr_X9_appeal_b149 h))))
theorem fr_X9_appeal_b120 {M0 : gM} {self78 : gM → Int32 → Int32 → Int32 → Int32 → Int32 → gR} (hs78 : ∀ (M : gM) (x0 : Int32) (x1 : Int32) (x2 : Int32) (x3 : Int32) (x4 : Int32), Ag M M0 → Fr M0 (self78 M x0 x1 x2 x3 x4)) {M : gM} (h : Ag M M0) {a1 : Int32} {a2 : Int32} {a3 : Int32} {a6 : Int32} {t0 : Int32} : Fr M0 (f_X9_appeal_b120 self78 M a1 a2 a3 a6 t0) := by
  unfold f_X9_appeal_b120
  exact (Fr.bV (fun x1 => (Fr.bV (fun x2 => (hs78 _ _ _ _ _ _ h)))))
theorem fr_X9_appeal_lb78 {M0 : gM} {self78 : gM → Int32 → Int32 → Int32 → Int32 → Int32 → gR} (hs78 : ∀ (M : gM) (x0 : Int32) (x1 : Int32) (x2 : Int32) (x3 : Int32) (x4 : Int32), Ag M M0 → Fr M0 (self78 M x0 x1 x2 x3 x4)) {M : gM} (h : Ag M M0) {a1 : Int32} {a2 : Int32} {a3 : Int32} {a5 : Int32} {a6 : Int32} : Fr M0 (f_X9_appeal_lb78 self78 M a1 a2 a3 a5 a6) := by
  unfold f_X9_appeal_lb78
  exact (Fr.ite (fr_X9_appeal_b130 h) (Fr.ite (fr_X9_appeal_b130 h) (Fr.gI (Fr.ite (Fr.gI (Fr.ite (Fr.bV (fun x8 => (Fr.bV (fun x9 => (hs78 _ _ _ _ _ _ h))))) (fr_X9_appeal_b120 hs78 h))) (fr_X9_appeal_b120 hs78 h)))))
theorem fr_X9_appeal_l78 {M0 : gM}  : ∀ (n : Nat) {M : gM} (h : Ag M M0) {a0 : Int32} {a1 : Int32} {a2 : Int32} {a3 : Int32} {a4 : Int32}, Fr M0 (f_X9_appeal_l78  n M a0 a1 a2 a3 a4)
  | 0, _, _, _, _, _, _, _ => Fr.stuck
  | n + 1, _, h, _, _, _, _, _ => fr_X9_appeal_lb78 (fun _ _ _ _ _ _ h2 => fr_X9_appeal_l78 n h2) h
theorem fr_X9_appeal_b67 {M0 : gM}  {M : gM} (h : Ag M M0) {a1 : Int32} {a2 : Int32} {a3 : Int32} {t0 : Int32} : Fr M0 (f_X9_appeal_b67  M a1 a2 a3 t0) := by
  unfold f_X9_appeal_b67
  exact (Fr.bV (fun x10 => (fr_X9_appeal_l78 5000 h)))
theorem fr_X9_appeal_b52 {M0 : gM}  {M : gM} (h : Ag M M0) {a1 : Int32} {a2 : Int32} {t0 : Int32} : Fr M0 (f_X9_appeal_b52  M a1 a2 t0) := by
  unfold f_X9_appeal_b52
  exact (Fr.ite (fr_X9_appeal_b67 h) (Fr.rb (fr_X9_latest h) (fun x12 M11 hM11 => (fr_X9_appeal_b67 hM11))))
theorem fr_X9_appeal_b51 {M0 : gM}  {M : gM} (h : Ag M M0) {a1 : Int32} {a2 : Int32} : Fr M0 (f_X9_appeal_b51  M a1 a2) := by
  unfold f_X9_appeal_b51
  exact (fr_X9_appeal_b52 h)
theorem fr_X9_paid_b43 {M0 : gM} {self4 : gM → Int32 → Int32 → Int32 → gR} (hs4 : ∀ (M : gM) (x0 : Int32) (x1 : Int32) (x2 : Int32), Ag M M0 → Fr M0 (self4 M x0 x1 x2)) {M : gM} (h : Ag M M0) {a1 : Int32} {a3 : Int32} {t0 : Int32} : Fr M0 (f_X9_paid_b43 self4 M a1 a3 t0) := by
  unfold f_X9_paid_b43
  exact (Fr.bV (fun x1 => (Fr.bV (fun x2 => (hs4 _ _ _ _ h)))))
theorem fr_X9_paid_lb4 {M0 : gM} {self4 : gM → Int32 → Int32 → Int32 → gR} (hs4 : ∀ (M : gM) (x0 : Int32) (x1 : Int32) (x2 : Int32), Ag M M0 → Fr M0 (self4 M x0 x1 x2)) {M : gM} (h : Ag M M0) {a1 : Int32} {a2 : Int32} {a3 : Int32} : Fr M0 (f_X9_paid_lb4 self4 M a1 a2 a3) := by
  unfold f_X9_paid_lb4
  exact (Fr.ite (Fr.ret h) (Fr.gI (Fr.ite (Fr.gI (Fr.ite (Fr.gI (Fr.bV (fun x3 => (Fr.bV (fun x4 => (hs4 _ _ _ _ h)))))) (fr_X9_paid_b43 hs4 h))) (fr_X9_paid_b43 hs4 h))))
theorem fr_X9_paid_l4 {M0 : gM}  : ∀ (n : Nat) {M : gM} (h : Ag M M0) {a0 : Int32} {a1 : Int32} {a2 : Int32}, Fr M0 (f_X9_paid_l4  n M a0 a1 a2)
  | 0, _, _, _, _, _ => Fr.stuck
  | n + 1, _, h, _, _, _ => fr_X9_paid_lb4 (fun _ _ _ _ h2 => fr_X9_paid_l4 n h2) h
theorem fr_X9_paid {M0 : gM}  {M : gM} (h : Ag M M0) {a1 : Int32} : Fr M0 (f_X9_paid  M a1) := by
  unfold f_X9_paid
  exact (fr_X9_paid_l4 5000 h)
theorem fr_X9_appeal {M0 : gM}  {M : gM} (h : Ag M M0) {a1 : Int32} : Fr M0 (f_X9_appeal  M a1) := by
  unfold f_X9_appeal
  exact (Fr.rb (fr_X9_isClaim h) (fun x14 M13 hM13 => (Fr.ite (fr_X9_appeal_b51 hM13) (Fr.rb (fr_X9_hasRoom hM13) (fun x16 M15 hM15 => (Fr.ite (fr_X9_appeal_b51 hM15) (Fr.gI (Fr.ite (Fr.rb (fr_X9_paid hM15) (fun x18 M17 hM17 => (Fr.ite (Fr.rb (fr_X9_appealDue hM17) (fun x20 M19 hM19 => (Fr.rb (fr_X9_isBehind hM19) (fun x22 M21 hM21 => (Fr.ite (fr_X9_appeal_b52 hM21) (fr_X9_appeal_b51 hM21)))))) (fr_X9_appeal_b51 hM17)))) (fr_X9_appeal_b51 hM15)))))))))
theorem fr_X9_decide_b164 {M0 : gM}  {M : gM} (h : Ag M M0) {a1 : Int32} {a2 : Int32} {a3 : Int32} {a7 : Int32} {a8 : Int32} {t1 : Int32} {t2 : Int32} : Fr M0 (f_X9_decide_b164  M a1 a2 a3 a7 a8 t1 t2) := by
  unfold f_X9_decide_b164
  exact (Fr.gI (Fr.bM (h.st (by decide)) (fun M1 hM1 => (Fr.ite (Fr.gI (Fr.bM (hM1.st (by decide)) (fun M2 hM2 => (Fr.gI (Fr.gI (Fr.bM (hM2.st (by decide)) (fun M3 hM3 => (Fr.ret hM3)))))))) (Fr.ret hM1)))))
theorem fr_X9_decide_b136 {M0 : gM}  {M : gM} (h : Ag M M0) {a1 : Int32} {a2 : Int32} {a3 : Int32} {a7 : Int32} {t1 : Int32} {t2 : Int32} {t3 : Int32} {t4 : Int32} : Fr M0 (f_X9_decide_b136  M a1 a2 a3 a7 t1 t2 t3 t4) := by
  unfold f_X9_decide_b136
  exact (Fr.rb (fr_X9_enter h) (fun x5 M4 hM4 => (Fr.ite (fr_X9_decide_b164 hM4) (Fr.ite (fr_X9_decide_b164 hM4) (fr_X9_decide_b164 hM4)))))
theorem fr_X9_decide_b105 {M0 : gM}  {M : gM} (h : Ag M M0) {a1 : Int32} {a2 : Int32} {a3 : Int32} {t1 : Int32} : Fr M0 (f_X9_decide_b105  M a1 a2 a3 t1) := by
  unfold f_X9_decide_b105
  exact (Fr.rb (fr_X9_refused h) (fun x7 M6 hM6 => (Fr.ite (Fr.rb (fr_X9_latest hM6) (fun x9 M8 hM8 => (Fr.ite (fr_X9_decide_b136 hM8) (fr_X9_decide_b136 hM8)))) (Fr.ret hM6))))
theorem fr_X9_decide_b74 {M0 : gM}  {M : gM} (h : Ag M M0) {a1 : Int32} {a2 : Int32} {a3 : Int32} {a4 : Int32} {a5 : Int32} {t0 : Int32} : Fr M0 (f_X9_decide_b74  M a1 a2 a3 a4 a5 t0) := by
  unfold f_X9_decide_b74
  exact (Fr.ite (fr_X9_decide_b105 h) (Fr.ite (fr_X9_decide_b105 h) (Fr.ite (fr_X9_decide_b105 h) (fr_X9_decide_b105 h))))
theorem fr_X9_decide_b73 {M0 : gM}  {M : gM} (h : Ag M M0) {a1 : Int32} {a2 : Int32} {a3 : Int32} {a4 : Int32} {a5 : Int32} : Fr M0 (f_X9_decide_b73  M a1 a2 a3 a4 a5) := by
  unfold f_X9_decide_b73
  exact (fr_X9_decide_b74 h)
theorem fr_X9_decide_b45 {M0 : gM}  {M : gM} (h : Ag M M0) {a1 : Int32} {a2 : Int32} {a3 : Int32} {a4 : Int32} {t0 : Int32} : Fr M0 (f_X9_decide_b45  M a1 a2 a3 a4 t0) := by
  unfold f_X9_decide_b45
  exact (Fr.ite (fr_X9_decide_b73 h) (Fr.rb (fr_X9_hasRoom h) (fun x11 M10 hM10 => (Fr.ite (fr_X9_decide_b73 hM10) (Fr.gI (Fr.ite (fr_X9_decide_b74 hM10) (fr_X9_decide_b73 hM10)))))))
theorem fr_X9_decide_b40 {M0 : gM}  {M : gM} (h : Ag M M0) {a1 : Int32} {a2 : Int32} {a3 : Int32} {a4 : Int32} : Fr M0 (f_X9_decide_b40  M a1 a2 a3 a4) := by
  unfold f_X9_decide_b40
  exact (fr_X9_decide_b45 h)
theorem fr_X9_decide_b44 {M0 : gM}  {M : gM} (h : Ag M M0) {a1 : Int32} {a2 : Int32} {a3 : Int32} {a4 : Int32} : Fr M0 (f_X9_decide_b44  M a1 a2 a3 a4) := by
  unfold f_X9_decide_b44
  exact (fr_X9_decide_b45 h)
theorem fr_X9_decide {M0 : gM}  {M : gM} (h : Ag M M0) {a1 : Int32} {a2 : Int32} {a3 : Int32} : Fr M0 (f_X9_decide  M a1 a2 a3) := by
  unfold f_X9_decide
  exact (Fr.rb (fr_X9_isClaim h) (fun x13 M12 hM12 => (Fr.ite (fr_X9_decide_b44 hM12) (Fr.rb (fr_X9_within hM12) (fun x15 M14 hM14 => (Fr.ite (fr_X9_decide_b44 hM14) (Fr.ite (fr_X9_decide_b40 hM14) (Fr.gI (Fr.rb (fr_X9_within hM14) (fun x17 M16 hM16 => (Fr.ite (fr_X9_decide_b44 hM16) (fr_X9_decide_b40 hM16))))))))))))
theorem fr_X9_settle_b70 {M0 : gM}  {M : gM} (h : Ag M M0) {a1 : Int32} {t1 : Int32} : Fr M0 (f_X9_settle_b70  M a1 t1) := by
  unfold f_X9_settle_b70
  exact (Fr.rb (fr_X9_refused h) (fun x2 M1 hM1 => (Fr.ite (Fr.rb (fr_X9_enter hM1) (fun x4 M3 hM3 => (Fr.gI (Fr.bM (hM3.st (by decide)) (fun M5 hM5 => (Fr.ret hM5)))))) (Fr.ret hM1))))
theorem fr_X9_settle_b51 {M0 : gM}  {M : gM} (h : Ag M M0) {a1 : Int32} {a2 : Int32} {t0 : Int32} : Fr M0 (f_X9_settle_b51  M a1 a2 t0) := by
  unfold f_X9_settle_b51
  exact (Fr.ite (fr_X9_settle_b70 h) (Fr.ite (fr_X9_settle_b70 h) (fr_X9_settle_b70 h)))
theorem fr_X9_settle_b50 {M0 : gM}  {M : gM} (h : Ag M M0) {a1 : Int32} {a2 : Int32} : Fr M0 (f_X9_settle_b50  M a1 a2) := by
  unfold f_X9_settle_b50
  exact (fr_X9_settle_b51 h)
theorem fr_X9_settle_b46 {M0 : gM}  {M : gM} (h : Ag M M0) {a1 : Int32} {a2 : Int32} : Fr M0 (f_X9_settle_b46  M a1 a2) := by
  unfold f_X9_settle_b46
  exact (fr_X9_settle_b51 h)
theorem fr_X9_settle {M0 : gM}  {M : gM} (h : Ag M M0) {a1 : Int32} : Fr M0 (f_X9_settle  M a1) := by
  unfold f_X9_settle
  exact (Fr.rb (fr_X9_isClaim h) (fun x7 M6 hM6 => (Fr.ite (fr_X9_settle_b50 hM6) (Fr.rb (fr_X9_hasRoom hM6) (fun x9 M8 hM8 => (Fr.ite (fr_X9_settle_b50 hM8) (Fr.gI (Fr.ite (fr_X9_settle_b46 hM8) (Fr.gI (Fr.ite (fr_X9_settle_b46 hM8) (Fr.gI (Fr.ite (fr_X9_settle_b46 hM8) (fr_X9_settle_b50 hM8)))))))))))))
theorem fr_X9_owed {M0 : gM}  {M : gM} (h : Ag M M0) {a1 : Int32} : Fr M0 (f_X9_owed  M a1) := by
  unfold f_X9_owed
  exact (Fr.gI (Fr.ite (Fr.rb (fr_X9_latest h) (fun x2 M1 hM1 => (Fr.gI (Fr.bV (fun x3 => (Fr.gI (Fr.gI (Fr.gNz (Fr.gNz (Fr.rb (fr_X9_paid hM1) (fun x5 M4 hM4 => (Fr.ret hM4)))))))))))) (Fr.ret h)))
theorem fr_X9_pay_b113 {M0 : gM}  {M : gM} (h : Ag M M0) {a1 : Int32} {t1 : Int32} {t2 : Int32} : Fr M0 (f_X9_pay_b113  M a1 t1 t2) := by
  unfold f_X9_pay_b113
  exact (Fr.gI (Fr.bM (h.st (by decide)) (fun M1 hM1 => (Fr.rb (fr_X9_owed hM1) (fun x3 M2 hM2 => (Fr.ret hM2))))))
theorem fr_X9_pay_b77 {M0 : gM}  {M : gM} (h : Ag M M0) {a1 : Int32} {a2 : Int32} {t1 : Int32} : Fr M0 (f_X9_pay_b77  M a1 a2 t1) := by
  unfold f_X9_pay_b77
  exact (Fr.rb (fr_X9_refused h) (fun x5 M4 hM4 => (Fr.ite (Fr.rb (fr_X9_enter hM4) (fun x7 M6 hM6 => (Fr.rb (fr_X9_owed hM6) (fun x9 M8 hM8 => (Fr.ite (fr_X9_pay_b113 hM8) (fr_X9_pay_b113 hM8)))))) (Fr.ret hM4))))
theorem fr_X9_pay_b41 {M0 : gM}  {M : gM} (h : Ag M M0) {a1 : Int32} {a2 : Int32} {a3 : Int32} {t0 : Int32} : Fr M0 (f_X9_pay_b41  M a1 a2 a3 t0) := by
  unfold f_X9_pay_b41
  exact (Fr.ite (fr_X9_pay_b77 h) (Fr.rb (fr_X9_within h) (fun x11 M10 hM10 => (Fr.ite (fr_X9_pay_b77 hM10) (Fr.ite (fr_X9_pay_b77 hM10) (fr_X9_pay_b77 hM10))))))
theorem fr_X9_pay_b40 {M0 : gM}  {M : gM} (h : Ag M M0) {a1 : Int32} {a2 : Int32} {a3 : Int32} : Fr M0 (f_X9_pay_b40  M a1 a2 a3) := by
  unfold f_X9_pay_b40
  exact (fr_X9_pay_b41 h)
theorem fr_X9_pay {M0 : gM}  {M : gM} (h : Ag M M0) {a1 : Int32} {a2 : Int32} : Fr M0 (f_X9_pay  M a1 a2) := by
  unfold f_X9_pay
  exact (Fr.rb (fr_X9_isClaim h) (fun x13 M12 hM12 => (Fr.ite (fr_X9_pay_b40 hM12) (Fr.rb (fr_X9_hasRoom hM12) (fun x15 M14 hM14 => (Fr.ite (fr_X9_pay_b40 hM14) (Fr.gI (Fr.ite (Fr.rb (fr_X9_owed hM14) (fun x17 M16 hM16 => (Fr.ite (fr_X9_pay_b40 hM16) (fr_X9_pay_b41 hM16)))) (fr_X9_pay_b40 hM14)))))))))
theorem fr_X9_stay_b77 {M0 : gM}  {M : gM} (h : Ag M M0) {a1 : Int32} {t1 : Int32} : Fr M0 (f_X9_stay_b77  M a1 t1) := by
  unfold f_X9_stay_b77
  exact (Fr.rb (fr_X9_enter h) (fun x2 M1 hM1 => (Fr.ret hM1)))
theorem fr_X9_stay_b55 {M0 : gM}  {M : gM} (h : Ag M M0) {a1 : Int32} {a2 : Int32} {t1 : Int32} : Fr M0 (f_X9_stay_b55  M a1 a2 t1) := by
  unfold f_X9_stay_b55
  exact (Fr.rb (fr_X9_refused h) (fun x4 M3 hM3 => (Fr.ite (Fr.ite (fr_X9_stay_b77 hM3) (fr_X9_stay_b77 hM3)) (Fr.ret hM3))))
theorem fr_X9_stay_b34 {M0 : gM}  {M : gM} (h : Ag M M0) {a1 : Int32} {a2 : Int32} {a3 : Int32} {t0 : Int32} : Fr M0 (f_X9_stay_b34  M a1 a2 a3 t0) := by
  unfold f_X9_stay_b34
  exact (Fr.ite (fr_X9_stay_b55 h) (Fr.ite (fr_X9_stay_b55 h) (fr_X9_stay_b55 h)))
theorem fr_X9_stay_b33 {M0 : gM}  {M : gM} (h : Ag M M0) {a1 : Int32} {a2 : Int32} {a3 : Int32} : Fr M0 (f_X9_stay_b33  M a1 a2 a3) := by
  unfold f_X9_stay_b33
  exact (fr_X9_stay_b34 h)
theorem fr_X9_stay {M0 : gM}  {M : gM} (h : Ag M M0) {a1 : Int32} {a2 : Int32} : Fr M0 (f_X9_stay  M a1 a2) := by
  unfold f_X9_stay
  exact (Fr.rb (fr_X9_isCase h) (fun x6 M5 hM5 => (Fr.ite (fr_X9_stay_b33 hM5) (Fr.rb (fr_X9_hasRoom hM5) (fun x8 M7 hM7 => (Fr.ite (fr_X9_stay_b33 hM7) (Fr.rb (fr_X9_isStayedAlone hM7) (fun x10 M9 hM9 => (Fr.ite (fr_X9_stay_b33 hM9) (fr_X9_stay_b34 hM9))))))))))
theorem fr_X9_defect_b43 {M0 : gM}  {M : gM} (h : Ag M M0) {a1 : Int32} {t1 : Int32} : Fr M0 (f_X9_defect_b43  M a1 t1) := by
  unfold f_X9_defect_b43
  exact (Fr.rb (fr_X9_refused h) (fun x2 M1 hM1 => (Fr.ite (Fr.gI (Fr.bM (hM1.st (by decide)) (fun M3 hM3 => (Fr.gI (Fr.gI (Fr.bM (hM3.st (by decide)) (fun M4 hM4 => (Fr.gI (Fr.gZ01 (Fr.gI (Fr.bM (hM4.st (by decide)) (fun M5 hM5 => (Fr.rb (fr_X9_cureOf hM5) (fun x7 M6 hM6 => (Fr.ret hM6))))))))))))))) (Fr.ret hM1))))
theorem fr_X9_defect_b38 {M0 : gM}  {M : gM} (h : Ag M M0) {a1 : Int32} : Fr M0 (f_X9_defect_b38  M a1) := by
  unfold f_X9_defect_b38
  exact (fr_X9_defect_b43 h)
theorem fr_X9_defect {M0 : gM}  {M : gM} (h : Ag M M0) {a1 : Int32} : Fr M0 (f_X9_defect  M a1) := by
  unfold f_X9_defect
  exact (Fr.rb (fr_X9_isEntry h) (fun x9 M8 hM8 => (Fr.ite (fr_X9_defect_b43 hM8) (Fr.gI (Fr.rb (fr_X9_within hM8) (fun x11 M10 hM10 => (Fr.ite (fr_X9_defect_b38 hM10) (Fr.gI (Fr.ite (fr_X9_defect_b43 hM10) (fr_X9_defect_b38 hM10))))))))))
theorem fr_X9_cure_b50 {M0 : gM}  {M : gM} (h : Ag M M0) {a1 : Int32} {t1 : Int32} : Fr M0 (f_X9_cure_b50  M a1 t1) := by
  unfold f_X9_cure_b50
  exact (Fr.rb (fr_X9_refused h) (fun x2 M1 hM1 => (Fr.ite (Fr.gZ01 (Fr.gI (Fr.bM (hM1.st (by decide)) (fun M3 hM3 => (Fr.ret hM3))))) (Fr.ret hM1))))
theorem fr_X9_cure_b45 {M0 : gM}  {M : gM} (h : Ag M M0) {a1 : Int32} : Fr M0 (f_X9_cure_b45  M a1) := by
  unfold f_X9_cure_b45
  exact (fr_X9_cure_b50 h)
theorem fr_X9_cure {M0 : gM}  {M : gM} (h : Ag M M0) {a1 : Int32} : Fr M0 (f_X9_cure  M a1) := by
  unfold f_X9_cure
  exact (Fr.rb (fr_X9_isEntry h) (fun x5 M4 hM4 => (Fr.ite (fr_X9_cure_b50 hM4) (Fr.gI (Fr.ite (fr_X9_cure_b45 hM4) (Fr.gI (Fr.ite (Fr.rb (fr_X9_cureOf hM4) (fun x7 M6 hM6 => (Fr.rb (fr_X9_isBehind hM6) (fun x9 M8 hM8 => (Fr.ite (fr_X9_cure_b50 hM8) (fr_X9_cure_b45 hM8)))))) (fr_X9_cure_b45 hM4))))))))
theorem fr_X9_dueOf {M0 : gM}  {M : gM} (h : Ag M M0) {a1 : Int32} {a2 : Int32} : Fr M0 (f_X9_dueOf  M a1 a2) := by
  unfold f_X9_dueOf
  exact (Fr.ite (Fr.rb (fr_X9_answerDue h) (fun x2 M1 hM1 => (Fr.ret hM1))) (Fr.ite (Fr.rb (fr_X9_responseDue h) (fun x4 M3 hM3 => (Fr.ret hM3))) (Fr.ite (Fr.rb (fr_X9_appealDue h) (fun x6 M5 hM5 => (Fr.ret hM5))) (Fr.rb (fr_X9_cureOf h) (fun x8 M7 hM7 => (Fr.ret hM7))))))
theorem fr_X9_extend_b203 {M0 : gM}  {M : gM} (h : Ag M M0) {a1 : Int32} {a2 : Int32} : Fr M0 (f_X9_extend_b203  M a1 a2) := by
  unfold f_X9_extend_b203
  exact (Fr.rb (fr_X9_dueOf h) (fun x2 M1 hM1 => (Fr.ret hM1)))
theorem fr_X9_extend_b193 {M0 : gM}  {M : gM} (h : Ag M M0) {a1 : Int32} {a2 : Int32} {a6 : Int32} {t1 : Int32} {t2 : Int32} {t3 : Int32} : Fr M0 (f_X9_extend_b193  M a1 a2 a6 t1 t2 t3) := by
  unfold f_X9_extend_b193
  exact (Fr.gI (Fr.bM (h.st (by decide)) (fun M5 hM5 => (Fr.gI (Fr.bM (hM5.st (by decide)) (fun M6 hM6 => (fr_X9_extend_b203 hM6)))))))
theorem fr_X9_extend_b128 {M0 : gM}  {M : gM} (h : Ag M M0) {a1 : Int32} {a2 : Int32} {a6 : Int32} {t1 : Int32} {t2 : Int32} {t3 : Int32} : Fr M0 (f_X9_extend_b128  M a1 a2 a6 t1 t2 t3) := by
  unfold f_X9_extend_b128
  exact (Fr.gI (Fr.bM (h.st (by decide)) (fun M3 hM3 => (Fr.gI (Fr.bM (hM3.st (by decide)) (fun M4 hM4 => (fr_X9_extend_b203 hM4)))))))
theorem fr_X9_extend_b82 {M0 : gM}  {M : gM} (h : Ag M M0) {a1 : Int32} {a2 : Int32} {a3 : Int32} {t1 : Int32} : Fr M0 (f_X9_extend_b82  M a1 a2 a3 t1) := by
  unfold f_X9_extend_b82
  exact (Fr.rb (fr_X9_refused h) (fun x8 M7 hM7 => (Fr.ite (Fr.ite (Fr.rb (fr_X9_answerFrom hM7) (fun x10 M9 hM9 => (Fr.gI (Fr.ite (Fr.gI (fr_X9_extend_b128 hM9)) (fr_X9_extend_b128 hM9))))) (Fr.ite (Fr.gI (Fr.gI (Fr.bM (hM7.st (by decide)) (fun M11 hM11 => (fr_X9_extend_b203 hM11))))) (Fr.rb (fr_X9_appealFrom hM7) (fun x13 M12 hM12 => (Fr.gI (Fr.ite (Fr.gI (fr_X9_extend_b193 hM12)) (fr_X9_extend_b193 hM12))))))) (Fr.ret hM7))))
theorem fr_X9_extend_b77 {M0 : gM}  {M : gM} (h : Ag M M0) {a1 : Int32} {a2 : Int32} {a3 : Int32} : Fr M0 (f_X9_extend_b77  M a1 a2 a3) := by
  unfold f_X9_extend_b77
  exact (fr_X9_extend_b82 h)
theorem fr_X9_extend_b36 {M0 : gM}  {M : gM} (h : Ag M M0) {a1 : Int32} {a2 : Int32} {a3 : Int32} {a4 : Int32} {t0 : Int32} : Fr M0 (f_X9_extend_b36  M a1 a2 a3 a4 t0) := by
  unfold f_X9_extend_b36
  exact (Fr.ite (fr_X9_extend_b82 h) (Fr.rb (fr_X9_within h) (fun x15 M14 hM14 => (Fr.ite (fr_X9_extend_b82 hM14) (Fr.ite (fr_X9_extend_b77 hM14) (Fr.rb (fr_X9_isBehind hM14) (fun x17 M16 hM16 => (Fr.ite (fr_X9_extend_b82 hM16) (fr_X9_extend_b77 hM16)))))))))
theorem fr_X9_extend_b19 {M0 : gM}  {M : gM} (h : Ag M M0) {a1 : Int32} {a2 : Int32} {a3 : Int32} {t0 : Int32} : Fr M0 (f_X9_extend_b19  M a1 a2 a3 t0) := by
  unfold f_X9_extend_b19
  exact (Fr.ite (fr_X9_extend_b36 h) (Fr.rb (fr_X9_dueOf h) (fun x19 M18 hM18 => (fr_X9_extend_b36 hM18))))
theorem fr_X9_isOfSort {M0 : gM}  {M : gM} (h : Ag M M0) {a1 : Int32} {a2 : Int32} : Fr M0 (f_X9_isOfSort  M a1 a2) := by
  unfold f_X9_isOfSort
  exact (Fr.ite (Fr.rb (fr_X9_isMotion h) (fun x2 M1 hM1 => (Fr.gZ01 (Fr.ret hM1)))) (Fr.ite (Fr.rb (fr_X9_isEntry h) (fun x4 M3 hM3 => (Fr.gZ01 (Fr.ret hM3)))) (Fr.rb (fr_X9_within h) (fun x6 M5 hM5 => (Fr.ite (Fr.ret hM5) (Fr.rb (fr_X9_isClaim hM5) (fun x8 M7 hM7 => (Fr.ite (Fr.ret hM7) (Fr.ret hM7)))))))))
theorem fr_X9_extend_b18 {M0 : gM}  {M : gM} (h : Ag M M0) {a1 : Int32} {a2 : Int32} {a3 : Int32} : Fr M0 (f_X9_extend_b18  M a1 a2 a3) := by
  unfold f_X9_extend_b18
  exact (fr_X9_extend_b19 h)
theorem fr_X9_extend {M0 : gM}  {M : gM} (h : Ag M M0) {a1 : Int32} {a2 : Int32} {a3 : Int32} : Fr M0 (f_X9_extend  M a1 a2 a3) := by
  unfold f_X9_extend
  exact (Fr.ite (fr_X9_extend_b18 h) (Fr.rb (fr_X9_isOfSort h) (fun x21 M20 hM20 => (Fr.ite (fr_X9_extend_b18 hM20) (fr_X9_extend_b19 hM20)))))
theorem fr_X9_seal_lb44 {M0 : gM} {self44 : gM → Int32 → Int32 → Int32 → Int32 → gR} (hs44 : ∀ (M : gM) (x0 : Int32) (x1 : Int32) (x2 : Int32) (x3 : Int32), Ag M M0 → Fr M0 (self44 M x0 x1 x2 x3)) {M : gM} (h : Ag M M0) {a1 : Int32} {a2 : Int32} {a3 : Int32} {a4 : Int32} : Fr M0 (f_X9_seal_lb44 self44 M a1 a2 a3 a4) := by
  unfold f_X9_seal_lb44
  exact (Fr.ite (Fr.ite (Fr.ret h) (Fr.ret h)) (Fr.gZ01 (Fr.gI (Fr.bM (h.st (by decide)) (fun M1 hM1 => (Fr.bV (fun x2 => (hs44 _ _ _ _ _ hM1))))))))
theorem fr_X9_seal_l44 {M0 : gM}  : ∀ (n : Nat) {M : gM} (h : Ag M M0) {a0 : Int32} {a1 : Int32} {a2 : Int32} {a3 : Int32}, Fr M0 (f_X9_seal_l44  n M a0 a1 a2 a3)
  | 0, _, _, _, _, _, _ => Fr.stuck
  | n + 1, _, h, _, _, _, _ => fr_X9_seal_lb44 (fun _ _ _ _ _ h2 => fr_X9_seal_l44 n h2) h
theorem fr_X9_seal_b14 {M0 : gM}  {M : gM} (h : Ag M M0) {a1 : Int32} {a2 : Int32} {t1 : Int32} : Fr M0 (f_X9_seal_b14  M a1 a2 t1) := by
  unfold f_X9_seal_b14
  exact (Fr.rb (fr_X9_refused h) (fun x4 M3 hM3 => (Fr.ite (Fr.gI (Fr.bV (fun x5 => (Fr.bV (fun x6 => (fr_X9_seal_l44 5000 hM3)))))) (Fr.ret hM3))))
theorem fr_X9_seal {M0 : gM}  {M : gM} (h : Ag M M0) {a1 : Int32} {a2 : Int32} : Fr M0 (f_X9_seal  M a1 a2) := by
  unfold f_X9_seal
  exact (Fr.rb (fr_X9_isEntry h) (fun x8 M7 hM7 => (Fr.ite (fr_X9_seal_b14 hM7) (fr_X9_seal_b14 hM7))))
