theorem e_alt9 {M : gM} {c : Nat} (hc : c < 8) : f_X9_alternate M (nI c) = if M 142 (8 * c + 6) = -1 then (if M 142 (8 * c + 7) = -1 then rRet (-1) M else rRet 7 M) else rRet 6 M := by
  unfold f_X9_alternate
  rw [show (6 : Int32) = nI 6 from by decide, show (7 : Int32) = nI 7 from by decide, ix8, ix8, gI_nI (show 8 * c + 6 < 64 by omega) (by omega), nI_clamp (show 8 * c + 6 < 2 ^ 31 by omega), gI_nI (show 8 * c + 7 < 64 by omega) (by omega), nI_clamp (show 8 * c + 7 < 2 ^ 31 by omega)]
theorem e_b47 {M : gM} {c s : Nat} (hc : c < 8) (hs : s < 8) : f_X9_seat_b47 M (nI c) (nI s) = rRet (M 142 (8 * c + s)) M := by
  unfold f_X9_seat_b47
  rw [if_neg (m1_ne (by omega)), ix8, gI_nI (show 8 * c + s < 64 by omega) (by omega), nI_clamp (show 8 * c + s < 2 ^ 31 by omega)]
theorem st_seat : St_seat Inv := by
  intro n M a b hn hI
  obtain ⟨t, nh, nc, nk, ne, nr, nx, ns, I⟩ := hI
  obtain ⟨⟨a1, a2, a3, a4, a5, a6, a7, a8⟩, ⟨b1, b2, b3, b4, b5, b6, b7⟩, l1, l2, l3, l4, l5, l6, l7, l8⟩ := I.1
  have G := I.2.2.2.2.2.2.2.2.1
  have e6 : (6 : Int32) = nI 6 := by decide
  have e67 : (6 : Int32) = nI 7 - 1 := by decide
  rcases idx_cases a nc (by omega) with ⟨c, hc, rfl⟩ | hb
  · rcases idx_cases b 7 (by omega) with ⟨s, hs, rfl⟩ | hb
    · have fin : ∀ w : Int32, f_X8_seat M (nI c) (nI s) = rRet w M → (∀ M' : gM, M' 9 6 = nI nc → M' 142 = M 142 → f_X9_seat M' (nI c) (nI s) = rRet w (gset M' 9 0 0)) → AgI (f_L_seat M (nI c) (nI s)) (fun M1 => f_X9_seat M1 (nI c) (nI s)) (Inv (n + 1)) := by
        intro w h8 h9
        refine agI_ok (v := w) (M1 := M) (M2 := gset (gset M 10 0 w) 9 0 0) ?_ ?_ rfl rfl (inv_rd I)
        · unfold f_L_seat
          rw [h8, rc_ret]
        · exact h9 _ b3 rfl
      have k9 : ∀ M' : gM, M' 9 6 = nI nc → f_X9_seat M' (nI c) (nI s) = f_X9_seat_b24 M' (nI c) (nI s) 0 := by
        intro M' h
        unfold f_X9_seat
        rw [c9_Case h hc l3, rb_ret, if_neg i10, e67, wit_ok hs (by omega), rb_ret, if_neg i10]
      by_cases h6 : s < 6
      · refine fin (M 142 (8 * c + s)) ?_ (fun M' h1 h2 => ?_)
        · unfold f_X8_seat
          rw [c8_Case a3 hc l3, rb_ret, if_neg (nI_pos (by omega)), e6, if_pos (nI_le (by omega) (by omega)), if_neg (fun z => by
            have := (nI_eq (by omega) (by omega)).mp z
            omega), e_inSeat G (by omega) h6, rb_ret]
        · rw [k9 M' h1]
          unfold f_X9_seat_b24
          rw [rf_0, rb_ret, if_pos rfl, e6, if_neg (nI_ge (by omega) (by omega)), e_b47 (by omega) (by omega)]
          show rRet (M' 142 _) _ = _
          rw [h2]
      · have hs6 : s = 6 := by omega
        subst hs6
        have x8 : f_X8_seat M (nI c) (nI 6) = rb (f_X6_nextAlternate M (nI c)) (fun x4 M3 => rRet x4 M3) := by
          unfold f_X8_seat
          rw [c8_Case a3 hc l3, rb_ret, if_neg (nI_pos (by omega)), e6, if_pos (nI_le (by omega) (by omega)), if_pos rfl]
        have x9 : ∀ M' : gM, M' 9 6 = nI nc → f_X9_seat M' (nI c) (nI 6) = rb (f_X9_alternate (gset M' 9 0 0) (nI c)) (fun x4 M3 => f_X9_seat_b47 M3 (nI c) x4) := by
          intro M' h
          rw [k9 M' h]
          unfold f_X9_seat_b24
          rw [rf_0, rb_ret, if_pos rfl, e6, if_pos (nI_le (by omega) (by omega))]
        rcases e_next G (show c < 8 by omega) with ⟨p1, p2, p3⟩ | ⟨g, hg, -, -, p1, p2, p3⟩
        · refine fin (-1) (by rw [x8, p1, rb_ret]) (fun M' h1 h2 => ?_)
          rw [x9 M' h1, e_alt9 (by omega)]
          show rb (if M' 142 (8 * c + 6) = -1 then (if M' 142 (8 * c + 7) = -1 then _ else _) else _) _ = _
          rw [h2, p2, p3, if_pos rfl, if_pos rfl, rb_ret]
          unfold f_X9_seat_b47
          rw [if_pos rfl]
        · refine fin (M 142 (8 * c + (6 + g))) (by rw [x8, p1, rb_ret]) (fun M' h1 h2 => ?_)
          rw [x9 M' h1, e_alt9 (by omega)]
          show rb (if M' 142 (8 * c + 6) = -1 then (if M' 142 (8 * c + 7) = -1 then _ else _) else _) _ = _
          rw [h2]
          match g, hg with
          | 0, _ =>
            rw [if_neg p2, rb_ret, e6, e_b47 (by omega) (by omega)]
            show rRet (M' 142 _) _ = _
            rw [h2]
          | 1, _ =>
            rw [p3 6 (by omega) (by omega), if_pos rfl, if_neg p2, rb_ret, show (7 : Int32) = nI 7 from by decide, e_b47 (by omega) (by omega)]
            show rRet (M' 142 _) _ = _
            rw [h2]
          | y + 2, h => omega
    · refine agI_no (k := 1) ?_ (by decide) (b := 0) ?_ (inv_no I)
      · unfold f_L_seat f_X8_seat
        rw [c8_Case a3 hc l3, rb_ret]
        rcases hb with z | ⟨z, z2⟩
        · rw [if_pos z, rc_thr]
          rfl
        · rw [if_neg z, e6, if_neg (fun q => z2 (by
            obtain ⟨j, hj, rfl⟩ := nI_of z
            have := (nI_leI hj (by omega)).mp q
            exact nI_lt (by omega) (by omega))), rc_thr]
          rfl
      · unfold f_X9_seat
        rw [c9_Case b3 hc l3, rb_ret, if_neg i10, e67, wit_no (by omega) hb, rb_ret, if_pos rfl]
        unfold f_X9_seat_b23 f_X9_seat_b24
        rw [rf_1, rb_ret, if_neg i10]
  · refine agI_no (k := 1) ?_ (by decide) (b := 0) ?_ (inv_no I)
    · unfold f_L_seat f_X8_seat
      rw [n8_Case a3 hb, rb_thr, rc_thr]
      rfl
    · unfold f_X9_seat
      rw [n9_Case b3 l3 hb, rb_ret, if_pos rfl]
      unfold f_X9_seat_b23 f_X9_seat_b24
      rw [rf_1, rb_ret, if_neg i10]
