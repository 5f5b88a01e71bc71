theorem wk_bits : ∀ d, d < 1401 → (bt (wkv (nI d)) 8 = true ↔ 5 ≤ d % 7) ∧ ∀ c, c < 8 → bt (wkv (nI d)) c = false := by decide +kernel
theorem m0_11 {d : Nat} (h : d ≤ 1400) : M0 11 d = wkv (nI d) := if_pos (show d < 1401 by omega)
theorem m0_107 {j : Nat} (h : j < 128) : M0 107 j = -1 := if_pos h
theorem m0_142 {j : Nat} (h : j < 64) : M0 142 j = -1 := if_pos h
theorem m0_cnt : ∀ c, c < 8 → cntP (uf 128 (-1)) c 16 = 0 := by decide +kernel
theorem m0_13 : M0 103 = M0 13 := by
  funext j
  match j with
  | 0 => rfl
  | 1 => rfl
  | 2 => rfl
  | 3 => rfl
  | 4 => rfl
  | n + 5 => rfl
theorem nlt0 {α : Prop} {i : Nat} (h : i < 0) : α := absurd h (Nat.not_lt_zero i)
theorem inv0 : Inv 0 M0 := by
  refine ⟨0, 0, 0, 0, 0, 0, 0, 0, ⟨⟨rfl, rfl, rfl, rfl, rfl, rfl, rfl, rfl⟩, ⟨rfl, rfl, rfl, rfl, rfl, rfl, rfl⟩, by omega, by omega, by omega, by omega, by omega, by omega, by omega, by omega⟩, ?_, ?_, ?_, ?_, ?_, ?_, ?_, ?_, ?_, ?_, ?_, ?_, ?_⟩
  · refine ⟨fun d => Or.inl rfl, fun i hi => nlt0 hi, fun d hd => ⟨fun h => absurd h (by decide +kernel : ¬ (0 : Int32) = 1), fun ⟨i, hi, _⟩ => nlt0 hi⟩, fun d hd => ?_⟩
    rw [m0_11 hd, (wk_bits d (by omega)).1]
    exact ⟨fun h => Or.inl h, fun h => h.elim id (fun h => absurd h.2 (by decide +kernel : ¬ (0 : Int32) = 1))⟩
  · refine ⟨m0_13, rfl, fun j hj => ?_⟩
    match j, hj with
    | 0, _ => exact ⟨⟨21, by omega, by omega, by decide +kernel⟩, Or.inl rfl⟩
    | 1, _ => exact ⟨⟨14, by omega, by omega, by decide +kernel⟩, Or.inl rfl⟩
    | 2, _ => exact ⟨⟨30, by omega, by omega, by decide +kernel⟩, Or.inl rfl⟩
    | 3, _ => exact ⟨⟨14, by omega, by omega, by decide +kernel⟩, Or.inl rfl⟩
    | 4, _ => exact ⟨⟨5, by omega, by omega, by decide +kernel⟩, Or.inr rfl⟩
    | n + 5, h => omega
  · refine ⟨fun c hc d hd => ?_, fun c hc => ⟨0, by omega, rfl, fun k hk => nlt0 hk, fun d => rfl⟩⟩
    rw [m0_11 hd, (wk_bits d (by omega)).2 c hc]
    exact ⟨fun h => (by cases h), fun h => absurd h (by decide +kernel : ¬ (0 : Int32) = 1)⟩
  · refine ⟨⟨rfl, rfl, rfl⟩, fun c hc => nlt0 hc, fun c hc p hp => ?_, fun c hc => ⟨fun p _ => b_0 p, ?_⟩, fun c _ hc p hp => m0_107 (by omega)⟩
    · rw [m0_107 (by omega)]
      exact ⟨⟨fun h => (by rw [show M0 28 c = 0 from rfl, b_0] at h; cases h), fun h => absurd rfl h⟩, fun h => absurd rfl h⟩
    · show (0 : Int32) = nI (cntP (uf 128 (-1)) c 16)
      rw [m0_cnt c hc]
      rfl
  · exact ⟨⟨rfl, rfl, rfl, rfl, rfl, rfl, rfl⟩, fun k hk => nlt0 hk, fun k hk => nlt0 hk, fun k _ => ⟨rfl, rfl, rfl⟩, fun k _ => rfl⟩
  · exact ⟨⟨rfl, rfl, rfl⟩, fun r hr => nlt0 hr⟩
  · exact ⟨rfl, rfl, rfl, fun x => Or.inl rfl, fun j => ⟨0, by omega, rfl⟩⟩
  · refine ⟨rfl, fun j => Or.inl rfl, fun c hc => ⟨0, by omega, rfl, ?_, fun j hj => ?_, fun _ => ⟨fun s hs => m0_142 (by omega), rfl⟩, fun h => by cases h⟩⟩
    · rfl
    · rw [show M0 73 c = 0 from rfl, b_0]
      exact ⟨fun h => (by cases h), fun h => absurd h (by decide +kernel : ¬ (0 : Int32) = 1)⟩
  · exact ⟨fun i hi => nlt0 hi, fun i => Or.inl rfl, fun e he d hd => rfl⟩
  · exact ⟨⟨rfl, rfl, rfl, rfl, rfl, rfl⟩, fun e he => nlt0 he, fun e he => nlt0 he, fun e he => nlt0 he, fun e he => nlt0 he, fun e he => nlt0 he, fun e => ⟨Or.inl rfl, Or.inl rfl⟩, fun e he => nlt0 he, fun e _ => ⟨rfl, rfl⟩, fun m hm => nlt0 hm, fun e he => nlt0 he, fun s r hs => nlt0 hs⟩
  · exact ⟨⟨rfl, rfl, rfl⟩, fun e => ⟨Or.inl rfl, Or.inl rfl⟩, fun e he => nlt0 he, fun e _ => ⟨rfl, rfl⟩⟩
  · exact ⟨fun e he => nlt0 he, fun e => ⟨Or.inl rfl, Or.inl rfl⟩, fun e he => nlt0 he, fun k hk => nlt0 hk, fun k hk => nlt0 hk, fun k hk => nlt0 hk, fun k hk => nlt0 hk, fun e _ => rfl⟩
  · exact ⟨fun k hk => ⟨rfl, rfl⟩, fun k hk => nlt0 hk, fun e he => nlt0 he, fun k hk => nlt0 hk⟩
