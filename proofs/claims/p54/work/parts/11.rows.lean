theorem gE1 {Z : gZ} {M : gM} {q n b c : Nat} (ht : gT.getD q (9, 0, 0, 0) = (1, n, b, c)) : gE Z M q = .inl (Z.2.2.1.1, n, .inl (M q)) := by
  unfold gE
  rw [ht]
  rfl
theorem gE2 {Z : gZ} {M : gM} {q n b c : Nat} (ht : gT.getD q (9, 0, 0, 0) = (2, n, b, c)) : gE Z M q = .inl (Z.2.2.1.2.1, n, .inl (M q)) := by
  unfold gE
  rw [ht]
  rfl
theorem gE3 {Z : gZ} {M : gM} {q n b c : Nat} (ht : gT.getD q (9, 0, 0, 0) = (3, n, b, c)) : gE Z M q = .inl (Z.2.2.1.2.2.1, n, .inr (.inr (.inr (.inr (fun i => some (zad Z (b + i))))))) := by
  unfold gE
  rw [ht]
  rfl
theorem gE4 {Z : gZ} {M : gM} {q n b c : Nat} (ht : gT.getD q (9, 0, 0, 0) = (4, n, b, c)) : gE Z M q = .inl (Z.2.2.1.2.2.2, n, .inr (.inl (fun j => (M q j).toInt64))) := by
  unfold gE
  rw [ht]
  rfl
theorem gE5 {Z : gZ} {M : gM} {q w g i : Nat} (ht : gT.getD q (9, 0, 0, 0) = (5, w, g, i)) : gE Z M q = .inl (Z.2.2.1.1, w, .inl (fun j => if j < w then M g (i * w + j) else 0)) := by
  unfold gE
  rw [ht]
  rfl
section GR
variable {p : Program} {l : Launch} {e : Env} {R : Room} {s : State} {m : MethodId} {args : Array Value} {below : List Frame} {meth : Method} {c : Code} {nL : Nat} {Z : gZ} {kd mc k : Nat} {M : gM} {pc : Nat} {lv : List (Nat × Value)} {st : List Value} {F : gR} {cc : ByteArray} {own : String} {ret : Option FieldType}

theorem g_bv {x : Int32} {f : Int32 → gR} (kk : ∀ y : Int32, gW p l e R s m args below meth c nL Z kd mc k M pc lv (.int y :: st) (f y)) : gW p l e R s m args below meth c nL Z kd mc k M pc lv (.int x :: st) (bV x f) := kk x
theorem g_stuck : gW p l e R s m args below meth c nL Z kd mc k M pc lv st rStuck := fun h => absurd rfl h
theorem g_eq {F1 : gR} (h : F1 = F) (kk : gW p l e R s m args below meth c nL Z kd mc k M pc lv st F) : gW p l e R s m args below meth c nL Z kd mc k M pc lv st F1 := h ▸ kk
theorem g_if {P : Prop} {_ : Decidable P} {A B : gR} (ka : P → gW p l e R s m args below meth c nL Z kd mc k M pc lv st A) (kb : ¬ P → gW p l e R s m args below meth c nL Z kd mc k M pc lv st B) : gW p l e R s m args below meth c nL Z kd mc k M pc lv st (if P then A else B) := by
  by_cases h : P
  · rw [if_pos h]; exact ka h
  · rw [if_neg h]; exact kb h
theorem g_sub {lv1 : List (Nat × Value)} (ks : List Nat) (h : lv_pick lv ks = lv1) (kk : gW p l e R s m args below meth c nL Z kd mc k M pc lv1 st F) : gW p l e R s m args below meth c nL Z kd mc k M pc lv st F := fun hF H locs ls hP hD hS hl0 => kk hF H locs ls hP hD hS (lv_sub hl0 ks h)
theorem g_widen {k1 : Nat} (h : k ≤ k1) (kk : gW p l e R s m args below meth c nL Z kd mc k1 M pc lv st F) : gW p l e R s m args below meth c nL Z kd mc k M pc lv st F := fun hF H locs ls hP hD hS hl0 => W.widen h (Nat.mul_le_mul_left 6 h) (kk hF H locs ls hP hD hS hl0)
theorem g_iconst (hC : gC p l s m args meth c cc nL own ret Z) {n : Int} {v : Int32} (d : decode cc pc = .ok (.iconst n, 1)) (hv : Int32.ofInt n = v) (kk : gW p l e R s m args below meth c nL Z kd mc k M (pc + 1) lv (.int v :: st) F) : gW p l e R s m args below meth c nL Z kd mc k M pc lv st F := fun hF H locs ls hP hD hS hl0 => lv_iconst hC.1 hC.2.1 d hv (kk hF H locs ls hP hD hS hl0)
theorem g_bipush (hC : gC p l s m args meth c cc nL own ret Z) {n : Int} {v : Int32} (d : decode cc pc = .ok (.bipush n, 2)) (hv : (Int8.ofInt n).toInt32 = v) (kk : gW p l e R s m args below meth c nL Z kd mc k M (pc + 2) lv (.int v :: st) F) : gW p l e R s m args below meth c nL Z kd mc k M pc lv st F := fun hF H locs ls hP hD hS hl0 => lv_bipush hC.1 hC.2.1 d hv (kk hF H locs ls hP hD hS hl0)
theorem g_sipush (hC : gC p l s m args meth c cc nL own ret Z) {n : Int} {v : Int32} (d : decode cc pc = .ok (.sipush n, 3)) (hv : (Int16.ofInt n).toInt32 = v) (kk : gW p l e R s m args below meth c nL Z kd mc k M (pc + 3) lv (.int v :: st) F) : gW p l e R s m args below meth c nL Z kd mc k M pc lv st F := fun hF H locs ls hP hD hS hl0 => lv_sipush hC.1 hC.2.1 d hv (kk hF H locs ls hP hD hS hl0)
theorem g_ldc (hC : gC p l s m args meth c cc nL own ret Z) {n : Nat} {v : Int32} (hc : Cond.constant own n v ∈ gWS) (d : decode cc pc = .ok (.ldc n, 2)) (kk : gW p l e R s m args below meth c nL Z kd mc k M (pc + 2) lv (.int v :: st) F) : gW p l e R s m args below meth c nL Z kd mc k M pc lv st F := fun hF H locs ls hP hD hS hl0 => lv_ldc hC.1 hC.2.1 hC.2.2.2.1 (hC.2.2.2.2.1 _ hc) d (kk hF H locs ls hP hD hS hl0)
theorem g_ldcw (hC : gC p l s m args meth c cc nL own ret Z) {n : Nat} {v : Int32} (hc : Cond.constant own n v ∈ gWS) (d : decode cc pc = .ok (.ldc_w n, 3)) (kk : gW p l e R s m args below meth c nL Z kd mc k M (pc + 3) lv (.int v :: st) F) : gW p l e R s m args below meth c nL Z kd mc k M pc lv st F := fun hF H locs ls hP hD hS hl0 => lv_ldcw hC.1 hC.2.1 hC.2.2.2.1 (hC.2.2.2.2.1 _ hc) d (kk hF H locs ls hP hD hS hl0)
theorem g_iload_n (hC : gC p l s m args meth c cc nL own ret Z) {i : Fin 4} {i1 : Nat} (j : Nat) {x : Int32} (d : decode cc pc = .ok (.iload_n i, 1)) (hi : (i : Nat) = i1) (hl : lv[j]? = some (i1, .int x)) (kk : gW p l e R s m args below meth c nL Z kd mc k M (pc + 1) lv (.int x :: st) F) : gW p l e R s m args below meth c nL Z kd mc k M pc lv st F := fun hF H locs ls hP hD hS hl0 => lv_iload_n hC.1 hC.2.1 d hi (lv_at hl0 j hl) (kk hF H locs ls hP hD hS hl0)
theorem g_iload (hC : gC p l s m args meth c cc nL own ret Z) {i : Nat} (j : Nat) {x : Int32} (d : decode cc pc = .ok (.iload i, 2)) (hl : lv[j]? = some (i, .int x)) (kk : gW p l e R s m args below meth c nL Z kd mc k M (pc + 2) lv (.int x :: st) F) : gW p l e R s m args below meth c nL Z kd mc k M pc lv st F := fun hF H locs ls hP hD hS hl0 => lv_iload hC.1 hC.2.1 d (lv_at hl0 j hl) (kk hF H locs ls hP hD hS hl0)
theorem g_aload_n (hC : gC p l s m args meth c cc nL own ret Z) {i : Fin 4} {i1 : Nat} (j : Nat) {x : Nat} (d : decode cc pc = .ok (.aload_n i, 1)) (hi : (i : Nat) = i1) (hl : lv[j]? = some (i1, .ref x)) (kk : gW p l e R s m args below meth c nL Z kd mc k M (pc + 1) lv (.ref x :: st) F) : gW p l e R s m args below meth c nL Z kd mc k M pc lv st F := fun hF H locs ls hP hD hS hl0 => lv_aload_n hC.1 hC.2.1 d hi (lv_at hl0 j hl) (kk hF H locs ls hP hD hS hl0)
theorem g_aload (hC : gC p l s m args meth c cc nL own ret Z) {i : Nat} (j : Nat) {x : Nat} (d : decode cc pc = .ok (.aload i, 2)) (hl : lv[j]? = some (i, .ref x)) (kk : gW p l e R s m args below meth c nL Z kd mc k M (pc + 2) lv (.ref x :: st) F) : gW p l e R s m args below meth c nL Z kd mc k M pc lv st F := fun hF H locs ls hP hD hS hl0 => lv_aload hC.1 hC.2.1 d (lv_at hl0 j hl) (kk hF H locs ls hP hD hS hl0)
theorem g_istore_n (hC : gC p l s m args meth c cc nL own ret Z) {i : Fin 4} {i1 : Nat} {x : Int32} {lv1 : List (Nat × Value)} (d : decode cc pc = .ok (.istore_n i, 1)) (hi : (i : Nat) = i1) (hn : i1 < nL) (hl : (i1, Value.int x) :: lv.filter (fun q => !(q.1 == i1) && !(q.1 + 1 == i1 && q.2.category == 2)) = lv1) (kk : gW p l e R s m args below meth c nL Z kd mc k M (pc + 1) lv1 st F) : gW p l e R s m args below meth c nL Z kd mc k M pc lv (.int x :: st) F := fun hF H locs ls hP hD hS hl0 => lv_istore_n hC.1 hC.2.1 d hi hl0 hn hl (fun ls1 hl1 => kk hF H locs ls1 hP hD hS hl1)
theorem g_istore (hC : gC p l s m args meth c cc nL own ret Z) {i1 : Nat} {x : Int32} {lv1 : List (Nat × Value)} (d : decode cc pc = .ok (.istore i1, 2)) (hn : i1 < nL) (hl : (i1, Value.int x) :: lv.filter (fun q => !(q.1 == i1) && !(q.1 + 1 == i1 && q.2.category == 2)) = lv1) (kk : gW p l e R s m args below meth c nL Z kd mc k M (pc + 2) lv1 st F) : gW p l e R s m args below meth c nL Z kd mc k M pc lv (.int x :: st) F := fun hF H locs ls hP hD hS hl0 => lv_istore hC.1 hC.2.1 d hl0 hn hl (fun ls1 hl1 => kk hF H locs ls1 hP hD hS hl1)
theorem g_iinc (hC : gC p l s m args meth c cc nL own ret Z) {i1 : Nat} (j : Nat) {n : Int} {x v : Int32} {f : Int32 → gR} (lvf : Int32 → List (Nat × Value)) (d : decode cc pc = .ok (.iinc i1 n, 3)) (hk : lv[j]? = some (i1, .int x)) (hv : Int32.ofInt n = v) (hn : i1 < nL) (hl : ∀ y : Int32, (i1, Value.int y) :: lv.filter (fun q => !(q.1 == i1) && !(q.1 + 1 == i1 && q.2.category == 2)) = lvf y) (kk : ∀ y : Int32, gW p l e R s m args below meth c nL Z kd mc k M (pc + 3) (lvf y) st (f y)) : gW p l e R s m args below meth c nL Z kd mc k M pc lv st (bV (x + v) f) := fun hF H locs ls hP hD hS hl0 => lv_iinc hC.1 hC.2.1 d hl0 hk (by rw [hv]) hn (hl (x + v)) (fun ls1 hl1 => kk (x + v) hF H locs ls1 hP hD hS hl1)
theorem g_iadd (hC : gC p l s m args meth c cc nL own ret Z) {x y : Int32} (d : decode cc pc = .ok (.iadd, 1)) (kk : gW p l e R s m args below meth c nL Z kd mc k M (pc + 1) lv (.int (x + y) :: st) F) : gW p l e R s m args below meth c nL Z kd mc k M pc lv (.int y :: .int x :: st) F := fun hF H locs ls hP hD hS hl0 => lv_iadd hC.1 hC.2.1 d (kk hF H locs ls hP hD hS hl0)
theorem g_isub (hC : gC p l s m args meth c cc nL own ret Z) {x y : Int32} (d : decode cc pc = .ok (.isub, 1)) (kk : gW p l e R s m args below meth c nL Z kd mc k M (pc + 1) lv (.int (x - y) :: st) F) : gW p l e R s m args below meth c nL Z kd mc k M pc lv (.int y :: .int x :: st) F := fun hF H locs ls hP hD hS hl0 => lv_isub hC.1 hC.2.1 d (kk hF H locs ls hP hD hS hl0)
theorem g_imul (hC : gC p l s m args meth c cc nL own ret Z) {x y : Int32} (d : decode cc pc = .ok (.imul, 1)) (kk : gW p l e R s m args below meth c nL Z kd mc k M (pc + 1) lv (.int (x * y) :: st) F) : gW p l e R s m args below meth c nL Z kd mc k M pc lv (.int y :: .int x :: st) F := fun hF H locs ls hP hD hS hl0 => lv_imul hC.1 hC.2.1 d (kk hF H locs ls hP hD hS hl0)
theorem g_iand (hC : gC p l s m args meth c cc nL own ret Z) {x y : Int32} (d : decode cc pc = .ok (.iand, 1)) (kk : gW p l e R s m args below meth c nL Z kd mc k M (pc + 1) lv (.int (x &&& y) :: st) F) : gW p l e R s m args below meth c nL Z kd mc k M pc lv (.int y :: .int x :: st) F := fun hF H locs ls hP hD hS hl0 => lv_iand hC.1 hC.2.1 d (kk hF H locs ls hP hD hS hl0)
theorem g_ior (hC : gC p l s m args meth c cc nL own ret Z) {x y : Int32} (d : decode cc pc = .ok (.ior, 1)) (kk : gW p l e R s m args below meth c nL Z kd mc k M (pc + 1) lv (.int (x ||| y) :: st) F) : gW p l e R s m args below meth c nL Z kd mc k M pc lv (.int y :: .int x :: st) F := fun hF H locs ls hP hD hS hl0 => lv_ior hC.1 hC.2.1 d (kk hF H locs ls hP hD hS hl0)
theorem g_ixor (hC : gC p l s m args meth c cc nL own ret Z) {x y : Int32} (d : decode cc pc = .ok (.ixor, 1)) (kk : gW p l e R s m args below meth c nL Z kd mc k M (pc + 1) lv (.int (x ^^^ y) :: st) F) : gW p l e R s m args below meth c nL Z kd mc k M pc lv (.int y :: .int x :: st) F := fun hF H locs ls hP hD hS hl0 => lv_ixor hC.1 hC.2.1 d (kk hF H locs ls hP hD hS hl0)
theorem g_ishl (hC : gC p l s m args meth c cc nL own ret Z) {x y : Int32} (d : decode cc pc = .ok (.ishl, 1)) (kk : gW p l e R s m args below meth c nL Z kd mc k M (pc + 1) lv (.int (x <<< (y &&& 31)) :: st) F) : gW p l e R s m args below meth c nL Z kd mc k M pc lv (.int y :: .int x :: st) F := fun hF H locs ls hP hD hS hl0 => lv_ishl hC.1 hC.2.1 d (kk hF H locs ls hP hD hS hl0)
theorem g_ishr (hC : gC p l s m args meth c cc nL own ret Z) {x y : Int32} (d : decode cc pc = .ok (.ishr, 1)) (kk : gW p l e R s m args below meth c nL Z kd mc k M (pc + 1) lv (.int (x >>> (y &&& 31)) :: st) F) : gW p l e R s m args below meth c nL Z kd mc k M pc lv (.int y :: .int x :: st) F := fun hF H locs ls hP hD hS hl0 => lv_ishr hC.1 hC.2.1 d (kk hF H locs ls hP hD hS hl0)
theorem g_iushr (hC : gC p l s m args meth c cc nL own ret Z) {x y : Int32} (d : decode cc pc = .ok (.iushr, 1)) (kk : gW p l e R s m args below meth c nL Z kd mc k M (pc + 1) lv (.int ((x.toUInt32 >>> (y.toUInt32 &&& Int32.toUInt32 31)).toInt32) :: st) F) : gW p l e R s m args below meth c nL Z kd mc k M pc lv (.int y :: .int x :: st) F := fun hF H locs ls hP hD hS hl0 => lv_iushr hC.1 hC.2.1 d rfl (kk hF H locs ls hP hD hS hl0)
theorem g_ineg (hC : gC p l s m args meth c cc nL own ret Z) {x : Int32} (d : decode cc pc = .ok (.ineg, 1)) (kk : gW p l e R s m args below meth c nL Z kd mc k M (pc + 1) lv (.int (-x) :: st) F) : gW p l e R s m args below meth c nL Z kd mc k M pc lv (.int x :: st) F := fun hF H locs ls hP hD hS hl0 => lv_ineg hC.1 hC.2.1 d (kk hF H locs ls hP hD hS hl0)
theorem g_idiv (hC : gC p l s m args meth c cc nL own ret Z) {x y : Int32} (d : decode cc pc = .ok (.idiv, 1)) (kk : gW p l e R s m args below meth c nL Z kd mc k M (pc + 1) lv (.int (x / y) :: st) F) : gW p l e R s m args below meth c nL Z kd mc k M pc lv (.int y :: .int x :: st) (gNz y F) := by
  intro hF H locs ls hP hD hS hl0
  by_cases h : y = 0
  · exact absurd (by unfold gNz; rw [if_pos h]; rfl) hF
  · have e : gNz y F = F := by unfold gNz; rw [if_neg h]
    rw [e] at hF ⊢
    exact lv_idiv hC.1 hC.2.1 d h (kk hF H locs ls hP hD hS hl0)
theorem g_irem (hC : gC p l s m args meth c cc nL own ret Z) {x y : Int32} (d : decode cc pc = .ok (.irem, 1)) (kk : gW p l e R s m args below meth c nL Z kd mc k M (pc + 1) lv (.int (x - x / y * y) :: st) F) : gW p l e R s m args below meth c nL Z kd mc k M pc lv (.int y :: .int x :: st) (gNz y F) := by
  intro hF H locs ls hP hD hS hl0
  by_cases h : y = 0
  · exact absurd (by unfold gNz; rw [if_pos h]; rfl) hF
  · have e : gNz y F = F := by unfold gNz; rw [if_neg h]
    rw [e] at hF ⊢
    exact lv_irem hC.1 hC.2.1 d h (kk hF H locs ls hP hD hS hl0)
theorem g_if_eq (hC : gC p l s m args meth c cc nL own ret Z) {x : Int32} {off : Int} {tgt : Nat} {A B : gR} (d : decode cc pc = .ok (.ifCond .eq off, 3)) (ht : (pc : Int) + off = (tgt : Int)) (ka : x = 0 → gW p l e R s m args below meth c nL Z kd mc k M tgt lv st A) (kb : ¬ x = 0 → gW p l e R s m args below meth c nL Z kd mc k M (pc + 3) lv st B) : gW p l e R s m args below meth c nL Z kd mc k M pc lv (.int x :: st) (if x = 0 then A else B) := fun hF H locs ls hP hD hS hl0 => lv_if_eq hC.1 hC.2.1 d ht (fun h => by rw [if_pos h] at hF ⊢; exact ka h hF H locs ls hP hD hS hl0) (fun h => by rw [if_neg h] at hF ⊢; exact kb h hF H locs ls hP hD hS hl0)
theorem g_icmp_eq (hC : gC p l s m args meth c cc nL own ret Z) {x y : Int32} {off : Int} {tgt : Nat} {A B : gR} (d : decode cc pc = .ok (.if_icmp .eq off, 3)) (ht : (pc : Int) + off = (tgt : Int)) (ka : x = y → gW p l e R s m args below meth c nL Z kd mc k M tgt lv st A) (kb : ¬ x = y → gW p l e R s m args below meth c nL Z kd mc k M (pc + 3) lv st B) : gW p l e R s m args below meth c nL Z kd mc k M pc lv (.int y :: .int x :: st) (if x = y then A else B) := fun hF H locs ls hP hD hS hl0 => lv_icmp_eq hC.1 hC.2.1 d ht (fun h => by rw [if_pos h] at hF ⊢; exact ka h hF H locs ls hP hD hS hl0) (fun h => by rw [if_neg h] at hF ⊢; exact kb h hF H locs ls hP hD hS hl0)
theorem g_if_ne (hC : gC p l s m args meth c cc nL own ret Z) {x : Int32} {off : Int} {tgt : Nat} {A B : gR} (d : decode cc pc = .ok (.ifCond .ne off, 3)) (ht : (pc : Int) + off = (tgt : Int)) (ka : x = 0 → gW p l e R s m args below meth c nL Z kd mc k M (pc + 3) lv st A) (kb : ¬ x = 0 → gW p l e R s m args below meth c nL Z kd mc k M tgt lv st B) : gW p l e R s m args below meth c nL Z kd mc k M pc lv (.int x :: st) (if x = 0 then A else B) := fun hF H locs ls hP hD hS hl0 => lv_if_ne hC.1 hC.2.1 d ht (fun h => by rw [if_neg h] at hF ⊢; exact kb h hF H locs ls hP hD hS hl0) (fun h => by rw [if_pos h] at hF ⊢; exact ka h hF H locs ls hP hD hS hl0)
theorem g_icmp_ne (hC : gC p l s m args meth c cc nL own ret Z) {x y : Int32} {off : Int} {tgt : Nat} {A B : gR} (d : decode cc pc = .ok (.if_icmp .ne off, 3)) (ht : (pc : Int) + off = (tgt : Int)) (ka : x = y → gW p l e R s m args below meth c nL Z kd mc k M (pc + 3) lv st A) (kb : ¬ x = y → gW p l e R s m args below meth c nL Z kd mc k M tgt lv st B) : gW p l e R s m args below meth c nL Z kd mc k M pc lv (.int y :: .int x :: st) (if x = y then A else B) := fun hF H locs ls hP hD hS hl0 => lv_icmp_ne hC.1 hC.2.1 d ht (fun h => by rw [if_neg h] at hF ⊢; exact kb h hF H locs ls hP hD hS hl0) (fun h => by rw [if_pos h] at hF ⊢; exact ka h hF H locs ls hP hD hS hl0)
theorem g_if_lt (hC : gC p l s m args meth c cc nL own ret Z) {x : Int32} {off : Int} {tgt : Nat} {A B : gR} (d : decode cc pc = .ok (.ifCond .lt off, 3)) (ht : (pc : Int) + off = (tgt : Int)) (ka : x < 0 → gW p l e R s m args below meth c nL Z kd mc k M tgt lv st A) (kb : ¬ x < 0 → gW p l e R s m args below meth c nL Z kd mc k M (pc + 3) lv st B) : gW p l e R s m args below meth c nL Z kd mc k M pc lv (.int x :: st) (if x < 0 then A else B) := fun hF H locs ls hP hD hS hl0 => lv_if_lt hC.1 hC.2.1 d ht (fun h => by rw [if_pos h] at hF ⊢; exact ka h hF H locs ls hP hD hS hl0) (fun h => by rw [if_neg h] at hF ⊢; exact kb h hF H locs ls hP hD hS hl0)
theorem g_icmp_lt (hC : gC p l s m args meth c cc nL own ret Z) {x y : Int32} {off : Int} {tgt : Nat} {A B : gR} (d : decode cc pc = .ok (.if_icmp .lt off, 3)) (ht : (pc : Int) + off = (tgt : Int)) (ka : x < y → gW p l e R s m args below meth c nL Z kd mc k M tgt lv st A) (kb : ¬ x < y → gW p l e R s m args below meth c nL Z kd mc k M (pc + 3) lv st B) : gW p l e R s m args below meth c nL Z kd mc k M pc lv (.int y :: .int x :: st) (if x < y then A else B) := fun hF H locs ls hP hD hS hl0 => lv_icmp_lt hC.1 hC.2.1 d ht (fun h => by rw [if_pos h] at hF ⊢; exact ka h hF H locs ls hP hD hS hl0) (fun h => by rw [if_neg h] at hF ⊢; exact kb h hF H locs ls hP hD hS hl0)
theorem g_if_ge (hC : gC p l s m args meth c cc nL own ret Z) {x : Int32} {off : Int} {tgt : Nat} {A B : gR} (d : decode cc pc = .ok (.ifCond .ge off, 3)) (ht : (pc : Int) + off = (tgt : Int)) (ka : 0 ≤ x → gW p l e R s m args below meth c nL Z kd mc k M tgt lv st A) (kb : ¬ 0 ≤ x → gW p l e R s m args below meth c nL Z kd mc k M (pc + 3) lv st B) : gW p l e R s m args below meth c nL Z kd mc k M pc lv (.int x :: st) (if 0 ≤ x then A else B) := fun hF H locs ls hP hD hS hl0 => lv_if_ge hC.1 hC.2.1 d ht (fun h => by rw [if_pos h] at hF ⊢; exact ka h hF H locs ls hP hD hS hl0) (fun h => by rw [if_neg h] at hF ⊢; exact kb h hF H locs ls hP hD hS hl0)
theorem g_icmp_ge (hC : gC p l s m args meth c cc nL own ret Z) {x y : Int32} {off : Int} {tgt : Nat} {A B : gR} (d : decode cc pc = .ok (.if_icmp .ge off, 3)) (ht : (pc : Int) + off = (tgt : Int)) (ka : y ≤ x → gW p l e R s m args below meth c nL Z kd mc k M tgt lv st A) (kb : ¬ y ≤ x → gW p l e R s m args below meth c nL Z kd mc k M (pc + 3) lv st B) : gW p l e R s m args below meth c nL Z kd mc k M pc lv (.int y :: .int x :: st) (if y ≤ x then A else B) := fun hF H locs ls hP hD hS hl0 => lv_icmp_ge hC.1 hC.2.1 d ht (fun h => by rw [if_pos h] at hF ⊢; exact ka h hF H locs ls hP hD hS hl0) (fun h => by rw [if_neg h] at hF ⊢; exact kb h hF H locs ls hP hD hS hl0)
theorem g_if_gt (hC : gC p l s m args meth c cc nL own ret Z) {x : Int32} {off : Int} {tgt : Nat} {A B : gR} (d : decode cc pc = .ok (.ifCond .gt off, 3)) (ht : (pc : Int) + off = (tgt : Int)) (ka : 0 < x → gW p l e R s m args below meth c nL Z kd mc k M tgt lv st A) (kb : ¬ 0 < x → gW p l e R s m args below meth c nL Z kd mc k M (pc + 3) lv st B) : gW p l e R s m args below meth c nL Z kd mc k M pc lv (.int x :: st) (if 0 < x then A else B) := fun hF H locs ls hP hD hS hl0 => lv_if_gt hC.1 hC.2.1 d ht (fun h => by rw [if_pos h] at hF ⊢; exact ka h hF H locs ls hP hD hS hl0) (fun h => by rw [if_neg h] at hF ⊢; exact kb h hF H locs ls hP hD hS hl0)
theorem g_icmp_gt (hC : gC p l s m args meth c cc nL own ret Z) {x y : Int32} {off : Int} {tgt : Nat} {A B : gR} (d : decode cc pc = .ok (.if_icmp .gt off, 3)) (ht : (pc : Int) + off = (tgt : Int)) (ka : y < x → gW p l e R s m args below meth c nL Z kd mc k M tgt lv st A) (kb : ¬ y < x → gW p l e R s m args below meth c nL Z kd mc k M (pc + 3) lv st B) : gW p l e R s m args below meth c nL Z kd mc k M pc lv (.int y :: .int x :: st) (if y < x then A else B) := fun hF H locs ls hP hD hS hl0 => lv_icmp_gt hC.1 hC.2.1 d ht (fun h => by rw [if_pos h] at hF ⊢; exact ka h hF H locs ls hP hD hS hl0) (fun h => by rw [if_neg h] at hF ⊢; exact kb h hF H locs ls hP hD hS hl0)
theorem g_if_le (hC : gC p l s m args meth c cc nL own ret Z) {x : Int32} {off : Int} {tgt : Nat} {A B : gR} (d : decode cc pc = .ok (.ifCond .le off, 3)) (ht : (pc : Int) + off = (tgt : Int)) (ka : x ≤ 0 → gW p l e R s m args below meth c nL Z kd mc k M tgt lv st A) (kb : ¬ x ≤ 0 → gW p l e R s m args below meth c nL Z kd mc k M (pc + 3) lv st B) : gW p l e R s m args below meth c nL Z kd mc k M pc lv (.int x :: st) (if x ≤ 0 then A else B) := fun hF H locs ls hP hD hS hl0 => lv_if_le hC.1 hC.2.1 d ht (fun h => by rw [if_pos h] at hF ⊢; exact ka h hF H locs ls hP hD hS hl0) (fun h => by rw [if_neg h] at hF ⊢; exact kb h hF H locs ls hP hD hS hl0)
theorem g_icmp_le (hC : gC p l s m args meth c cc nL own ret Z) {x y : Int32} {off : Int} {tgt : Nat} {A B : gR} (d : decode cc pc = .ok (.if_icmp .le off, 3)) (ht : (pc : Int) + off = (tgt : Int)) (ka : x ≤ y → gW p l e R s m args below meth c nL Z kd mc k M tgt lv st A) (kb : ¬ x ≤ y → gW p l e R s m args below meth c nL Z kd mc k M (pc + 3) lv st B) : gW p l e R s m args below meth c nL Z kd mc k M pc lv (.int y :: .int x :: st) (if x ≤ y then A else B) := fun hF H locs ls hP hD hS hl0 => lv_icmp_le hC.1 hC.2.1 d ht (fun h => by rw [if_pos h] at hF ⊢; exact ka h hF H locs ls hP hD hS hl0) (fun h => by rw [if_neg h] at hF ⊢; exact kb h hF H locs ls hP hD hS hl0)
theorem g_goto (hC : gC p l s m args meth c cc nL own ret Z) {off : Int} {tgt : Nat} (d : decode cc pc = .ok (.goto off, 3)) (ht : (pc : Int) + off = (tgt : Int)) (kk : gW p l e R s m args below meth c nL Z kd mc k M tgt lv st F) : gW p l e R s m args below meth c nL Z kd mc k M pc lv st F := fun hF H locs ls hP hD hS hl0 => lv_goto hC.1 hC.2.1 d ht (kk hF H locs ls hP hD hS hl0)
theorem g_swIn (hC : gC p l s m args meth c cc nL own ret Z) {dflt lo hi : Int} {offs : Array Int} {len : Nat} {x : Int32} {off : Int} {tgt : Nat} (v : Int32) (hx : x = v) (d : decode cc pc = .ok (.tableswitch dflt lo hi offs, len)) (h1 : ¬ v.toInt < lo) (h2 : ¬ hi < v.toInt) (ho : offs[(v.toInt - lo).toNat]? = some off) (ht : (pc : Int) + off = (tgt : Int)) (kk : gW p l e R s m args below meth c nL Z kd mc k M tgt lv st F) : gW p l e R s m args below meth c nL Z kd mc k M pc lv (.int x :: st) F := fun hF H locs ls hP hD hS hl0 => hx ▸ lv_tableIn hC.1 hC.2.1 d h1 h2 ho ht (kk hF H locs ls hP hD hS hl0)
theorem g_swOut (hC : gC p l s m args meth c cc nL own ret Z) {dflt lo hi : Int} {offs : Array Int} {len : Nat} {x : Int32} {tgt : Nat} (h : x.toInt < lo ∨ hi < x.toInt) (d : decode cc pc = .ok (.tableswitch dflt lo hi offs, len)) (ht : (pc : Int) + dflt = (tgt : Int)) (kk : gW p l e R s m args below meth c nL Z kd mc k M tgt lv st F) : gW p l e R s m args below meth c nL Z kd mc k M pc lv (.int x :: st) F := fun hF H locs ls hP hD hS hl0 => lv_tableOut hC.1 hC.2.1 d h ht (kk hF H locs ls hP hD hS hl0)
theorem g_dup (hC : gC p l s m args meth c cc nL own ret Z) {a : Value} (d : decode cc pc = .ok (.dup, 1)) (ha : a.category = 1) (kk : gW p l e R s m args below meth c nL Z kd mc k M (pc + 1) lv (a :: a :: st) F) : gW p l e R s m args below meth c nL Z kd mc k M pc lv (a :: st) F := fun hF H locs ls hP hD hS hl0 => lv_dup hC.1 hC.2.1 d ha (kk hF H locs ls hP hD hS hl0)
theorem g_dup2 (hC : gC p l s m args meth c cc nL own ret Z) {a b : Value} (d : decode cc pc = .ok (.dup2, 1)) (ha : a.category = 1) (hb : b.category = 1) (kk : gW p l e R s m args below meth c nL Z kd mc k M (pc + 1) lv (a :: b :: a :: b :: st) F) : gW p l e R s m args below meth c nL Z kd mc k M pc lv (a :: b :: st) F := fun hF H locs ls hP hD hS hl0 => lv_dup2_11 hC.1 hC.2.1 d ha hb (kk hF H locs ls hP hD hS hl0)
theorem g_pop (hC : gC p l s m args meth c cc nL own ret Z) {a : Value} (d : decode cc pc = .ok (.pop, 1)) (ha : a.category = 1) (kk : gW p l e R s m args below meth c nL Z kd mc k M (pc + 1) lv st F) : gW p l e R s m args below meth c nL Z kd mc k M pc lv (a :: st) F := fun hF H locs ls hP hD hS hl0 => lv_pop hC.1 hC.2.1 d ha (kk hF H locs ls hP hD hS hl0)
theorem g_mmax (hC : gC p l s m args meth c cc nL own ret Z) {idx : Nat} {x y : Int32} (h1 : Cond.methodLink own idx Lib.Math.max.name ∈ gWS) (h2 : Cond.static Lib.Math.max.name ∈ gWS) (h3 : Cond.initialized "java/lang/Math" ∈ gWS) (h4 : Cond.code Lib.Math.max.name Lib.Math.max.code 2 (some .int) ∈ gWS) (hf : 1 ≤ R.frames) (hlo : 21 ≤ R.locals) (hcat : (st.map fun v => v.category).sum ≤ 8) (hc : k ≤ R.cells) (hs : 6 * k ≤ R.slots) (d : decode cc pc = .ok (.invokestatic idx, 3)) (kk : gW p l e R s m args below meth c nL Z kd mc k M (pc + 3) lv (.int (if x < y then y else x) :: st) F) : gW p l e R s m args below meth c nL Z kd mc k M pc lv (.int y :: .int x :: st) F := fun hF H locs ls hP hD hS hl0 => va_mmax hC.1 hC.2.1 (hC.2.2.1.trans hl0.1.symm) hC.2.2.2.1 (hC.2.2.2.2.1 _ h1) (hC.2.2.2.2.1 _ h2) (hC.2.2.2.2.1 _ h3) (hC.2.2.2.2.1 _ h4) hf (by omega) hc hs d (kk hF H locs ls hP hD hS hl0)
theorem g_get (hC : gC p l s m args meth c cc nL own ret Z) (q ci f : Nat) {N idx : Nat} {rf C : String} {T : u_T} {fs : List Value} {v : Value} (hq : gOk q) (hfs : gE Z M q = .inr (ci, fs)) (hv : fs[f]? = some v) (hc : vwCl[ci]? = some (C, T, N)) (hf : f < N) (hin : ∀ w ∈ u_ws C T N, w ∈ gWS) (hlk : Cond.fieldLink own idx rf (T f).2.1 (T f).2.2.1 ∈ gWS) (hr : (T f).1 = rf) (d : decode cc pc = .ok (.getfield idx, 3)) (kk : gW p l e R s m args below meth c nL Z kd mc k M (pc + 3) lv (v :: st) F) : gW p l e R s m args below meth c nL Z kd mc k M pc lv (.ref (zad Z q) :: st) F := fun hF H locs ls hP hD hS hl0 => va_get hC.1 hC.2.1 hC.2.2.2.2.1 hin hC.2.2.2.1 hC.2.2.2.2.2.1 hP (gPos q) ((gL_at hq).trans (by rw [hfs])) hc f hf (hC.2.2.2.2.1 _ hlk) (fun x hx => hr ▸ hx) hv d (kk hF H locs ls hP hD hS hl0)
theorem g_put (hC : gC p l s m args meth c cc nL own ret Z) (q ci f : Nat) {N idx : Nat} {rf C : String} {T : u_T} {fs : List Value} {x : Int32} {fn : gM → gR} (ty0 : Nat → FieldType) (hq : gOk q) (hfs : gE Z M q = .inr (ci, fs)) (hset : (gL Z M).set (gPos q) (zad Z q, .inr (ci, fs.set f (.int x))) = gL Z (gset M q f x)) (hc : vwCl[ci]? = some (C, T, N)) (hf : f < N) (hin : ∀ w ∈ u_ws C T N, w ∈ gWS) (hlk : Cond.fieldLink own idx rf (T f).2.1 (T f).2.2.1 ∈ gWS) (hr : (T f).1 = rf) (hty : ∀ k, k < N → parseFieldDescriptor (T k).2.2.1 = some (ty0 k)) (hnm : ∀ a, a < N → ∀ b, b < N → a ≠ b → (T a).2.1 ≠ (T b).2.1) (hfin : (T f).2.2.2 = false) (hd : parseFieldDescriptor (T f).2.2.1 = some .int) (hlen : f < fs.length) (d : decode cc pc = .ok (.putfield idx, 3)) (kk : ∀ M1 : gM, gW p l e R s m args below meth c nL Z kd mc k M1 (pc + 3) lv st (fn M1)) : gW p l e R s m args below meth c nL Z kd mc k M pc lv (.int x :: .ref (zad Z q) :: st) (bM (gset M q f x) fn) := fun hF H locs ls hP hD hS hl0 => va_put hC.1 hC.2.1 hC.2.2.2.2.1 hin ty0 hty hnm hC.2.2.2.1 hC.2.2.2.2.2.1 hP hD hS (gPos q) ((gL_at hq).trans (by rw [hfs])) hc f hf (hC.2.2.2.2.1 _ hlk) (fun x hx => hr ▸ hx) hfin hd rfl rfl hlen d (fun H1 locs1 hP1 hD1 hS1 => kk _ hF H1 locs1 ls (hset ▸ hP1) (hset ▸ hD1) hS1 hl0)
theorem g_iald (hC : gC p l s m args meth c cc nL own ret Z) (q : Nat) {n b0 c0 : Nat} {i : Int32} (hq : gOk q) (ht : gT.getD q (9, 0, 0, 0) = (1, n, b0, c0)) (d : decode cc pc = .ok (.iaload, 1)) (kk : gW p l e R s m args below meth c nL Z kd mc k M (pc + 1) lv (.int (M q i.toNatClampNeg) :: st) F) : gW p l e R s m args below meth c nL Z kd mc k M pc lv (.int i :: .ref (zad Z q) :: st) (gI i n F) := by
  intro hF H locs ls hP hD hS hl0
  obtain ⟨hin, e⟩ := gI_in hF
  rw [e] at hF ⊢
  exact va_iald hC.1 hC.2.1 hC.2.2.2.2.2.1 hP (gPos q) 0 (n := n) (f := M q) ((gL_at hq).trans (by rw [gE1 ht])) rfl hin d (kk hF H locs ls hP hD hS hl0)
theorem g_zald (hC : gC p l s m args meth c cc nL own ret Z) (q : Nat) {n b0 c0 : Nat} {i : Int32} (hq : gOk q) (ht : gT.getD q (9, 0, 0, 0) = (2, n, b0, c0)) (d : decode cc pc = .ok (.baload, 1)) (kk : gW p l e R s m args below meth c nL Z kd mc k M (pc + 1) lv (.int (M q i.toNatClampNeg) :: st) F) : gW p l e R s m args below meth c nL Z kd mc k M pc lv (.int i :: .ref (zad Z q) :: st) (gI i n F) := by
  intro hF H locs ls hP hD hS hl0
  obtain ⟨hin, e⟩ := gI_in hF
  rw [e] at hF ⊢
  exact va_zald hC.1 hC.2.1 hC.2.2.2.2.2.1 hP (gPos q) 1 (n := n) (f := M q) ((gL_at hq).trans (by rw [gE2 ht])) rfl hin d (kk hF H locs ls hP hD hS hl0)
theorem g_rald (hC : gC p l s m args meth c cc nL own ret Z) (q : Nat) {w g r : Nat} {i : Int32} (hq : gOk q) (ht : gT.getD q (9, 0, 0, 0) = (5, w, g, r)) (d : decode cc pc = .ok (.iaload, 1)) (kk : gW p l e R s m args below meth c nL Z kd mc k M (pc + 1) lv (.int (M g (r * w + i.toNatClampNeg)) :: st) F) : gW p l e R s m args below meth c nL Z kd mc k M pc lv (.int i :: .ref (zad Z q) :: st) (gI i w F) := by
  intro hF H locs ls hP hD hS hl0
  obtain ⟨hin, e⟩ := gI_in hF
  rw [e] at hF ⊢
  have hlt : i.toNatClampNeg < w := Nat.not_le.mp fun q => hin (Or.inr q)
  refine va_iald hC.1 hC.2.1 hC.2.2.2.2.2.1 hP (gPos q) 0 (n := w) (f := fun j => if j < w then M g (r * w + j) else 0) ((gL_at hq).trans (by rw [gE5 ht])) rfl hin d ?_
  rw [if_pos hlt]
  exact kk hF H locs ls hP hD hS hl0
/-- of a row whose number is in a variable -/
theorem g_raldv (hC : gC p l s m args meth c cc nL own ret Z) (b0 g n w : Nat) {i r : Int32} (hb : ∀ x, x < n → gOk (b0 + x) ∧ gT.getD (b0 + x) (9, 0, 0, 0) = (5, w, g, x)) (hr : r.toNatClampNeg < n) (d : decode cc pc = .ok (.iaload, 1)) (kk : gW p l e R s m args below meth c nL Z kd mc k M (pc + 1) lv (.int (M g (r.toNatClampNeg * w + i.toNatClampNeg)) :: st) F) : gW p l e R s m args below meth c nL Z kd mc k M pc lv (.int i :: .ref (zad Z (b0 + r.toNatClampNeg)) :: st) (gI i w F) := g_rald hC (b0 + r.toNatClampNeg) (hb _ hr).1 (hb _ hr).2 d kk
theorem g_aald (hC : gC p l s m args meth c cc nL own ret Z) (q : Nat) {n b0 c0 : Nat} {i : Int32} (hq : gOk q) (ht : gT.getD q (9, 0, 0, 0) = (3, n, b0, c0)) (d : decode cc pc = .ok (.aaload, 1)) (kk : i.toNatClampNeg < n → gW p l e R s m args below meth c nL Z kd mc k M (pc + 1) lv (.ref (zad Z (b0 + i.toNatClampNeg)) :: st) F) : gW p l e R s m args below meth c nL Z kd mc k M pc lv (.int i :: .ref (zad Z q) :: st) (gI i n F) := by
  intro hF H locs ls hP hD hS hl0
  obtain ⟨hin, e⟩ := gI_in hF
  rw [e] at hF ⊢
  have hlt : i.toNatClampNeg < n := Nat.not_le.mp fun q => hin (Or.inr q)
  have hcell : H[zad Z q]? = some (arrV Z.2.2.1.2.2.1 n (fun j => va_rf (some (zad Z (b0 + j))))) := by
    have h := hP (gPos q) _ ((gL_at hq).trans (by rw [gE3 ht]))
    exact h
  exact W.aald (v := .ref (zad Z (b0 + i.toNatClampNeg))) (ty := .array .int) hC.1 hC.2.1 hcell ((hC.2.2.2.2.2.1.2 2 _ rfl).1 n _) rfl (fun q => by cases q) (by show ¬ (i < 0 ∨ (arrV _ _ _).slots.size ≤ _); rw [arrV_size]; exact hin) (by show (arrV _ _ _).slots[_]? = _; rw [arrV_read _ _ hlt]; rfl) rfl rfl d (kk hlt hF H locs ls hP hD hS hl0)
theorem g_iast (hC : gC p l s m args meth c cc nL own ret Z) (q : Nat) {n b0 c0 : Nat} {i x : Int32} {f : gM → gR} (hq : gOk q) (ht : gT.getD q (9, 0, 0, 0) = (1, n, b0, c0)) (d : decode cc pc = .ok (.iastore, 1)) (kk : ∀ M1 : gM, gW p l e R s m args below meth c nL Z kd mc k M1 (pc + 1) lv st (f M1)) : gW p l e R s m args below meth c nL Z kd mc k M pc lv (.int x :: .int i :: .ref (zad Z q) :: st) (gI i n (bM (gset M q i.toNatClampNeg x) f)) := by
  intro hF H locs ls hP hD hS hl0
  obtain ⟨hin, e⟩ := gI_in hF
  rw [e] at hF ⊢
  have hset : (gL Z M).set (gPos q) (zad Z q, .inl (Z.2.2.1.1, n, .inl (upd (M q) i.toNatClampNeg x))) = gL Z (gset M q i.toNatClampNeg x) := by
    refine gL_set hq ?_ (fun k hk hkq => gE_ne hkq hk (by rw [ht]; simp))
    rw [gE1 ht, gset_self]
  exact va_iast hC.1 hC.2.1 hC.2.2.2.2.2.1 hP hD hS (gPos q) 0 (n := n) (f := M q) ((gL_at hq).trans (by rw [gE1 ht])) rfl hin d (fun H1 locs1 hP1 hD1 hS1 => kk _ hF H1 locs1 ls (hset ▸ hP1) (hset ▸ hD1) hS1 hl0)
theorem g_zast (hC : gC p l s m args meth c cc nL own ret Z) (q : Nat) {n b0 c0 : Nat} {i x : Int32} {f : gM → gR} (hq : gOk q) (ht : gT.getD q (9, 0, 0, 0) = (2, n, b0, c0)) (d : decode cc pc = .ok (.bastore, 1)) (kk : ∀ M1 : gM, gW p l e R s m args below meth c nL Z kd mc k M1 (pc + 1) lv st (f M1)) : gW p l e R s m args below meth c nL Z kd mc k M pc lv (.int x :: .int i :: .ref (zad Z q) :: st) (gZ01 x (gI i n (bM (gset M q i.toNatClampNeg x) f))) := by
  intro hF H locs ls hP hD hS hl0
  have hx : x = 0 ∨ x = 1 := by
    by_cases h : x = 0 ∨ x = 1
    · exact h
    · exact absurd (by unfold gZ01; rw [if_neg h]; rfl) hF
  have e0 : gZ01 x (gI i n (bM (gset M q i.toNatClampNeg x) f)) = gI i n (bM (gset M q i.toNatClampNeg x) f) := by unfold gZ01; rw [if_pos hx]
  rw [e0] at hF ⊢
  have hn : vp_nar .boolean x = x := by rcases hx with h | h <;> (subst h; decide)
  obtain ⟨hin, e⟩ := gI_in hF
  rw [e] at hF ⊢
  have hset : (gL Z M).set (gPos q) (zad Z q, .inl (Z.2.2.1.2.1, n, .inl (upd (M q) i.toNatClampNeg x))) = gL Z (gset M q i.toNatClampNeg x) := by
    refine gL_set hq ?_ (fun k hk hkq => gE_ne hkq hk (by rw [ht]; simp))
    rw [gE2 ht, gset_self]
  refine va_zast hC.1 hC.2.1 hC.2.2.2.2.2.1 hP hD hS (gPos q) 1 (n := n) (f := M q) ((gL_at hq).trans (by rw [gE2 ht])) rfl hin d (fun H1 locs1 hP1 hD1 hS1 => ?_)
  rw [hn] at hP1 hD1
  exact kk _ hF H1 locs1 ls (hset ▸ hP1) (hset ▸ hD1) hS1 hl0
theorem g_rast (hC : gC p l s m args meth c cc nL own ret Z) (q : Nat) {w g r : Nat} {i x : Int32} {f : gM → gR} (hq : gOk q) (ht : gT.getD q (9, 0, 0, 0) = (5, w, g, r)) (d : decode cc pc = .ok (.iastore, 1)) (kk : ∀ M1 : gM, gW p l e R s m args below meth c nL Z kd mc k M1 (pc + 1) lv st (f M1)) : gW p l e R s m args below meth c nL Z kd mc k M pc lv (.int x :: .int i :: .ref (zad Z q) :: st) (gI i w (bM (gset M g (r * w + i.toNatClampNeg) x) f)) := by
  intro hF H locs ls hP hD hS hl0
  obtain ⟨hin, e⟩ := gI_in hF
  rw [e] at hF ⊢
  have hlt : i.toNatClampNeg < w := Nat.not_le.mp fun q => hin (Or.inr q)
  have hset : (gL Z M).set (gPos q) (zad Z q, .inl (Z.2.2.1.1, w, .inl (upd (fun j => if j < w then M g (r * w + j) else 0) i.toNatClampNeg x))) = gL Z (gset M g (r * w + i.toNatClampNeg) x) := by
    refine gL_set hq ?_ (fun k hk hkq => gE_row hq ht hlt hkq hk)
    rw [gE5 ht, gset_self]
    have hfun : upd (fun j => if j < w then M g (r * w + j) else 0) i.toNatClampNeg x = fun j => if j < w then upd (M g) (r * w + i.toNatClampNeg) x (r * w + j) else 0 := by
      funext j
      unfold upd
      by_cases hj : j = i.toNatClampNeg
      · subst hj
        rw [if_pos rfl, if_pos hlt, if_pos rfl]
      · rw [if_neg hj]
        show (if j < w then M g (r * w + j) else 0) = _
        by_cases hjw : j < w
        · rw [if_pos hjw, if_pos hjw, if_neg (by omega)]
        · rw [if_neg hjw, if_neg hjw]
    rw [hfun]
  exact va_iast hC.1 hC.2.1 hC.2.2.2.2.2.1 hP hD hS (gPos q) 0 (n := w) (f := fun j => if j < w then M g (r * w + j) else 0) ((gL_at hq).trans (by rw [gE5 ht])) rfl hin d (fun H1 locs1 hP1 hD1 hS1 => kk _ hF H1 locs1 ls (hset ▸ hP1) (hset ▸ hD1) hS1 hl0)
theorem g_rastv (hC : gC p l s m args meth c cc nL own ret Z) (b0 g n w : Nat) {i r x : Int32} {f : gM → gR} (hb : ∀ x, x < n → gOk (b0 + x) ∧ gT.getD (b0 + x) (9, 0, 0, 0) = (5, w, g, x)) (hr : r.toNatClampNeg < n) (d : decode cc pc = .ok (.iastore, 1)) (kk : ∀ M1 : gM, gW p l e R s m args below meth c nL Z kd mc k M1 (pc + 1) lv st (f M1)) : gW p l e R s m args below meth c nL Z kd mc k M pc lv (.int x :: .int i :: .ref (zad Z (b0 + r.toNatClampNeg)) :: st) (gI i w (bM (gset M g (r.toNatClampNeg * w + i.toNatClampNeg) x) f)) := g_rast hC (b0 + r.toNatClampNeg) (hb _ hr).1 (hb _ hr).2 d kk
theorem g_ways (hC : gC p l s m args meth c cc nL own ret Z) {idx : Nat} (hlk : Cond.fieldLink own idx RX8 "WAY_DAYS" "[I" ∈ gWS) (d : decode cc pc = .ok (.getstatic idx, 3)) (kk : ∀ t : Nat, va_T .int t 3 (fun j => .int ([0, 3, 7].getD j 0)) (zA Z) s s.heap → gW p l e R s m args below meth c nL Z kd mc k M (pc + 3) lv (.ref t :: st) F) : gW p l e R s m args below meth c nL Z kd mc k M pc lv st F := by
  intro hF H locs ls hP hD hS hl0
  obtain ⟨t, h1, h2⟩ := hC.2.2.2.2.2.2.2.2.1.2.2.2.2.2.2
  exact va_gets hC.1 hC.2.1 h1 hS hC.2.2.2.1 (hC.2.2.2.2.1 _ hlk) (fun x hx => hx) d (kk t h2 hF H locs ls hP hD hS hl0)
theorem g_tald (hC : gC p l s m args meth c cc nL own ret Z) {t n : Nat} {f : Nat → Int32} {i : Int32} (hT : va_T .int t n (fun j => .int (f j)) (zA Z) s s.heap) (d : decode cc pc = .ok (.iaload, 1)) (kk : gW p l e R s m args below meth c nL Z kd mc k M (pc + 1) lv (.int (f i.toNatClampNeg) :: st) F) : gW p l e R s m args below meth c nL Z kd mc k M pc lv (.int i :: .ref t :: st) (gI i n F) := by
  intro hF H locs ls hP hD hS hl0
  obtain ⟨hin, e⟩ := gI_in hF
  rw [e] at hF ⊢
  exact va_ti hC.1 hC.2.1 hT hS hin rfl d (kk hF H locs ls hP hD hS hl0)
theorem g_post (hC : gC p l s m args meth c cc nL own ret Z) {H : Heap} {t : State} (hP : va_P (zD Z) vwCl (gL Z M) H) (hD : va_D (zA Z) (gL Z M)) (ht : t.heap = H) (hv : s.vm.Alike t.vm) : gB Z M t := ⟨by rw [ht]; exact hP, va_K.moved hv hC.2.2.2.2.2.1, hD⟩
theorem g_iret (hC : gC p l s m args meth c cc nL own ret Z) {v : Int32} (hr : ret = some .int) (hk : k ≤ mc) (d : decode cc pc = .ok (.ireturn, 1)) : gW p l e R s m args below meth c nL Z 1 mc k M pc lv [.int v] (rRet v M) := by
  intro hF H locs ls hP hD hS hl0
  have hlocks : meth.locks = false := hC.2.2.2.2.2.2.1
  refine W.widen hk (Nat.mul_le_mul_left 6 hk) (vx_ret (W.iret hC.1 hC.2.1 (hC.2.2.2.2.2.2.2.2.2.2.trans hr) (fun t ht hW => ?_) hS.2.2 d))
  exact ⟨⟨v, M, rfl, rfl, g_post hC hP hD ht hW.alike⟩, hS.F ht⟩
theorem g_zret (hC : gC p l s m args meth c cc nL own ret Z) {v : Int32} (hr : ret = some .boolean) (hk : k ≤ mc) (d : decode cc pc = .ok (.ireturn, 1)) : gW p l e R s m args below meth c nL Z 1 mc k M pc lv [.int v] (gZ01 v (rRet v M)) := by
  intro hF H locs ls hP hD hS hl0
  have hx : v = 0 ∨ v = 1 := by
    by_cases h : v = 0 ∨ v = 1
    · exact h
    · exact absurd (by unfold gZ01; rw [if_neg h]; rfl) hF
  have e0 : gZ01 v (rRet v M) = rRet v M := by unfold gZ01; rw [if_pos hx]
  rw [e0] at hF ⊢
  have hlocks : meth.locks = false := hC.2.2.2.2.2.2.1
  refine W.widen hk (Nat.mul_le_mul_left 6 hk) (vx_ret (W.zret (ty := .boolean) hC.1 hC.2.1 (hC.2.2.2.2.2.2.2.2.2.2.trans hr) (by rcases hx with h | h <;> (subst h; decide)) (fun t ht hW => ?_) hS.2.2 d))
  exact ⟨⟨v, M, rfl, rfl, g_post hC hP hD ht hW.alike⟩, hS.F ht⟩
theorem g_vret (hC : gC p l s m args meth c cc nL own ret Z) (hr : ret = none) (hk : k ≤ mc) (d : decode cc pc = .ok (.return_, 1)) : gW p l e R s m args below meth c nL Z 0 mc k M pc lv [] (rRet 0 M) := by
  intro hF H locs ls hP hD hS hl0
  have hlocks : meth.locks = false := hC.2.2.2.2.2.2.1
  refine W.widen hk (Nat.mul_le_mul_left 6 hk) (vx_ret (W.vret hC.1 hC.2.1 (hC.2.2.2.2.2.2.2.2.2.2.trans hr) (fun t ht hW => ?_) hS.2.2 d))
  exact ⟨⟨M, rfl, rfl, g_post hC hP hD ht hW.alike⟩, hS.F ht⟩
theorem g_throwS (hC : gC p l s m args meth c cc nL RX8 ret Z) (ex : Nat) {ik is ic : Nat} {text : String} (hs : (is, text) ∈ gStr) (hck : Cond.classLink RX8 ik (gEx ex) ∈ gWS) (hini : Cond.initialized (gEx ex) ∈ gWS) (hfit : Bundle.fit (gEx ex) = true)
    (hat : ∀ w ∈ (vx_atS RX8 ic (gEx ex) ["java/lang/RuntimeException", "java/lang/Exception"]).filter goodWord, w ∈ gWS) (hna : ∀ w ∈ (vx_atS RX8 ic (gEx ex) ["java/lang/RuntimeException", "java/lang/Exception"]).filter (fun w => !goodWord w), w ∈ gNg) (hgd : (vx_atS RX8 ic (gEx ex) ["java/lang/RuntimeException", "java/lang/Exception"]).all vx_ot = true) (hf : 5 < R.frames) (hlo : 8 + 82 ≤ R.locals) (hst : (st.map fun v => v.category).sum ≤ 8) (hk1 : k + 1 ≤ R.cells) (hk2 : 6 * k + 6 ≤ R.slots) (hk3 : k + 1 ≤ mc)
    (d0 : decode cc pc = .ok (.new ik, 3)) (d3 : decode cc (pc + 3) = .ok (.dup, 1)) (d4 : decode cc (pc + 4) = .ok (.ldc is, 2)) (d6 : decode cc (pc + 6) = .ok (.invokespecial ic, 3)) (d9 : decode cc (pc + 9) = .ok (.athrow, 1)) : gW p l e R s m args below meth c nL Z kd mc k M pc lv st (rThr ex M) := by
  intro hF H locs ls hP hD hS hl0
  have hC0 := hC
  obtain ⟨hx, hb, hml, hown, hts, hK, hlocks, hfl, hGr, hno, hret⟩ := hC
  obtain ⟨g1, g2, g3, g4, g5, g6, g7⟩ := hGr
  obtain ⟨sa, hsa⟩ := g4 _ hs
  refine vx_throwS (own := RX8) (cls := gEx ex) (text := text) (names := ["java/lang/RuntimeException", "java/lang/Exception"]) (ik := ik) (is := is) (ic := ic) (sa := sa) (A := zA Z) hx hb hfl hown hfit (by decide +kernel) (hts _ hck) (hts _ hini) hsa ?_ ?_ g2 g3 hS (hl0.1.trans hml.symm) d0 d3 d4 d6 d9 (fun x h => (hno x h).elim) (by show 2 + 3 < R.frames; omega) (by show _ + 82 ≤ R.locals; omega) hk1 hk2 hlocks (fun t hv hz hq => ?_) hS.2.2 hk3 (by omega)
  · exact vx_hat (fun w hw => hts w (hat w hw)) hna (fun w hw => va_Nw.use (gNg_tab w hw) (g5 w hw))
  · intro w hw
    rcases List.mem_cons.mp hw with h | hw
    · rw [h]; rfl
    · rcases List.mem_cons.mp hw with h | hw
      · rw [h]; rfl
      · exact List.all_eq_true.mp hgd w hw
  · refine ⟨(ex, M), rfl, ⟨rfl, ?_, va_K.moved hv hK, hD⟩, ?_⟩
    · exact hP.kept (fun k9 q9 h9 => hq q9.1 (hP k9 q9 h9).lt)
    · exact ⟨Nat.le_trans hS.1 hz, fun q h1 h2 => (hq q (Nat.lt_of_lt_of_le h1 hS.1)).trans (hS.2.1 q h1 h2)⟩
theorem g_throwSW (hC : gC p l s m args meth c cc nL RX8 ret Z) (ex : Nat) {ik is ic : Nat} {text : String} (hs : (is, text) ∈ gStr) (hck : Cond.classLink RX8 ik (gEx ex) ∈ gWS) (hini : Cond.initialized (gEx ex) ∈ gWS) (hfit : Bundle.fit (gEx ex) = true)
    (hat : ∀ w ∈ (vx_atS RX8 ic (gEx ex) ["java/lang/RuntimeException", "java/lang/Exception"]).filter goodWord, w ∈ gWS) (hna : ∀ w ∈ (vx_atS RX8 ic (gEx ex) ["java/lang/RuntimeException", "java/lang/Exception"]).filter (fun w => !goodWord w), w ∈ gNg) (hgd : (vx_atS RX8 ic (gEx ex) ["java/lang/RuntimeException", "java/lang/Exception"]).all vx_ot = true) (hf : 5 < R.frames) (hlo : 8 + 82 ≤ R.locals) (hst : (st.map fun v => v.category).sum ≤ 8) (hk1 : k + 1 ≤ R.cells) (hk2 : 6 * k + 6 ≤ R.slots) (hk3 : k + 1 ≤ mc)
    (d0 : decode cc pc = .ok (.new ik, 3)) (d3 : decode cc (pc + 3) = .ok (.dup, 1)) (d4 : decode cc (pc + 4) = .ok (.ldc_w is, 3)) (d6 : decode cc (pc + 7) = .ok (.invokespecial ic, 3)) (d9 : decode cc (pc + 10) = .ok (.athrow, 1)) : gW p l e R s m args below meth c nL Z kd mc k M pc lv st (rThr ex M) := by
  intro hF H locs ls hP hD hS hl0
  have hC0 := hC
  obtain ⟨hx, hb, hml, hown, hts, hK, hlocks, hfl, hGr, hno, hret⟩ := hC
  obtain ⟨g1, g2, g3, g4, g5, g6, g7⟩ := hGr
  obtain ⟨sa, hsa⟩ := g4 _ hs
  refine vx_throwSW (own := RX8) (cls := gEx ex) (text := text) (names := ["java/lang/RuntimeException", "java/lang/Exception"]) (ik := ik) (is := is) (ic := ic) (sa := sa) (A := zA Z) hx hb hfl hown hfit (by decide +kernel) (hts _ hck) (hts _ hini) hsa ?_ ?_ g2 g3 hS (hl0.1.trans hml.symm) d0 d3 d4 d6 d9 (fun x h => (hno x h).elim) (by show 2 + 3 < R.frames; omega) (by show _ + 82 ≤ R.locals; omega) hk1 hk2 hlocks (fun t hv hz hq => ?_) hS.2.2 hk3 (by omega)
  · exact vx_hat (fun w hw => hts w (hat w hw)) hna (fun w hw => va_Nw.use (gNg_tab w hw) (g5 w hw))
  · intro w hw
    rcases List.mem_cons.mp hw with h | hw
    · rw [h]; rfl
    · rcases List.mem_cons.mp hw with h | hw
      · rw [h]; rfl
      · exact List.all_eq_true.mp hgd w hw
  · refine ⟨(ex, M), rfl, ⟨rfl, ?_, va_K.moved hv hK, hD⟩, ?_⟩
    · exact hP.kept (fun k9 q9 h9 => hq q9.1 (hP k9 q9 h9).lt)
    · exact ⟨Nat.le_trans hS.1 hz, fun q h1 h2 => (hq q (Nat.lt_of_lt_of_le h1 hS.1)).trans (hS.2.1 q h1 h2)⟩
/-- words of a call -/
theorem gGood {w : Cond} (h : w ∈ gWS) : w ∈ gWS ∧ ((w.onTables && w.keeps) = true ∨ ∃ ty, w = .arrayClass ty) := ⟨h, good_of_word (List.mem_filter.mp h).2⟩
theorem gGoodV {own C : String} {idx maxL : Nat} {y : MethodName} {bytes : ByteArray} {rt : Option FieldType} (h1 : Cond.methodLink own idx y ∈ gWS) (h2 : Cond.instanceMethod y ∈ gWS) (h3 : Cond.selects C y y ∈ gWS) (h4 : Cond.initialized C ∈ gWS) (h5 : Cond.code y bytes maxL rt ∈ gWS) : GoodIn gWS (wsV own idx C y (.code y bytes maxL rt :: gWS)) := by
  intro w hw
  simp only [wsV, List.cons_append, List.nil_append, List.mem_cons] at hw
  rcases hw with h | h | h | h | h | h
  · rw [h]; exact gGood h1
  · rw [h]; exact gGood h2
  · rw [h]; exact gGood h3
  · rw [h]; exact gGood h4
  · rw [h]; exact gGood h5
  · exact gGood h
theorem gGoodS {own : String} {idx maxL : Nat} {y : MethodName} {bytes : ByteArray} {rt : Option FieldType} (h1 : Cond.methodLink own idx y ∈ gWS) (h2 : Cond.static y ∈ gWS) (h4 : Cond.initialized y.cls ∈ gWS) (h5 : Cond.code y bytes maxL rt ∈ gWS) : GoodIn gWS (va_wsS own idx y (.code y bytes maxL rt :: gWS)) := by
  intro w hw
  simp only [va_wsS, List.cons_append, List.nil_append, List.mem_cons] at hw
  rcases hw with h | h | h | h | h
  · rw [h]; exact gGood h1
  · rw [h]; exact gGood h2
  · rw [h]; exact gGood h4
  · rw [h]; exact gGood h5
  · exact gGood h
theorem gBlind {As : List Value} : FrameBlind (va_Pc As (gWd Z M)) := fun a U g mk ⟨h1, ⟨hP, hK, hD⟩, hg⟩ => ⟨h1, ⟨hP, va_K.moved (u := U) (U := U.calling g mk a) (Vm.Alike.refl U.vm) hK, hD⟩, gG_call hg⟩
/-- a callee's throw goes on to the caller -/
theorem g_pass (hC : gC p l s m args meth c cc nL own ret Z) {r : gR} {K : Int32 → gM → gR} {k1 : Nat} (hk : k1 ≤ mc) {E : String} {ce : Cell} {q9 : Addr} {u : Nat × gM} {t : State} {H1 : Heap} {locs1 : List Loc} {ls : Array Slot} {rest : List Value} (ht : t.heap = H1) (hp : r = rThr u.1 u.2) (hB : E = gEx u.1 ∧ gB Z u.2 t) (hS1 : va_S (zA Z) s.heap H1 locs1) (hce : H1[q9]? = some ce) (hcv : ce.vm = .none) (hcl : s.vm.findClass E = some ce.cls) :
    vx_W p l e R s m args below meth c H1 locs1 k1 (6 * k1) (vx_MQ below (gQc kd Z (rb r K)) (gXc Z (rb r K)) args s mc (6 * mc) (zA Z)) (F0 m pc ls rest) q9 := by
  obtain ⟨hE, hP, hK, hD⟩ := hB
  rw [ht] at hP
  refine vx_out (fun x h => (hC.2.2.2.2.2.2.2.2.2.1 x h).elim) hC.2.2.2.2.2.2.1 hce hcv hcl (fun t2 ht2 hv2 => ?_) hS1.2.2 hk (Nat.mul_le_mul_left 6 hk)
  refine ⟨u, ?_, ⟨hE, g_post hC hP hD ht2 hv2⟩, hS1.F ht2⟩
  rw [hp]; exact rb_thr _ _ _
set_option maxHeartbeats 1000000 in
theorem g_callVi (hC : gC p l s m args meth c cc nL own ret Z) {C : String} {idx maxL n mcY : Nat} {y : MethodName} {bytes : ByteArray} {rt : Option FieldType} {rm : Room} {st1 : List Value} {r : gR} {K : Int32 → gM → gR} (As : List Value) (tq ci : Nat) {T : u_T} {N1 : Nat} {fs : List Value} (hq : gOk tq) (hfs : gE Z M tq = .inr (ci, fs)) (hc : vwCl[ci]? = some (C, T, N1)) (hM : gMet l y bytes maxL rt rm 1 mcY Z M (.ref (zad Z tq) :: As) r) (h1 : Cond.methodLink own idx y ∈ gWS) (h2 : Cond.instanceMethod y ∈ gWS) (h3 : Cond.selects C y y ∈ gWS) (h4 : Cond.initialized C ∈ gWS) (h5 : Cond.code y bytes maxL rt ∈ gWS) (hd : y.cls = C ∧ y.cls ≠ "java/lang/invoke/MethodHandle" ∧ y.cls ≠ "java/lang/invoke/VarHandle" ∧ (parseMethodDescriptor y.desc).map (fun d => d.parameters.length) = some n) (hrc : rm.cells = mcY) (hrs : rm.slots = 6 * mcY) (hR : rm.frames + 1 ≤ R.frames ∧ 8 + (maxL + 11) + rm.locals ≤ R.locals) (hn : As.length = n) (hst : st1 = As.reverse ++ .ref (zad Z tq) :: st) (hcat : (st.map fun v => v.category).sum ≤ 8) (hf1 : k + mcY ≤ R.cells) (hf2 : 6 * (k + mcY) ≤ R.slots) (hmc : k + mcY ≤ mc) (d : decode cc pc = .ok (.invokevirtual idx, 3)) (kk : ∀ (v : Int32) (M1 : gM), gW p l e R s m args below meth c nL Z kd mc (k + mcY) M1 (pc + 3) lv (.int v :: st) (K v M1)) : gW p l e R s m args below meth c nL Z kd mc k M pc lv st1 (rb r K) := by
  intro hF H locs ls hP hD hS hl0
  have hz : ∀ q, s.heap.size ≤ q → zA Z q := fun q h => Nat.le_trans hC.2.2.2.2.2.2.2.2.1.1 h
  refine vx_calli (A0 := zA Z) (A1 := zA Z) (AX := zA Z) (vx_runV (As := As) (rest := st) ⟨hC.1, hC.2.1, hC.2.2.1, hC.2.2.2.1, hC.2.2.2.2.1⟩ (hM (rb_ne hF)) (cwV n hC.2.2.2.2.1 (gGoodV h1 h2 h3 h4 h5) rfl hrc hrs hd hR) ⟨gBlind, va_recv hC.2.2.2.2.2.1 hP hc ((gL_at hq).trans (by rw [hfs])), fun U hU hW => ⟨rfl, ⟨by rw [hU]; exact hP, va_K.moved hW.alike hC.2.2.2.2.2.1, hD⟩, gG_move hC.2.2.2.2.2.2.2.2.1 hS hU hW⟩⟩ rfl hn hl0.1 hst (lv_room hcat) d ⟨hf1, by omega⟩) hS (fun q _ h => h) (fun q h => h) (fun q _ h => h) (fun E ce q9 u t H1 locs1 ht hv hp hB hz hk1 hS1 hce hcv hcl => ?_) (fun v M1 t H1 locs1 ht hv hp hB hz hk1 hS1 => ?_)
  · rw [← Nat.mul_add]
    exact g_pass hC hmc ht hp hB hS1 hce hcv hcl
  · obtain ⟨hP1, hK1, hD1⟩ := hB
    rw [ht] at hP1
    rw [← Nat.mul_add]
    have e1 : rb r K = K v M1 := by rw [hp]; rfl
    rw [e1] at hF ⊢
    exact kk v M1 hF H1 locs1 ls hP1 hD1 hS1 hl0
set_option maxHeartbeats 1000000 in
theorem g_callVv (hC : gC p l s m args meth c cc nL own ret Z) {C : String} {idx maxL n mcY : Nat} {y : MethodName} {bytes : ByteArray} {rt : Option FieldType} {rm : Room} {st1 : List Value} {r : gR} {K : Int32 → gM → gR} (As : List Value) (tq ci : Nat) {T : u_T} {N1 : Nat} {fs : List Value} (hq : gOk tq) (hfs : gE Z M tq = .inr (ci, fs)) (hc : vwCl[ci]? = some (C, T, N1)) (hM : gMet l y bytes maxL rt rm 0 mcY Z M (.ref (zad Z tq) :: As) r) (h1 : Cond.methodLink own idx y ∈ gWS) (h2 : Cond.instanceMethod y ∈ gWS) (h3 : Cond.selects C y y ∈ gWS) (h4 : Cond.initialized C ∈ gWS) (h5 : Cond.code y bytes maxL rt ∈ gWS) (hd : y.cls = C ∧ y.cls ≠ "java/lang/invoke/MethodHandle" ∧ y.cls ≠ "java/lang/invoke/VarHandle" ∧ (parseMethodDescriptor y.desc).map (fun d => d.parameters.length) = some n) (hrc : rm.cells = mcY) (hrs : rm.slots = 6 * mcY) (hR : rm.frames + 1 ≤ R.frames ∧ 8 + (maxL + 11) + rm.locals ≤ R.locals) (hn : As.length = n) (hst : st1 = As.reverse ++ .ref (zad Z tq) :: st) (hcat : (st.map fun v => v.category).sum ≤ 8) (hf1 : k + mcY ≤ R.cells) (hf2 : 6 * (k + mcY) ≤ R.slots) (hmc : k + mcY ≤ mc) (d : decode cc pc = .ok (.invokevirtual idx, 3)) (kk : ∀ (M1 : gM), gW p l e R s m args below meth c nL Z kd mc (k + mcY) M1 (pc + 3) lv st (K 0 M1)) : gW p l e R s m args below meth c nL Z kd mc k M pc lv st1 (rb r K) := by
  intro hF H locs ls hP hD hS hl0
  have hz : ∀ q, s.heap.size ≤ q → zA Z q := fun q h => Nat.le_trans hC.2.2.2.2.2.2.2.2.1.1 h
  refine vx_callv (A0 := zA Z) (A1 := zA Z) (AX := zA Z) (vx_runV (As := As) (rest := st) ⟨hC.1, hC.2.1, hC.2.2.1, hC.2.2.2.1, hC.2.2.2.2.1⟩ (hM (rb_ne hF)) (cwV n hC.2.2.2.2.1 (gGoodV h1 h2 h3 h4 h5) rfl hrc hrs hd hR) ⟨gBlind, va_recv hC.2.2.2.2.2.1 hP hc ((gL_at hq).trans (by rw [hfs])), fun U hU hW => ⟨rfl, ⟨by rw [hU]; exact hP, va_K.moved hW.alike hC.2.2.2.2.2.1, hD⟩, gG_move hC.2.2.2.2.2.2.2.2.1 hS hU hW⟩⟩ rfl hn hl0.1 hst (lv_room hcat) d ⟨hf1, by omega⟩) hS (fun q _ h => h) (fun q h => h) (fun q _ h => h) (fun E ce q9 u t H1 locs1 ht hv hp hB hz hk1 hS1 hce hcv hcl => ?_) (fun M1 t H1 locs1 ht hv hp hB hz hk1 hS1 => ?_)
  · rw [← Nat.mul_add]
    exact g_pass hC hmc ht hp hB hS1 hce hcv hcl
  · obtain ⟨hP1, hK1, hD1⟩ := hB
    rw [ht] at hP1
    rw [← Nat.mul_add]
    have e1 : rb r K = K 0 M1 := by rw [hp]; rfl
    rw [e1] at hF ⊢
    exact kk  M1 hF H1 locs1 ls hP1 hD1 hS1 hl0
set_option maxHeartbeats 1000000 in
theorem g_callSi (hC : gC p l s m args meth c cc nL own ret Z) {idx maxL n mcY : Nat} {y : MethodName} {bytes : ByteArray} {rt : Option FieldType} {rm : Room} {st1 : List Value} {r : gR} {K : Int32 → gM → gR} (As : List Value)  (hM : gMet l y bytes maxL rt rm 1 mcY Z M (As) r) (h1 : Cond.methodLink own idx y ∈ gWS) (h2 : Cond.static y ∈ gWS) (h4 : Cond.initialized y.cls ∈ gWS) (h5 : Cond.code y bytes maxL rt ∈ gWS) (hd : y.cls ≠ "java/lang/invoke/MethodHandle" ∧ y.cls ≠ "java/lang/invoke/VarHandle" ∧ (parseMethodDescriptor y.desc).map (fun d => d.parameters.length) = some n) (hrc : rm.cells = mcY) (hrs : rm.slots = 6 * mcY) (hR : rm.frames + 1 ≤ R.frames ∧ 8 + (maxL + 11) + rm.locals ≤ R.locals) (hn : As.length = n) (hst : st1 = As.reverse ++ st) (hcat : (st.map fun v => v.category).sum ≤ 8) (hf1 : k + mcY ≤ R.cells) (hf2 : 6 * (k + mcY) ≤ R.slots) (hmc : k + mcY ≤ mc) (d : decode cc pc = .ok (.invokestatic idx, 3)) (kk : ∀ (v : Int32) (M1 : gM), gW p l e R s m args below meth c nL Z kd mc (k + mcY) M1 (pc + 3) lv (.int v :: st) (K v M1)) : gW p l e R s m args below meth c nL Z kd mc k M pc lv st1 (rb r K) := by
  intro hF H locs ls hP hD hS hl0
  have hz : ∀ q, s.heap.size ≤ q → zA Z q := fun q h => Nat.le_trans hC.2.2.2.2.2.2.2.2.1.1 h
  refine vx_calli (A0 := zA Z) (A1 := zA Z) (AX := zA Z) (vx_runS (As := As) (rest := st) ⟨hC.1, hC.2.1, hC.2.2.1, hC.2.2.2.1, hC.2.2.2.2.1⟩ (hM (rb_ne hF)) (va_cwS n hC.2.2.2.2.1 (gGoodS h1 h2 h4 h5) rfl hrc hrs hd hR) ⟨gBlind, fun U hU hW => ⟨rfl, ⟨by rw [hU]; exact hP, va_K.moved hW.alike hC.2.2.2.2.2.1, hD⟩, gG_move hC.2.2.2.2.2.2.2.2.1 hS hU hW⟩⟩ rfl hn hl0.1 hst (lv_room hcat) d ⟨hf1, by omega⟩) hS (fun q _ h => h) (fun q h => h) (fun q _ h => h) (fun E ce q9 u t H1 locs1 ht hv hp hB hz hk1 hS1 hce hcv hcl => ?_) (fun v M1 t H1 locs1 ht hv hp hB hz hk1 hS1 => ?_)
  · rw [← Nat.mul_add]
    exact g_pass hC hmc ht hp hB hS1 hce hcv hcl
  · obtain ⟨hP1, hK1, hD1⟩ := hB
    rw [ht] at hP1
    rw [← Nat.mul_add]
    have e1 : rb r K = K v M1 := by rw [hp]; rfl
    rw [e1] at hF ⊢
    exact kk v M1 hF H1 locs1 ls hP1 hD1 hS1 hl0
theorem g_zret0 (hC : gC p l s m args meth c cc nL own ret Z) (hr : ret = some .boolean) (hk : k ≤ mc) (d : decode cc pc = .ok (.ireturn, 1)) : gW p l e R s m args below meth c nL Z 1 mc k M pc lv [.int 0] (rRet 0 M) := g_eq (F := gZ01 0 (rRet 0 M)) (by unfold gZ01; rw [if_pos (Or.inl rfl)]) (g_zret hC hr hk d)
theorem g_zret1 (hC : gC p l s m args meth c cc nL own ret Z) (hr : ret = some .boolean) (hk : k ≤ mc) (d : decode cc pc = .ok (.ireturn, 1)) : gW p l e R s m args below meth c nL Z 1 mc k M pc lv [.int 1] (rRet 1 M) := g_eq (F := gZ01 1 (rRet 1 M)) (by unfold gZ01; rw [if_pos (Or.inr rfl)]) (g_zret hC hr hk d)
theorem g_lv0 {lv1 : List (Nat × Value)} (h : lv = lv1) (kk : gW p l e R s m args below meth c nL Z kd mc k M pc lv1 st F) : gW p l e R s m args below meth c nL Z kd mc k M pc lv st F := h ▸ kk
end GR
theorem gIn {w : Cond} (h : w ∈ lw_tbl) (g : goodWord w = true) : w ∈ gWS := List.mem_filter.mpr ⟨h, g⟩
theorem gIx {w : Cond} (i : Nat) (h : lw_tbl[i]? = some w) (g : goodWord w = true) : w ∈ gWS := gIn (List.mem_of_getElem? h) g
def gWays (j : Nat) : Int32 := [0, 3, 7].getD j 0
theorem gSwOut (x : Int32) (lo : Int) (n : Nat) (h1 : -2147483648 ≤ lo) (h2 : lo + n ≤ 2147483647) (h : ∀ j : Nat, j < n → x ≠ Int32.ofInt (lo + j)) : x.toInt < lo ∨ lo + n - 1 < x.toInt := by
  by_cases c1 : x.toInt < lo
  · exact Or.inl c1
  · by_cases c2 : lo + n - 1 < x.toInt
    · exact Or.inr c2
    · exfalso
      refine h (x.toInt - lo).toNat (by omega) ?_
      have e : lo + ((x.toInt - lo).toNat : Int) = x.toInt := by omega
      rw [e, Int32.ofInt_toInt]
/-- into a method -/
theorem g_enter {l : Launch} (hfl : l.stackTraces = false) {y : MethodName} {cc : ByteArray} {maxL : Nat} {ret : Option FieldType} {rm : Room} {kd mc : Nat} {Z : gZ} {M : gM} {As : List Value} {F : gR} (hy : plainName y.cls = true) (hA : (lg_sl As).length ≤ maxL)
    (body : ∀ (p : Program) (e : Env) (s : State) (m : MethodId) (args : Array Value) (below : List Frame) (meth : Method) (c : Code), gC p l s m args meth c cc maxL y.cls ret Z → gW p l e rm s m args below meth c maxL Z kd mc 0 M 0 (lv_args 0 As) [] F) : gMet l y cc maxL ret rm kd mc Z M As F := by
  intro hF
  refine vx_ofW hy rfl ?_
  intro p e s m args below meth c s₁ B hml hno hPc
  obtain ⟨rfl, ⟨hP, hK, hD⟩, hg⟩ := hPc
  have hts := atoms_spec (ws := .code y cc maxL ret :: gWS) B.pre
  have hl := lv_entry As (n := maxL) hA
  rw [lg_entry_eq]
  exact body p e s m _ below meth c ⟨B.exec, B.bytes, hml, findClass_of_methodNamed B.named, fun w hw => hts w (List.mem_cons_of_mem _ hw), hK, B.notSynchronized, hfl, hg, hno, B.returns⟩ hF s.heap [] _ hP hD va_S.rf hl
