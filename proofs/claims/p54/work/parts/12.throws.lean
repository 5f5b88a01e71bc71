theorem thr_c0 : Cond.classLink RX8 100 (gEx 0) ∈ gWS := gIn (by decide +kernel) rfl
theorem thr_i0 : Cond.initialized (gEx 0) ∈ gWS := gIn (by decide +kernel) rfl
theorem thr_a0 : ∀ w ∈ (vx_atS RX8 104 (gEx 0) ["java/lang/RuntimeException", "java/lang/Exception"]).filter goodWord, w ∈ gWS := fun w h => gIn ((by decide +kernel : ∀ w ∈ (vx_atS RX8 104 (gEx 0) ["java/lang/RuntimeException", "java/lang/Exception"]).filter goodWord, w ∈ lw_tbl) w h) (List.mem_filter.mp h).2
theorem thr_n0 : ∀ w ∈ (vx_atS RX8 104 (gEx 0) ["java/lang/RuntimeException", "java/lang/Exception"]).filter (fun w => !goodWord w), w ∈ gNg := by decide +kernel
theorem thr_g0 : (vx_atS RX8 104 (gEx 0) ["java/lang/RuntimeException", "java/lang/Exception"]).all vx_ot = true := by decide +kernel
theorem thr_c1 : Cond.classLink RX8 80 (gEx 1) ∈ gWS := gIn (by decide +kernel) rfl
theorem thr_i1 : Cond.initialized (gEx 1) ∈ gWS := gIn (by decide +kernel) rfl
theorem thr_a1 : ∀ w ∈ (vx_atS RX8 84 (gEx 1) ["java/lang/RuntimeException", "java/lang/Exception"]).filter goodWord, w ∈ gWS := fun w h => gIn ((by decide +kernel : ∀ w ∈ (vx_atS RX8 84 (gEx 1) ["java/lang/RuntimeException", "java/lang/Exception"]).filter goodWord, w ∈ lw_tbl) w h) (List.mem_filter.mp h).2
theorem thr_n1 : ∀ w ∈ (vx_atS RX8 84 (gEx 1) ["java/lang/RuntimeException", "java/lang/Exception"]).filter (fun w => !goodWord w), w ∈ gNg := by decide +kernel
theorem thr_g1 : (vx_atS RX8 84 (gEx 1) ["java/lang/RuntimeException", "java/lang/Exception"]).all vx_ot = true := by decide +kernel
theorem thr_c2 : Cond.classLink RX8 73 (gEx 2) ∈ gWS := gIn (by decide +kernel) rfl
theorem thr_i2 : Cond.initialized (gEx 2) ∈ gWS := gIn (by decide +kernel) rfl
theorem thr_a2 : ∀ w ∈ (vx_atS RX8 77 (gEx 2) ["java/lang/RuntimeException", "java/lang/Exception"]).filter goodWord, w ∈ gWS := fun w h => gIn ((by decide +kernel : ∀ w ∈ (vx_atS RX8 77 (gEx 2) ["java/lang/RuntimeException", "java/lang/Exception"]).filter goodWord, w ∈ lw_tbl) w h) (List.mem_filter.mp h).2
theorem thr_n2 : ∀ w ∈ (vx_atS RX8 77 (gEx 2) ["java/lang/RuntimeException", "java/lang/Exception"]).filter (fun w => !goodWord w), w ∈ gNg := by decide +kernel
theorem thr_g2 : (vx_atS RX8 77 (gEx 2) ["java/lang/RuntimeException", "java/lang/Exception"]).all vx_ot = true := by decide +kernel
theorem grid_15 : ∀ x, x < 8 → gOk (16 + x) ∧ gT.getD (16 + x) (9, 0, 0, 0) = (5, 160, 15, x) := by decide +kernel
theorem grid_29 : ∀ x, x < 8 → gOk (30 + x) ∧ gT.getD (30 + x) (9, 0, 0, 0) = (5, 16, 29, x) := by decide +kernel
theorem grid_38 : ∀ x, x < 8 → gOk (39 + x) ∧ gT.getD (39 + x) (9, 0, 0, 0) = (5, 16, 38, x) := by decide +kernel
theorem grid_74 : ∀ x, x < 8 → gOk (75 + x) ∧ gT.getD (75 + x) (9, 0, 0, 0) = (5, 8, 74, x) := by decide +kernel
theorem grid_86 : ∀ x, x < 12 → gOk (87 + x) ∧ gT.getD (87 + x) (9, 0, 0, 0) = (5, 2, 86, x) := by decide +kernel
