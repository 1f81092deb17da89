/-! THE LINK, 3: one instruction -/
theorem cob_0 : (u_ws RX0 TX0 2).all (fun w => decide (w ∈ lw_tbl) && goodWord w) = true := by decide +kernel
theorem cow_0 : (decide (Jvm.Cond.instantiable RX0 2 ∈ lw_tbl) && decide (Jvm.Cond.initialized RX0 ∈ lw_tbl)) = true := by decide +kernel
theorem cot_0 : ∀ k, k < 2 → (refF 0 k = false ∧ tyX0 k = .int) ∨ (refF 0 k = true ∧ ((∃ n, tyX0 k = .object n) ∨ ∃ t, tyX0 k = .array t)) := by
  intro k hk
  have hc : k = 0 ∨ k = 1 := by omega
  rcases hc with rfl | rfl
  · exact Or.inr ⟨by decide +kernel, Or.inr ⟨_, rfl⟩⟩
  · exact Or.inl ⟨by decide +kernel, rfl⟩
theorem cok_0 : (∀ w ∈ u_ws RX0 TX0 2, w ∈ Big) ∧ (∀ a, a < 2 → ∀ b, b < 2 → a ≠ b → (TX0 a).2.1 ≠ (TX0 b).2.1) ∧ Jvm.Cond.instantiable RX0 2 ∈ Big ∧ Jvm.Cond.initialized RX0 ∈ Big ∧ (∃ ty : Nat → FieldType, (∀ k, k < 2 → parseFieldDescriptor (TX0 k).2.2.1 = some (ty k)) ∧ ∀ k, k < 2 → (refF 0 k = false ∧ ty k = .int) ∨ (refF 0 k = true ∧ ((∃ n, ty k = .object n) ∨ ∃ t, ty k = .array t))) := by
  have hw := cow_0
  simp only [Bool.and_eq_true, decide_eq_true_eq] at hw
  refine ⟨fun w hw => ?_, nmX0, List.mem_filter.mpr ⟨hw.1, rfl⟩, List.mem_filter.mpr ⟨hw.2, rfl⟩, tyX0, tyX0_ok, cot_0⟩
  have := List.all_eq_true.mp cob_0 w hw
  simp only [Bool.and_eq_true, decide_eq_true_eq] at this
  exact List.mem_filter.mpr this
theorem cob_1 : (u_ws RX1 TX1 6).all (fun w => decide (w ∈ lw_tbl) && goodWord w) = true := by decide +kernel
theorem cow_1 : (decide (Jvm.Cond.instantiable RX1 6 ∈ lw_tbl) && decide (Jvm.Cond.initialized RX1 ∈ lw_tbl)) = true := by decide +kernel
theorem cot_1 : ∀ k, k < 6 → (refF 1 k = false ∧ tyX1 k = .int) ∨ (refF 1 k = true ∧ ((∃ n, tyX1 k = .object n) ∨ ∃ t, tyX1 k = .array t)) := by
  intro k hk
  have hc : k = 0 ∨ k = 1 ∨ k = 2 ∨ k = 3 ∨ k = 4 ∨ k = 5 := by omega
  rcases hc with rfl | rfl | rfl | rfl | rfl | rfl
  · exact Or.inl ⟨by decide +kernel, rfl⟩
  · exact Or.inl ⟨by decide +kernel, rfl⟩
  · exact Or.inl ⟨by decide +kernel, rfl⟩
  · exact Or.inl ⟨by decide +kernel, rfl⟩
  · exact Or.inl ⟨by decide +kernel, rfl⟩
  · exact Or.inl ⟨by decide +kernel, rfl⟩
theorem cok_1 : (∀ w ∈ u_ws RX1 TX1 6, w ∈ Big) ∧ (∀ a, a < 6 → ∀ b, b < 6 → a ≠ b → (TX1 a).2.1 ≠ (TX1 b).2.1) ∧ Jvm.Cond.instantiable RX1 6 ∈ Big ∧ Jvm.Cond.initialized RX1 ∈ Big ∧ (∃ ty : Nat → FieldType, (∀ k, k < 6 → parseFieldDescriptor (TX1 k).2.2.1 = some (ty k)) ∧ ∀ k, k < 6 → (refF 1 k = false ∧ ty k = .int) ∨ (refF 1 k = true ∧ ((∃ n, ty k = .object n) ∨ ∃ t, ty k = .array t))) := by
  have hw := cow_1
  simp only [Bool.and_eq_true, decide_eq_true_eq] at hw
  refine ⟨fun w hw => ?_, nmX1, List.mem_filter.mpr ⟨hw.1, rfl⟩, List.mem_filter.mpr ⟨hw.2, rfl⟩, tyX1, tyX1_ok, cot_1⟩
  have := List.all_eq_true.mp cob_1 w hw
  simp only [Bool.and_eq_true, decide_eq_true_eq] at this
  exact List.mem_filter.mpr this
theorem cob_2 : (u_ws RX2 TX2 5).all (fun w => decide (w ∈ lw_tbl) && goodWord w) = true := by decide +kernel
theorem cow_2 : (decide (Jvm.Cond.instantiable RX2 5 ∈ lw_tbl) && decide (Jvm.Cond.initialized RX2 ∈ lw_tbl)) = true := by decide +kernel
theorem cot_2 : ∀ k, k < 5 → (refF 2 k = false ∧ tyX2 k = .int) ∨ (refF 2 k = true ∧ ((∃ n, tyX2 k = .object n) ∨ ∃ t, tyX2 k = .array t)) := by
  intro k hk
  have hc : k = 0 ∨ k = 1 ∨ k = 2 ∨ k = 3 ∨ k = 4 := by omega
  rcases hc with rfl | rfl | rfl | rfl | rfl
  · exact Or.inr ⟨by decide +kernel, Or.inr ⟨_, rfl⟩⟩
  · exact Or.inr ⟨by decide +kernel, Or.inl ⟨_, rfl⟩⟩
  · exact Or.inl ⟨by decide +kernel, rfl⟩
  · exact Or.inl ⟨by decide +kernel, rfl⟩
  · exact Or.inl ⟨by decide +kernel, rfl⟩
theorem cok_2 : (∀ w ∈ u_ws RX2 TX2 5, w ∈ Big) ∧ (∀ a, a < 5 → ∀ b, b < 5 → a ≠ b → (TX2 a).2.1 ≠ (TX2 b).2.1) ∧ Jvm.Cond.instantiable RX2 5 ∈ Big ∧ Jvm.Cond.initialized RX2 ∈ Big ∧ (∃ ty : Nat → FieldType, (∀ k, k < 5 → parseFieldDescriptor (TX2 k).2.2.1 = some (ty k)) ∧ ∀ k, k < 5 → (refF 2 k = false ∧ ty k = .int) ∨ (refF 2 k = true ∧ ((∃ n, ty k = .object n) ∨ ∃ t, ty k = .array t))) := by
  have hw := cow_2
  simp only [Bool.and_eq_true, decide_eq_true_eq] at hw
  refine ⟨fun w hw => ?_, nmX2, List.mem_filter.mpr ⟨hw.1, rfl⟩, List.mem_filter.mpr ⟨hw.2, rfl⟩, tyX2, tyX2_ok, cot_2⟩
  have := List.all_eq_true.mp cob_2 w hw
  simp only [Bool.and_eq_true, decide_eq_true_eq] at this
  exact List.mem_filter.mpr this
theorem cob_3 : (u_ws RX3 TX3 2).all (fun w => decide (w ∈ lw_tbl) && goodWord w) = true := by decide +kernel
theorem cow_3 : (decide (Jvm.Cond.instantiable RX3 2 ∈ lw_tbl) && decide (Jvm.Cond.initialized RX3 ∈ lw_tbl)) = true := by decide +kernel
theorem cot_3 : ∀ k, k < 2 → (refF 3 k = false ∧ tyX3 k = .int) ∨ (refF 3 k = true ∧ ((∃ n, tyX3 k = .object n) ∨ ∃ t, tyX3 k = .array t)) := by
  intro k hk
  have hc : k = 0 ∨ k = 1 := by omega
  rcases hc with rfl | rfl
  · exact Or.inr ⟨by decide +kernel, Or.inr ⟨_, rfl⟩⟩
  · exact Or.inl ⟨by decide +kernel, rfl⟩
theorem cok_3 : (∀ w ∈ u_ws RX3 TX3 2, w ∈ Big) ∧ (∀ a, a < 2 → ∀ b, b < 2 → a ≠ b → (TX3 a).2.1 ≠ (TX3 b).2.1) ∧ Jvm.Cond.instantiable RX3 2 ∈ Big ∧ Jvm.Cond.initialized RX3 ∈ Big ∧ (∃ ty : Nat → FieldType, (∀ k, k < 2 → parseFieldDescriptor (TX3 k).2.2.1 = some (ty k)) ∧ ∀ k, k < 2 → (refF 3 k = false ∧ ty k = .int) ∨ (refF 3 k = true ∧ ((∃ n, ty k = .object n) ∨ ∃ t, ty k = .array t))) := by
  have hw := cow_3
  simp only [Bool.and_eq_true, decide_eq_true_eq] at hw
  refine ⟨fun w hw => ?_, nmX3, List.mem_filter.mpr ⟨hw.1, rfl⟩, List.mem_filter.mpr ⟨hw.2, rfl⟩, tyX3, tyX3_ok, cot_3⟩
  have := List.all_eq_true.mp cob_3 w hw
  simp only [Bool.and_eq_true, decide_eq_true_eq] at this
  exact List.mem_filter.mpr this
theorem cob_4 : (u_ws RX4 TX4 4).all (fun w => decide (w ∈ lw_tbl) && goodWord w) = true := by decide +kernel
theorem cow_4 : (decide (Jvm.Cond.instantiable RX4 4 ∈ lw_tbl) && decide (Jvm.Cond.initialized RX4 ∈ lw_tbl)) = true := by decide +kernel
theorem cot_4 : ∀ k, k < 4 → (refF 4 k = false ∧ tyX4 k = .int) ∨ (refF 4 k = true ∧ ((∃ n, tyX4 k = .object n) ∨ ∃ t, tyX4 k = .array t)) := by
  intro k hk
  have hc : k = 0 ∨ k = 1 ∨ k = 2 ∨ k = 3 := by omega
  rcases hc with rfl | rfl | rfl | rfl
  · exact Or.inr ⟨by decide +kernel, Or.inl ⟨_, rfl⟩⟩
  · exact Or.inr ⟨by decide +kernel, Or.inl ⟨_, rfl⟩⟩
  · exact Or.inr ⟨by decide +kernel, Or.inl ⟨_, rfl⟩⟩
  · exact Or.inl ⟨by decide +kernel, rfl⟩
theorem cok_4 : (∀ w ∈ u_ws RX4 TX4 4, w ∈ Big) ∧ (∀ a, a < 4 → ∀ b, b < 4 → a ≠ b → (TX4 a).2.1 ≠ (TX4 b).2.1) ∧ Jvm.Cond.instantiable RX4 4 ∈ Big ∧ Jvm.Cond.initialized RX4 ∈ Big ∧ (∃ ty : Nat → FieldType, (∀ k, k < 4 → parseFieldDescriptor (TX4 k).2.2.1 = some (ty k)) ∧ ∀ k, k < 4 → (refF 4 k = false ∧ ty k = .int) ∨ (refF 4 k = true ∧ ((∃ n, ty k = .object n) ∨ ∃ t, ty k = .array t))) := by
  have hw := cow_4
  simp only [Bool.and_eq_true, decide_eq_true_eq] at hw
  refine ⟨fun w hw => ?_, nmX4, List.mem_filter.mpr ⟨hw.1, rfl⟩, List.mem_filter.mpr ⟨hw.2, rfl⟩, tyX4, tyX4_ok, cot_4⟩
  have := List.all_eq_true.mp cob_4 w hw
  simp only [Bool.and_eq_true, decide_eq_true_eq] at this
  exact List.mem_filter.mpr this
theorem cob_5 : (u_ws RX6 TX6 4).all (fun w => decide (w ∈ lw_tbl) && goodWord w) = true := by decide +kernel
theorem cow_5 : (decide (Jvm.Cond.instantiable RX6 4 ∈ lw_tbl) && decide (Jvm.Cond.initialized RX6 ∈ lw_tbl)) = true := by decide +kernel
theorem cot_5 : ∀ k, k < 4 → (refF 5 k = false ∧ tyX6 k = .int) ∨ (refF 5 k = true ∧ ((∃ n, tyX6 k = .object n) ∨ ∃ t, tyX6 k = .array t)) := by
  intro k hk
  have hc : k = 0 ∨ k = 1 ∨ k = 2 ∨ k = 3 := by omega
  rcases hc with rfl | rfl | rfl | rfl
  · exact Or.inr ⟨by decide +kernel, Or.inr ⟨_, rfl⟩⟩
  · exact Or.inr ⟨by decide +kernel, Or.inr ⟨_, rfl⟩⟩
  · exact Or.inr ⟨by decide +kernel, Or.inr ⟨_, rfl⟩⟩
  · exact Or.inl ⟨by decide +kernel, rfl⟩
theorem cok_5 : (∀ w ∈ u_ws RX6 TX6 4, w ∈ Big) ∧ (∀ a, a < 4 → ∀ b, b < 4 → a ≠ b → (TX6 a).2.1 ≠ (TX6 b).2.1) ∧ Jvm.Cond.instantiable RX6 4 ∈ Big ∧ Jvm.Cond.initialized RX6 ∈ Big ∧ (∃ ty : Nat → FieldType, (∀ k, k < 4 → parseFieldDescriptor (TX6 k).2.2.1 = some (ty k)) ∧ ∀ k, k < 4 → (refF 5 k = false ∧ ty k = .int) ∨ (refF 5 k = true ∧ ((∃ n, ty k = .object n) ∨ ∃ t, ty k = .array t))) := by
  have hw := cow_5
  simp only [Bool.and_eq_true, decide_eq_true_eq] at hw
  refine ⟨fun w hw => ?_, nmX6, List.mem_filter.mpr ⟨hw.1, rfl⟩, List.mem_filter.mpr ⟨hw.2, rfl⟩, tyX6, tyX6_ok, cot_5⟩
  have := List.all_eq_true.mp cob_5 w hw
  simp only [Bool.and_eq_true, decide_eq_true_eq] at this
  exact List.mem_filter.mpr this
theorem cob_6 : (u_ws RX7 TX7 4).all (fun w => decide (w ∈ lw_tbl) && goodWord w) = true := by decide +kernel
theorem cow_6 : (decide (Jvm.Cond.instantiable RX7 4 ∈ lw_tbl) && decide (Jvm.Cond.initialized RX7 ∈ lw_tbl)) = true := by decide +kernel
theorem cot_6 : ∀ k, k < 4 → (refF 6 k = false ∧ tyX7 k = .int) ∨ (refF 6 k = true ∧ ((∃ n, tyX7 k = .object n) ∨ ∃ t, tyX7 k = .array t)) := by
  intro k hk
  have hc : k = 0 ∨ k = 1 ∨ k = 2 ∨ k = 3 := by omega
  rcases hc with rfl | rfl | rfl | rfl
  · exact Or.inr ⟨by decide +kernel, Or.inr ⟨_, rfl⟩⟩
  · exact Or.inr ⟨by decide +kernel, Or.inr ⟨_, rfl⟩⟩
  · exact Or.inr ⟨by decide +kernel, Or.inr ⟨_, rfl⟩⟩
  · exact Or.inl ⟨by decide +kernel, rfl⟩
theorem cok_6 : (∀ w ∈ u_ws RX7 TX7 4, w ∈ Big) ∧ (∀ a, a < 4 → ∀ b, b < 4 → a ≠ b → (TX7 a).2.1 ≠ (TX7 b).2.1) ∧ Jvm.Cond.instantiable RX7 4 ∈ Big ∧ Jvm.Cond.initialized RX7 ∈ Big ∧ (∃ ty : Nat → FieldType, (∀ k, k < 4 → parseFieldDescriptor (TX7 k).2.2.1 = some (ty k)) ∧ ∀ k, k < 4 → (refF 6 k = false ∧ ty k = .int) ∨ (refF 6 k = true ∧ ((∃ n, ty k = .object n) ∨ ∃ t, ty k = .array t))) := by
  have hw := cow_6
  simp only [Bool.and_eq_true, decide_eq_true_eq] at hw
  refine ⟨fun w hw => ?_, nmX7, List.mem_filter.mpr ⟨hw.1, rfl⟩, List.mem_filter.mpr ⟨hw.2, rfl⟩, tyX7, tyX7_ok, cot_6⟩
  have := List.all_eq_true.mp cob_6 w hw
  simp only [Bool.and_eq_true, decide_eq_true_eq] at this
  exact List.mem_filter.mpr this
theorem cob_7 : (u_ws RX8 TX8 8).all (fun w => decide (w ∈ lw_tbl) && goodWord w) = true := by decide +kernel
theorem cow_7 : (decide (Jvm.Cond.instantiable RX8 8 ∈ lw_tbl) && decide (Jvm.Cond.initialized RX8 ∈ lw_tbl)) = true := by decide +kernel
theorem cot_7 : ∀ k, k < 8 → (refF 7 k = false ∧ tyX8 k = .int) ∨ (refF 7 k = true ∧ ((∃ n, tyX8 k = .object n) ∨ ∃ t, tyX8 k = .array t)) := by
  intro k hk
  have hc : k = 0 ∨ k = 1 ∨ k = 2 ∨ k = 3 ∨ k = 4 ∨ k = 5 ∨ k = 6 ∨ k = 7 := by omega
  rcases hc with rfl | rfl | rfl | rfl | rfl | rfl | rfl | rfl
  · exact Or.inr ⟨by decide +kernel, Or.inl ⟨_, rfl⟩⟩
  · exact Or.inr ⟨by decide +kernel, Or.inl ⟨_, rfl⟩⟩
  · exact Or.inr ⟨by decide +kernel, Or.inl ⟨_, rfl⟩⟩
  · exact Or.inr ⟨by decide +kernel, Or.inl ⟨_, rfl⟩⟩
  · exact Or.inr ⟨by decide +kernel, Or.inl ⟨_, rfl⟩⟩
  · exact Or.inr ⟨by decide +kernel, Or.inl ⟨_, rfl⟩⟩
  · exact Or.inr ⟨by decide +kernel, Or.inl ⟨_, rfl⟩⟩
  · exact Or.inr ⟨by decide +kernel, Or.inl ⟨_, rfl⟩⟩
theorem cok_7 : (∀ w ∈ u_ws RX8 TX8 8, w ∈ Big) ∧ (∀ a, a < 8 → ∀ b, b < 8 → a ≠ b → (TX8 a).2.1 ≠ (TX8 b).2.1) ∧ Jvm.Cond.instantiable RX8 8 ∈ Big ∧ Jvm.Cond.initialized RX8 ∈ Big ∧ (∃ ty : Nat → FieldType, (∀ k, k < 8 → parseFieldDescriptor (TX8 k).2.2.1 = some (ty k)) ∧ ∀ k, k < 8 → (refF 7 k = false ∧ ty k = .int) ∨ (refF 7 k = true ∧ ((∃ n, ty k = .object n) ∨ ∃ t, ty k = .array t))) := by
  have hw := cow_7
  simp only [Bool.and_eq_true, decide_eq_true_eq] at hw
  refine ⟨fun w hw => ?_, nmX8, List.mem_filter.mpr ⟨hw.1, rfl⟩, List.mem_filter.mpr ⟨hw.2, rfl⟩, tyX8, tyX8_ok, cot_7⟩
  have := List.all_eq_true.mp cob_7 w hw
  simp only [Bool.and_eq_true, decide_eq_true_eq] at this
  exact List.mem_filter.mpr this
theorem cob_8 : (u_ws RX9 TX9 25).all (fun w => decide (w ∈ lw_tbl) && goodWord w) = true := by decide +kernel
theorem cow_8 : (decide (Jvm.Cond.instantiable RX9 25 ∈ lw_tbl) && decide (Jvm.Cond.initialized RX9 ∈ lw_tbl)) = true := by decide +kernel
theorem cot_8 : ∀ k, k < 25 → (refF 8 k = false ∧ tyX9 k = .int) ∨ (refF 8 k = true ∧ ((∃ n, tyX9 k = .object n) ∨ ∃ t, tyX9 k = .array t)) := by
  intro k hk
  have hc : k = 0 ∨ k = 1 ∨ k = 2 ∨ k = 3 ∨ k = 4 ∨ k = 5 ∨ k = 6 ∨ k = 7 ∨ k = 8 ∨ k = 9 ∨ k = 10 ∨ k = 11 ∨ k = 12 ∨ k = 13 ∨ k = 14 ∨ k = 15 ∨ k = 16 ∨ k = 17 ∨ k = 18 ∨ k = 19 ∨ k = 20 ∨ k = 21 ∨ k = 22 ∨ k = 23 ∨ k = 24 := by omega
  rcases hc with rfl | rfl | rfl | rfl | rfl | rfl | rfl | rfl | rfl | rfl | rfl | rfl | rfl | rfl | rfl | rfl | rfl | rfl | rfl | rfl | rfl | rfl | rfl | rfl | rfl
  · exact Or.inl ⟨by decide +kernel, rfl⟩
  · exact Or.inr ⟨by decide +kernel, Or.inr ⟨_, rfl⟩⟩
  · exact Or.inl ⟨by decide +kernel, rfl⟩
  · exact Or.inl ⟨by decide +kernel, rfl⟩
  · exact Or.inl ⟨by decide +kernel, rfl⟩
  · exact Or.inl ⟨by decide +kernel, rfl⟩
  · exact Or.inr ⟨by decide +kernel, Or.inr ⟨_, rfl⟩⟩
  · exact Or.inr ⟨by decide +kernel, Or.inr ⟨_, rfl⟩⟩
  · exact Or.inr ⟨by decide +kernel, Or.inr ⟨_, rfl⟩⟩
  · exact Or.inr ⟨by decide +kernel, Or.inr ⟨_, rfl⟩⟩
  · exact Or.inr ⟨by decide +kernel, Or.inr ⟨_, rfl⟩⟩
  · exact Or.inr ⟨by decide +kernel, Or.inr ⟨_, rfl⟩⟩
  · exact Or.inl ⟨by decide +kernel, rfl⟩
  · exact Or.inr ⟨by decide +kernel, Or.inr ⟨_, rfl⟩⟩
  · exact Or.inr ⟨by decide +kernel, Or.inr ⟨_, rfl⟩⟩
  · exact Or.inr ⟨by decide +kernel, Or.inr ⟨_, rfl⟩⟩
  · exact Or.inr ⟨by decide +kernel, Or.inr ⟨_, rfl⟩⟩
  · exact Or.inr ⟨by decide +kernel, Or.inr ⟨_, rfl⟩⟩
  · exact Or.inl ⟨by decide +kernel, rfl⟩
  · exact Or.inl ⟨by decide +kernel, rfl⟩
  · exact Or.inr ⟨by decide +kernel, Or.inr ⟨_, rfl⟩⟩
  · exact Or.inl ⟨by decide +kernel, rfl⟩
  · exact Or.inr ⟨by decide +kernel, Or.inr ⟨_, rfl⟩⟩
  · exact Or.inl ⟨by decide +kernel, rfl⟩
  · exact Or.inr ⟨by decide +kernel, Or.inr ⟨_, rfl⟩⟩
theorem cok_8 : (∀ w ∈ u_ws RX9 TX9 25, w ∈ Big) ∧ (∀ a, a < 25 → ∀ b, b < 25 → a ≠ b → (TX9 a).2.1 ≠ (TX9 b).2.1) ∧ Jvm.Cond.instantiable RX9 25 ∈ Big ∧ Jvm.Cond.initialized RX9 ∈ Big ∧ (∃ ty : Nat → FieldType, (∀ k, k < 25 → parseFieldDescriptor (TX9 k).2.2.1 = some (ty k)) ∧ ∀ k, k < 25 → (refF 8 k = false ∧ ty k = .int) ∨ (refF 8 k = true ∧ ((∃ n, ty k = .object n) ∨ ∃ t, ty k = .array t))) := by
  have hw := cow_8
  simp only [Bool.and_eq_true, decide_eq_true_eq] at hw
  refine ⟨fun w hw => ?_, nmX9, List.mem_filter.mpr ⟨hw.1, rfl⟩, List.mem_filter.mpr ⟨hw.2, rfl⟩, tyX9, tyX9_ok, cot_8⟩
  have := List.all_eq_true.mp cob_8 w hw
  simp only [Bool.and_eq_true, decide_eq_true_eq] at this
  exact List.mem_filter.mpr this

theorem stp_n {S : Scr} {e : Ent} {pc n pc1 n1 : Nat} {ls ls1 : LL} {st sta : List Value} {f f1 : FF} {g g1 : GG} (h : stp KKl S e pc ls st n f g = some (pc1, ls1, sta, n1, f1, g1)) : n ≤ n1 := by
  unfold stp at h
  split at h <;> (try simp only [pu, bin, binl, sGet, sPut, sALen, sIald, sBald, sIast, sAald, sAast, sNewO, sNewA, sNew, sMax] at h) <;> (repeat' split at h) <;> first | (cases h; done) | (cases h; omega) | (simp at h; done)
theorem pu_inv {q n pc1 n1 : Nat} {ls ls1 : LL} {st sta : List Value} {f f1 : FF} {g g1 : GG} {o : Option Value} (h : pu q ls n f g st o = some (pc1, ls1, sta, n1, f1, g1)) : ∃ v, o = some v ∧ pc1 = q ∧ ls1 = ls ∧ sta = v :: st ∧ n1 = n ∧ f1 = f ∧ g1 = g := by
  unfold pu at h
  split at h
  · cases h; exact ⟨_, rfl, rfl, rfl, rfl, rfl, rfl, rfl⟩
  · cases h
theorem ldI_inv {o : Option Value} {v : Value} (h : ldI o = some v) : ∃ x, o = some (.int x) ∧ v = .int x := by
  unfold ldI at h
  split at h
  · cases h; exact ⟨_, rfl, rfl⟩
  · cases h
theorem ldL_inv {o : Option Value} {v : Value} (h : ldL o = some v) : ∃ x, o = some (.long x) ∧ v = .long x := by
  unfold ldL at h
  split at h
  · cases h; exact ⟨_, rfl, rfl⟩
  · cases h
theorem ldA_inv {o : Option Value} {v : Value} (h : ldA o = some v) : o = some v ∧ isA v = true := by
  unfold ldA at h
  split at h
  · split at h
    · cases h; exact ⟨rfl, ‹_›⟩
    · cases h
  · cases h
theorem bin_inv {q n pc1 n1 : Nat} {ls ls1 : LL} {st sta : List Value} {f f1 : FF} {g g1 : GG} {F : Int32 → Int32 → Option Int32} (h : bin q ls n f g st F = some (pc1, ls1, sta, n1, f1, g1)) : ∃ x y r v, st = .int y :: .int x :: r ∧ F x y = some v ∧ pc1 = q ∧ ls1 = ls ∧ sta = .int v :: r ∧ n1 = n ∧ f1 = f ∧ g1 = g := by
  unfold bin at h
  split at h
  · split at h
    · cases h; exact ⟨_, _, _, _, rfl, ‹_›, rfl, rfl, rfl, rfl, rfl, rfl⟩
    · cases h
  · cases h
theorem binl_inv {q n pc1 n1 : Nat} {ls ls1 : LL} {st sta : List Value} {f f1 : FF} {g g1 : GG} {F : Int64 → Int64 → Option Value} (h : binl q ls n f g st F = some (pc1, ls1, sta, n1, f1, g1)) : ∃ x y r v, st = .long y :: .long x :: r ∧ F x y = some v ∧ pc1 = q ∧ ls1 = ls ∧ sta = v :: r ∧ n1 = n ∧ f1 = f ∧ g1 = g := by
  unfold binl at h
  split at h
  · split at h
    · cases h; exact ⟨_, _, _, _, rfl, ‹_›, rfl, rfl, rfl, rfl, rfl, rfl⟩
    · cases h
  · cases h
/-- facts of the classes -/
theorem cls_ok {ci : Nat} {q : vw_C} (h : vwCl[ci]? = some q) : (∀ w ∈ u_ws q.1 q.2.1 q.2.2, w ∈ Big) ∧ (∀ a, a < q.2.2 → ∀ b, b < q.2.2 → a ≠ b → (q.2.1 a).2.1 ≠ (q.2.1 b).2.1) ∧ Jvm.Cond.instantiable q.1 q.2.2 ∈ Big ∧ Jvm.Cond.initialized q.1 ∈ Big ∧
    (∃ ty : Nat → FieldType, (∀ k, k < q.2.2 → parseFieldDescriptor (q.2.1 k).2.2.1 = some (ty k)) ∧ ∀ k, k < q.2.2 → (refF ci k = false ∧ ty k = .int) ∨ (refF ci k = true ∧ ((∃ n, ty k = .object n) ∨ ∃ t, ty k = .array t))) := by
  have hi : ci < 9 := (List.getElem?_eq_some_iff.mp h).1
  have hf : ∀ w ∈ Big, w ∈ Big := fun _ h => h
  have hc : ci = 0 ∨ ci = 1 ∨ ci = 2 ∨ ci = 3 ∨ ci = 4 ∨ ci = 5 ∨ ci = 6 ∨ ci = 7 ∨ ci = 8 := by omega
  rcases hc with rfl | rfl | rfl | rfl | rfl | rfl | rfl | rfl | rfl
  · cases h; exact cok_0
  · cases h; exact cok_1
  · cases h; exact cok_2
  · cases h; exact cok_3
  · cases h; exact cok_4
  · cases h; exact cok_5
  · cases h; exact cok_6
  · cases h; exact cok_7
  · cases h; exact cok_8
