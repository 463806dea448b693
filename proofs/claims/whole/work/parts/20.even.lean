/-! ===== neighbours counted, even rows ===== -/
def nbm (M : Mem) (i : Int) : Set8 := fun k => decide (¬ M 253 (8 * i + k) = -9)
section
variable {E : ET} {S : SCR} {M : Mem}
theorem l_manyNext {g : GT} {lm : Nat × Nat} {RT : RTy} {i : Int} (hi : 0 ≤ i ∧ i < 8) (hM : ∀ z, 0 ≤ z → z < 64 → rg (M 253 z)) (hr : RT (some (vi (cntb (nbm M i) 8))) (toAH S M)) : ∀ k : Nat, k ≤ 8 → G E g mi_X9_manyNext 2 lm RT 4 [some (vr 248), some (vi i), some (vi (cntb (nbm M i) k)), some (vi (k : Int))] [] (toAH S M) := by
  refine down ?_ ?_
  · refine q_X9_manyNext_4 400 (lfok E (by omega)) ?_
    simp +contextual (disch := first | omega | exact Nat.le_of_ble_eq_true rfl | assumption) only [↓r_X9_manyNext_0, ↓r_X9_manyNext_1, ↓r_X9_manyNext_2, ↓r_X9_manyNext_3, ↓r_X9_manyNext_4, ↓r_X9_manyNext_5, ↓r_X9_manyNext_7, ↓r_X9_manyNext_10, ↓r_X9_manyNext_11, ↓r_X9_manyNext_12, ↓r_X9_manyNext_13, ↓r_X9_manyNext_14, ↓r_X9_manyNext_17, ↓r_X9_manyNext_20, ↓r_X9_manyNext_21, ↓r_X9_manyNext_24, ↓r_X9_manyNext_25, ↓r_X9_manyNext_26, ↓r_X9_manyNext_27, ↓r_X9_manyNext_30, ↓r_X9_manyNext_33, ↓r_X9_manyNext_34, ↓x0, ↓x4_2n, ↓x4_2i, ↓x4_2r, ↓x4_3n, ↓x4_3i, ↓x4_3r, ↓x1_3, ↓x32_3, ↓x1_2, ↓x2_0, ↓x1_1, ↓lf_X9_isNext, ↓x31_0, ↓x31b0, ↓x33, ↓x8, ↓x7_3n, ↓x7_3i, ↓x7_3r, ↓x48_0, and_self, and_true, true_and, implies_true, true_implies, RTf_eq]
    trace_state
    sorry
  · intro k hk ih
    have h1 := hM (8 * i + k) (by omega) (by omega)
    refine q_X9_manyNext_4 400 (lfok E (by omega)) ?_
    simp +contextual (disch := first | omega | exact Nat.le_of_ble_eq_true rfl | assumption) only [↓r_X9_manyNext_0, ↓r_X9_manyNext_1, ↓r_X9_manyNext_2, ↓r_X9_manyNext_3, ↓r_X9_manyNext_4, ↓r_X9_manyNext_5, ↓r_X9_manyNext_7, ↓r_X9_manyNext_10, ↓r_X9_manyNext_11, ↓r_X9_manyNext_12, ↓r_X9_manyNext_13, ↓r_X9_manyNext_14, ↓r_X9_manyNext_17, ↓r_X9_manyNext_20, ↓r_X9_manyNext_21, ↓r_X9_manyNext_24, ↓r_X9_manyNext_25, ↓r_X9_manyNext_26, ↓r_X9_manyNext_27, ↓r_X9_manyNext_30, ↓r_X9_manyNext_33, ↓r_X9_manyNext_34, ↓x0, ↓x4_2n, ↓x4_2i, ↓x4_2r, ↓x4_3n, ↓x4_3i, ↓x4_3r, ↓x1_3, ↓x32_3, ↓x1_2, ↓x2_0, ↓x1_1, ↓lf_X9_isNext, ↓x31_0, ↓x31b0, ↓x33, ↓x8, ↓x7_3n, ↓x7_3i, ↓x7_3r, ↓x48_0, and_self, and_true, true_and, implies_true, true_implies, RTf_eq]
    trace_state
    sorry
end
