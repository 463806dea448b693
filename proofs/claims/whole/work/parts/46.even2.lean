/-! ===== even; memory of a walker ===== -/
section
variable {E : ET} {S : SCR} {M : Mem}
theorem c_even9 {i t : Int} (hi : rg i) (ht : rg t) (hM : ∀ z, 0 ≤ z → z < 64 → rg (M 253 z)) : Ctr E 5 117 [vr 248, vi i, vi t] (toAH S M) (some (vi (if (0 ≤ i ∧ i ≤ 7) ∧ (0 ≤ t ∧ t ≤ 7) then (if i = t then -3 else cntb (nbm M i) 8) else -1))) (toAH S (if ((0 ≤ i ∧ i ≤ 7) ∧ (0 ≤ t ∧ t ≤ 7)) ∧ ¬ i = t then putv M 254 (8 * (8 * i + t)) (ev0 (nbm M i)) else M)) := by
  refine Ctr_f mi_X9_even mo_X9_even (Nat.le_of_ble_eq_true rfl) ⟨Nat.le_refl _, Nat.le_refl _⟩ (fun g lm => ?_)
  rw [show entL mi_X9_even.2.2.1 [vr 248, vi i, vi t] = [some (vr 248), some (vi i), some (vi t)] from rfl]
  refine e_X9_even 400 (lfok E (by omega)) ?_
  by_cases h : (0 ≤ i ∧ i ≤ 7) ∧ (0 ≤ t ∧ t ≤ 7)
  · have a1 : b2 (0 ≤ i ∧ i ≤ 7) = 1 := by simp [b2, h.1]
    have a2 : b2 (0 ≤ t ∧ t ≤ 7) = 1 := by simp [b2, h.2]
    by_cases h' : i = t
    · rw [if_pos h, if_pos h', if_neg (fun c => c.2 h')]
      simp +contextual (disch := first | omega | exact Nat.le_of_ble_eq_true rfl | assumption) only [↓r_X9_even_0, ↓r_X9_even_1, ↓r_X9_even_4, ↓r_X9_even_7, ↓r_X9_even_8, ↓r_X9_even_11, ↓r_X9_even_14, ↓r_X9_even_15, ↓r_X9_even_16, ↓r_X9_even_17, ↓r_X9_even_18, ↓r_X9_even_21, ↓r_X9_even_23, ↓r_X9_even_24, ↓r_X9_even_25, ↓r_X9_even_26, ↓r_X9_even_27, ↓r_X9_even_30, ↓r_X9_even_31, ↓r_X9_even_32, ↓r_X9_even_35, ↓x1_1, ↓lf_X9_isNode, ↓x31_0, ↓x31b0, ↓x1_2, ↓x31_1, ↓x31b1, ↓x0, ↓x48_0, ↓x32_1, ↓x2_0, ↓v9_3, ↓v9_2, and_self, and_true, true_and, implies_true, true_implies, Int.reduceEq, Int.reduceLE, Int.reduceLT, not_true_eq_false, not_false_eq_true, false_implies, RTf_eq, a1, a2]
      exact fun q => absurd h' q
    · rw [if_pos h, if_neg h', if_pos ⟨h, h'⟩]
      have e0 : ∀ z, putv M 254 (8 * (8 * i + t)) (ev0 (nbm M i)) 253 z = M 253 z := fun z => putv_ne (by omega)
      have hc := c_manyNext (E := E) (S := S) (M := putv M 254 (8 * (8 * i + t)) (ev0 (nbm M i))) (i := i) (by omega) (fun z z1 z2 => by rw [e0]; exact hM z z1 z2)
      rw [nbm_congr e0] at hc
      simp +contextual (disch := first | omega | exact Nat.le_of_ble_eq_true rfl | assumption) only [↓r_X9_even_0, ↓r_X9_even_1, ↓r_X9_even_4, ↓r_X9_even_7, ↓r_X9_even_8, ↓r_X9_even_11, ↓r_X9_even_14, ↓r_X9_even_15, ↓r_X9_even_16, ↓r_X9_even_17, ↓r_X9_even_18, ↓r_X9_even_21, ↓r_X9_even_23, ↓r_X9_even_24, ↓r_X9_even_25, ↓r_X9_even_26, ↓r_X9_even_27, ↓r_X9_even_30, ↓r_X9_even_31, ↓r_X9_even_32, ↓r_X9_even_35, ↓x1_1, ↓lf_X9_isNode, ↓x31_0, ↓x31b0, ↓x1_2, ↓x31_1, ↓x31b1, ↓x0, ↓x48_0, ↓x32_1, ↓x2_0, ↓v9_3, ↓v9_2, and_self, and_true, true_and, implies_true, true_implies, Int.reduceEq, Int.reduceLE, Int.reduceLT, not_true_eq_false, not_false_eq_true, false_implies, RTf_eq, a1, a2]
      refine ⟨fun _ => ?_, fun q => absurd h' q⟩
      refine ck_v (c_makeEven (by omega) (by omega) hM) (by omega) (by simp) ?_
      simp +contextual (disch := first | omega | exact Nat.le_of_ble_eq_true rfl | assumption) only [↓r_X9_even_0, ↓r_X9_even_1, ↓r_X9_even_4, ↓r_X9_even_7, ↓r_X9_even_8, ↓r_X9_even_11, ↓r_X9_even_14, ↓r_X9_even_15, ↓r_X9_even_16, ↓r_X9_even_17, ↓r_X9_even_18, ↓r_X9_even_21, ↓r_X9_even_23, ↓r_X9_even_24, ↓r_X9_even_25, ↓r_X9_even_26, ↓r_X9_even_27, ↓r_X9_even_30, ↓r_X9_even_31, ↓r_X9_even_32, ↓r_X9_even_35, ↓x1_1, ↓lf_X9_isNode, ↓x31_0, ↓x31b0, ↓x1_2, ↓x31_1, ↓x31b1, ↓x0, ↓x48_0, ↓x32_1, ↓x2_0, ↓v9_3, ↓v9_2, and_self, and_true, true_and, implies_true, true_implies, Int.reduceEq, Int.reduceLE, Int.reduceLT, not_true_eq_false, not_false_eq_true, false_implies, RTf_eq, a1, a2]
      refine ck_r hc (by omega) (by simp) ?_
      simp +contextual (disch := first | omega | exact Nat.le_of_ble_eq_true rfl | assumption) only [↓r_X9_even_0, ↓r_X9_even_1, ↓r_X9_even_4, ↓r_X9_even_7, ↓r_X9_even_8, ↓r_X9_even_11, ↓r_X9_even_14, ↓r_X9_even_15, ↓r_X9_even_16, ↓r_X9_even_17, ↓r_X9_even_18, ↓r_X9_even_21, ↓r_X9_even_23, ↓r_X9_even_24, ↓r_X9_even_25, ↓r_X9_even_26, ↓r_X9_even_27, ↓r_X9_even_30, ↓r_X9_even_31, ↓r_X9_even_32, ↓r_X9_even_35, ↓x1_1, ↓lf_X9_isNode, ↓x31_0, ↓x31b0, ↓x1_2, ↓x31_1, ↓x31b1, ↓x0, ↓x48_0, ↓x32_1, ↓x2_0, ↓v9_3, ↓v9_2, and_self, and_true, true_and, implies_true, true_implies, Int.reduceEq, Int.reduceLE, Int.reduceLT, not_true_eq_false, not_false_eq_true, false_implies, RTf_eq, a1, a2]
  · rw [if_neg h, if_neg (fun c => h c.1)]
    simp +contextual (disch := first | omega | exact Nat.le_of_ble_eq_true rfl | assumption) only [↓r_X9_even_0, ↓r_X9_even_1, ↓r_X9_even_4, ↓r_X9_even_7, ↓r_X9_even_8, ↓r_X9_even_11, ↓r_X9_even_14, ↓r_X9_even_15, ↓r_X9_even_16, ↓r_X9_even_17, ↓r_X9_even_18, ↓r_X9_even_21, ↓r_X9_even_23, ↓r_X9_even_24, ↓r_X9_even_25, ↓r_X9_even_26, ↓r_X9_even_27, ↓r_X9_even_30, ↓r_X9_even_31, ↓r_X9_even_32, ↓r_X9_even_35, ↓x1_1, ↓lf_X9_isNode, ↓x31_0, ↓x31b0, ↓x1_2, ↓x31_1, ↓x31b1, ↓x0, ↓x48_0, ↓x32_1, ↓x2_0, ↓v9_3, ↓v9_2, and_self, and_true, true_and, implies_true, true_implies, Int.reduceEq, Int.reduceLE, Int.reduceLT, not_true_eq_false, not_false_eq_true, false_implies, RTf_eq]
    exact fun f1 f2 => absurd ⟨f1, f2⟩ h
end
