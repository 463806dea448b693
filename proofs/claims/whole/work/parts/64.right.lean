/-! ===== shortest, right ===== -/
def shR (i t : Int) : Int := if ¬ ((0 ≤ i ∧ i ≤ 7) ∧ (0 ≤ t ∧ t ≤ 7)) then -1 else if i = t then -3 else 0
theorem shR_0 {i t : Int} (h : shR i t = 0) : ((0 ≤ i ∧ i ≤ 7) ∧ (0 ≤ t ∧ t ≤ 7)) ∧ ¬ i = t := by
  unfold shR at h
  by_cases c1 : (0 ≤ i ∧ i ≤ 7) ∧ (0 ≤ t ∧ t ≤ 7)
  · rw [if_neg (fun f => f c1)] at h
    by_cases c3 : i = t
    · rw [if_pos c3] at h; omega
    · exact ⟨c1, c3⟩
  · rw [if_pos c1] at h; omega
/-- the delay between two nodes, in the class -/
def dl8 (M : Mem) (i k : Int) : Int := if lk8 M i k = -9 then 0 else M 4 (lk8 M i k)
def onS (M : Mem) (f : Vec) (i k : Int) : Prop := ¬ k = -9 ∧ ¬ f i = -9 ∧ ¬ f k = -9 ∧ f k + dl8 M i k = f i
noncomputable def onb (M : Mem) (f : Vec) (i k : Int) : Int := @ite _ (onS M f i k) (Classical.propDecidable _) 1 0
/-- what of a node and an aim counts as right, in the class -/
noncomputable def rt8 (M : Mem) (d i : Int) : Int := if i = d then 0 else onb M (bfN (M 2) (M 3) (M 4) d 7) i (grF (bs (M (17 + 3 * (i * 8 + d)) 2)) (M (18 + 3 * (i * 8 + d))) 8)
def kk9 (M : Mem) (x : Int) : Int := grF (nbm M (x / 8)) (getv M 254 (8 * x)) 8
def rt9 (M : Mem) (x : Int) : Int := if x / 8 = x % 8 then 0 else if ff9 M 8 x < 1000000 then (if M 252 (M 253 (8 * (x / 8) + kk9 M x)) + ff9 M 8 (8 * kk9 M x + x % 8) = ff9 M 8 x then 1 else 0) else 0
section
variable {E : ET} {S : SCR} {M : Mem}
theorem c_shortest8 {i t : Int} (hi : rg i) (ht : rg t) (hL : LO M) : Ctr E 4 62 [vr 0, vi i, vi t] (toAH S M) (some (vi (if shR i t = 0 then bfN (M 2) (M 3) (M 4) t 7 i else shR i t))) (toAH S (if shR i t = 0 then putv M 6 0 (bfN (M 2) (M 3) (M 4) t 7) else M)) := by
  refine Ctr_f mi_X8_shortest mo_X8_shortest (Nat.le_of_ble_eq_true rfl) ⟨Nat.le_refl _, Nat.le_refl _⟩ (fun g lm => ?_)
  rw [show entL mi_X8_shortest.2.2.1 [vr 0, vi i, vi t] = [some (vr 0), some (vi i), some (vi t)] from rfl]
  refine e_X8_shortest 400 (lfok E (by omega)) ?_
  by_cases h : shR i t = 0
  · obtain ⟨c1, c2⟩ := shR_0 h
    have a1 : b2 (0 ≤ i ∧ i ≤ 7) = 1 := by simp [b2, c1.1]
    have a2 : b2 (0 ≤ t ∧ t ≤ 7) = 1 := by simp [b2, c1.2]
    rw [if_pos h, if_pos h]
    have cM := c_measureTo (E := E) (S := S) (M := M) (aim := t) (by omega) hL
    have n6 : putv M 6 0 (bfN (M 2) (M 3) (M 4) t 7) 6 i = bfN (M 2) (M 3) (M 4) t 7 i := putv_at0 (by omega) (by omega)
    simp +contextual (disch := first | omega | exact Nat.le_of_ble_eq_true rfl | assumption) only [↓r_X8_shortest_0, ↓r_X8_shortest_1, ↓r_X8_shortest_4, ↓r_X8_shortest_7, ↓r_X8_shortest_8, ↓r_X8_shortest_11, ↓r_X8_shortest_14, ↓r_X8_shortest_15, ↓r_X8_shortest_16, ↓r_X8_shortest_17, ↓r_X8_shortest_18, ↓r_X8_shortest_21, ↓r_X8_shortest_23, ↓r_X8_shortest_24, ↓r_X8_shortest_25, ↓r_X8_shortest_28, ↓r_X8_shortest_29, ↓r_X8_shortest_32, ↓r_X8_shortest_33, ↓r_X8_shortest_36, ↓r_X8_shortest_39, ↓r_X8_shortest_40, ↓r_X8_shortest_41, ↓x1_1, ↓lf_X8_isNode, ↓x31_0, ↓x31b0, ↓x1_2, ↓x31_1, ↓x31b1, ↓x0, ↓x48_0, ↓x32_1, ↓x2_0, ↓f8_0, ↓v3_2, ↓f3_4, ↓l_2, ↓l_3, ↓l_4, ↓l_5, ↓l_6, ↓l_7, ↓l_9, ↓l_10, ↓l_11, ↓l_12, ↓l_13, ↓l_15, ↓l_16, ↓l_r1, ↓l_r2, ↓l_w1, ↓l_w2, and_self, and_true, true_and, implies_true, true_implies, Int.reduceEq, Int.reduceLE, Int.reduceLT, not_true_eq_false, not_false_eq_true, false_implies, RTf_eq, a1, a2]
    refine ⟨fun _ => ?_, fun q => absurd c2 q⟩
    refine ck_v cM (by omega) (by simp) ?_
    simp +contextual (disch := first | omega | exact Nat.le_of_ble_eq_true rfl | assumption) only [↓r_X8_shortest_0, ↓r_X8_shortest_1, ↓r_X8_shortest_4, ↓r_X8_shortest_7, ↓r_X8_shortest_8, ↓r_X8_shortest_11, ↓r_X8_shortest_14, ↓r_X8_shortest_15, ↓r_X8_shortest_16, ↓r_X8_shortest_17, ↓r_X8_shortest_18, ↓r_X8_shortest_21, ↓r_X8_shortest_23, ↓r_X8_shortest_24, ↓r_X8_shortest_25, ↓r_X8_shortest_28, ↓r_X8_shortest_29, ↓r_X8_shortest_32, ↓r_X8_shortest_33, ↓r_X8_shortest_36, ↓r_X8_shortest_39, ↓r_X8_shortest_40, ↓r_X8_shortest_41, ↓x1_1, ↓lf_X8_isNode, ↓x31_0, ↓x31b0, ↓x1_2, ↓x31_1, ↓x31b1, ↓x0, ↓x48_0, ↓x32_1, ↓x2_0, ↓f8_0, ↓v3_2, ↓f3_4, ↓l_2, ↓l_3, ↓l_4, ↓l_5, ↓l_6, ↓l_7, ↓l_9, ↓l_10, ↓l_11, ↓l_12, ↓l_13, ↓l_15, ↓l_16, ↓l_r1, ↓l_r2, ↓l_w1, ↓l_w2, and_self, and_true, true_and, implies_true, true_implies, Int.reduceEq, Int.reduceLE, Int.reduceLT, not_true_eq_false, not_false_eq_true, false_implies, RTf_eq, n6]
  · rw [if_neg h, if_neg h]
    obtain ⟨A, hA⟩ : ∃ A, A = shR i t := ⟨_, rfl⟩
    rw [← hA] at h ⊢
    unfold shR at hA
    by_cases c1 : (0 ≤ i ∧ i ≤ 7) ∧ (0 ≤ t ∧ t ≤ 7)
    · have a1 : b2 (0 ≤ i ∧ i ≤ 7) = 1 := by simp [b2, c1.1]
      have a2 : b2 (0 ≤ t ∧ t ≤ 7) = 1 := by simp [b2, c1.2]
      rw [if_neg (fun f => f c1)] at hA
      by_cases c3 : i = t
      · rw [if_pos c3] at hA
        subst hA
        simp +contextual (disch := first | omega | exact Nat.le_of_ble_eq_true rfl | assumption) only [↓r_X8_shortest_0, ↓r_X8_shortest_1, ↓r_X8_shortest_4, ↓r_X8_shortest_7, ↓r_X8_shortest_8, ↓r_X8_shortest_11, ↓r_X8_shortest_14, ↓r_X8_shortest_15, ↓r_X8_shortest_16, ↓r_X8_shortest_17, ↓r_X8_shortest_18, ↓r_X8_shortest_21, ↓r_X8_shortest_23, ↓r_X8_shortest_24, ↓r_X8_shortest_25, ↓r_X8_shortest_28, ↓r_X8_shortest_29, ↓r_X8_shortest_32, ↓r_X8_shortest_33, ↓r_X8_shortest_36, ↓r_X8_shortest_39, ↓r_X8_shortest_40, ↓r_X8_shortest_41, ↓x1_1, ↓lf_X8_isNode, ↓x31_0, ↓x31b0, ↓x1_2, ↓x31_1, ↓x31b1, ↓x0, ↓x48_0, ↓x32_1, ↓x2_0, ↓f8_0, ↓v3_2, ↓f3_4, ↓l_2, ↓l_3, ↓l_4, ↓l_5, ↓l_6, ↓l_7, ↓l_9, ↓l_10, ↓l_11, ↓l_12, ↓l_13, ↓l_15, ↓l_16, ↓l_r1, ↓l_r2, ↓l_w1, ↓l_w2, and_self, and_true, true_and, implies_true, true_implies, Int.reduceEq, Int.reduceLE, Int.reduceLT, not_true_eq_false, not_false_eq_true, false_implies, RTf_eq, a1, a2]
        (repeat' first | rfl | (refine And.intro ?_ ?_) | intro _ | (exfalso; omega))
      · rw [if_neg c3] at hA; exact absurd hA h
    · rw [if_pos c1] at hA
      subst hA
      simp +contextual (disch := first | omega | exact Nat.le_of_ble_eq_true rfl | assumption) only [↓r_X8_shortest_0, ↓r_X8_shortest_1, ↓r_X8_shortest_4, ↓r_X8_shortest_7, ↓r_X8_shortest_8, ↓r_X8_shortest_11, ↓r_X8_shortest_14, ↓r_X8_shortest_15, ↓r_X8_shortest_16, ↓r_X8_shortest_17, ↓r_X8_shortest_18, ↓r_X8_shortest_21, ↓r_X8_shortest_23, ↓r_X8_shortest_24, ↓r_X8_shortest_25, ↓r_X8_shortest_28, ↓r_X8_shortest_29, ↓r_X8_shortest_32, ↓r_X8_shortest_33, ↓r_X8_shortest_36, ↓r_X8_shortest_39, ↓r_X8_shortest_40, ↓r_X8_shortest_41, ↓x1_1, ↓lf_X8_isNode, ↓x31_0, ↓x31b0, ↓x1_2, ↓x31_1, ↓x31b1, ↓x0, ↓x48_0, ↓x32_1, ↓x2_0, ↓f8_0, ↓v3_2, ↓f3_4, ↓l_2, ↓l_3, ↓l_4, ↓l_5, ↓l_6, ↓l_7, ↓l_9, ↓l_10, ↓l_11, ↓l_12, ↓l_13, ↓l_15, ↓l_16, ↓l_r1, ↓l_r2, ↓l_w1, ↓l_w2, and_self, and_true, true_and, implies_true, true_implies, Int.reduceEq, Int.reduceLE, Int.reduceLT, not_true_eq_false, not_false_eq_true, false_implies, RTf_eq]
      (repeat' first | rfl | (refine And.intro ?_ ?_) | intro _ | (exfalso; omega))
theorem c_shortest9 {i t : Int} (hi : rg i) (ht : rg t) (hL : ∀ z, 0 ≤ z → z < 64 → M 253 z = -9 ∨ (0 ≤ M 253 z ∧ M 253 z < 16)) (hw : WM (w9 M)) : Ctr E 4 141 [vr 248, vi i, vi t] (toAH S M) (some (vi (if shR i t = 0 then (if fw (w9 M) 8 i t < 1000000 then fw (w9 M) 8 i t else -9) else shR i t))) (toAH S (if shR i t = 0 then p64 M (ff9 M 8) else M)) := by
  refine Ctr_f mi_X9_shortest mo_X9_shortest (Nat.le_of_ble_eq_true rfl) ⟨Nat.le_refl _, Nat.le_refl _⟩ (fun g lm => ?_)
  rw [show entL mi_X9_shortest.2.2.1 [vr 248, vi i, vi t] = [some (vr 248), some (vi i), some (vi t)] from rfl]
  refine e_X9_shortest 400 (lfok E (by omega)) ?_
  by_cases h : shR i t = 0
  · obtain ⟨c1, c2⟩ := shR_0 h
    have a1 : b2 (0 ≤ i ∧ i ≤ 7) = 1 := by simp [b2, c1.1]
    have a2 : b2 (0 ≤ t ∧ t ≤ 7) = 1 := by simp [b2, c1.2]
    rw [if_pos h, if_pos h]
    have cM := c_findFar (E := E) (S := S) (M := M) hL hw
    have n6 : p64 M (ff9 M 8) 274 (8 * i + t) = fw (w9 M) 8 i t := by
      rw [p64_at (by omega) (by omega)]; unfold ff9
      rw [show (8 * i + t) / 8 = i by omega, show (8 * i + t) % 8 = t by omega]
    obtain ⟨fa, fb, fc, fd, fe, ff⟩ := fw_ok hw 8 (by omega)
    have b0 := fb i t (by omega) (by omega) (by omega) (by omega)
    obtain ⟨v, ev⟩ : ∃ v, v = fw (w9 M) 8 i t := ⟨_, rfl⟩
    rw [← ev] at n6 b0 ⊢
    obtain ⟨A, hA⟩ : ∃ A, A = (if v < 1000000 then v else -9) := ⟨_, rfl⟩
    rw [← hA]
    simp +contextual (disch := first | omega | exact Nat.le_of_ble_eq_true rfl | assumption) only [↓r_X9_shortest_0, ↓r_X9_shortest_1, ↓r_X9_shortest_4, ↓r_X9_shortest_7, ↓r_X9_shortest_8, ↓r_X9_shortest_11, ↓r_X9_shortest_14, ↓r_X9_shortest_15, ↓r_X9_shortest_16, ↓r_X9_shortest_17, ↓r_X9_shortest_18, ↓r_X9_shortest_21, ↓r_X9_shortest_23, ↓r_X9_shortest_24, ↓r_X9_shortest_25, ↓r_X9_shortest_28, ↓r_X9_shortest_29, ↓r_X9_shortest_32, ↓r_X9_shortest_34, ↓r_X9_shortest_35, ↓r_X9_shortest_36, ↓r_X9_shortest_37, ↓r_X9_shortest_38, ↓r_X9_shortest_39, ↓r_X9_shortest_41, ↓r_X9_shortest_44, ↓r_X9_shortest_46, ↓r_X9_shortest_49, ↓r_X9_shortest_50, ↓r_X9_shortest_53, ↓r_X9_shortest_55, ↓r_X9_shortest_56, ↓r_X9_shortest_57, ↓r_X9_shortest_58, ↓r_X9_shortest_59, ↓r_X9_shortest_60, ↓x1_1, ↓lf_X9_isNode, ↓x31_0, ↓x31b0, ↓x1_2, ↓x31_1, ↓x31b1, ↓x0, ↓x48_0, ↓x32_1, ↓x2_0, ↓v9_1, ↓f9_33, ↓x10, ↓x8, ↓x32_2, ↓x33, ↓l_249, ↓l_250, ↓l_251, ↓l_252, ↓l_253, ↓l_254, ↓l_255, ↓l_256, ↓l_257, ↓l_258, ↓l_259, ↓l_260, ↓l_261, ↓l_262, ↓l_263, ↓l_264, ↓l_265, ↓l_266, ↓l_267, ↓l_268, ↓l_269, ↓l_270, ↓l_271, ↓l_272, ↓l_273, ↓l_274, and_self, and_true, true_and, implies_true, true_implies, Int.reduceEq, Int.reduceLE, Int.reduceLT, not_true_eq_false, not_false_eq_true, false_implies, RTf_eq, a1, a2]
    refine ⟨fun _ => ?_, fun q => absurd c2 q⟩
    refine ck_v cM (by omega) (by simp) ?_
    simp +contextual (disch := first | omega | exact Nat.le_of_ble_eq_true rfl | assumption) only [↓r_X9_shortest_0, ↓r_X9_shortest_1, ↓r_X9_shortest_4, ↓r_X9_shortest_7, ↓r_X9_shortest_8, ↓r_X9_shortest_11, ↓r_X9_shortest_14, ↓r_X9_shortest_15, ↓r_X9_shortest_16, ↓r_X9_shortest_17, ↓r_X9_shortest_18, ↓r_X9_shortest_21, ↓r_X9_shortest_23, ↓r_X9_shortest_24, ↓r_X9_shortest_25, ↓r_X9_shortest_28, ↓r_X9_shortest_29, ↓r_X9_shortest_32, ↓r_X9_shortest_34, ↓r_X9_shortest_35, ↓r_X9_shortest_36, ↓r_X9_shortest_37, ↓r_X9_shortest_38, ↓r_X9_shortest_39, ↓r_X9_shortest_41, ↓r_X9_shortest_44, ↓r_X9_shortest_46, ↓r_X9_shortest_49, ↓r_X9_shortest_50, ↓r_X9_shortest_53, ↓r_X9_shortest_55, ↓r_X9_shortest_56, ↓r_X9_shortest_57, ↓r_X9_shortest_58, ↓r_X9_shortest_59, ↓r_X9_shortest_60, ↓x1_1, ↓lf_X9_isNode, ↓x31_0, ↓x31b0, ↓x1_2, ↓x31_1, ↓x31b1, ↓x0, ↓x48_0, ↓x32_1, ↓x2_0, ↓v9_1, ↓f9_33, ↓x10, ↓x8, ↓x32_2, ↓x33, ↓l_249, ↓l_250, ↓l_251, ↓l_252, ↓l_253, ↓l_254, ↓l_255, ↓l_256, ↓l_257, ↓l_258, ↓l_259, ↓l_260, ↓l_261, ↓l_262, ↓l_263, ↓l_264, ↓l_265, ↓l_266, ↓l_267, ↓l_268, ↓l_269, ↓l_270, ↓l_271, ↓l_272, ↓l_273, ↓l_274, and_self, and_true, true_and, implies_true, true_implies, Int.reduceEq, Int.reduceLE, Int.reduceLT, not_true_eq_false, not_false_eq_true, false_implies, RTf_eq, n6]
    exact ⟨fun q => by rw [hA, if_pos q], fun q => by rw [hA, if_neg q]⟩
  · rw [if_neg h, if_neg h]
    obtain ⟨A, hA⟩ : ∃ A, A = shR i t := ⟨_, rfl⟩
    rw [← hA] at h ⊢
    unfold shR at hA
    by_cases c1 : (0 ≤ i ∧ i ≤ 7) ∧ (0 ≤ t ∧ t ≤ 7)
    · have a1 : b2 (0 ≤ i ∧ i ≤ 7) = 1 := by simp [b2, c1.1]
      have a2 : b2 (0 ≤ t ∧ t ≤ 7) = 1 := by simp [b2, c1.2]
      rw [if_neg (fun f => f c1)] at hA
      by_cases c3 : i = t
      · rw [if_pos c3] at hA
        subst hA
        simp +contextual (disch := first | omega | exact Nat.le_of_ble_eq_true rfl | assumption) only [↓r_X9_shortest_0, ↓r_X9_shortest_1, ↓r_X9_shortest_4, ↓r_X9_shortest_7, ↓r_X9_shortest_8, ↓r_X9_shortest_11, ↓r_X9_shortest_14, ↓r_X9_shortest_15, ↓r_X9_shortest_16, ↓r_X9_shortest_17, ↓r_X9_shortest_18, ↓r_X9_shortest_21, ↓r_X9_shortest_23, ↓r_X9_shortest_24, ↓r_X9_shortest_25, ↓r_X9_shortest_28, ↓r_X9_shortest_29, ↓r_X9_shortest_32, ↓r_X9_shortest_34, ↓r_X9_shortest_35, ↓r_X9_shortest_36, ↓r_X9_shortest_37, ↓r_X9_shortest_38, ↓r_X9_shortest_39, ↓r_X9_shortest_41, ↓r_X9_shortest_44, ↓r_X9_shortest_46, ↓r_X9_shortest_49, ↓r_X9_shortest_50, ↓r_X9_shortest_53, ↓r_X9_shortest_55, ↓r_X9_shortest_56, ↓r_X9_shortest_57, ↓r_X9_shortest_58, ↓r_X9_shortest_59, ↓r_X9_shortest_60, ↓x1_1, ↓lf_X9_isNode, ↓x31_0, ↓x31b0, ↓x1_2, ↓x31_1, ↓x31b1, ↓x0, ↓x48_0, ↓x32_1, ↓x2_0, ↓v9_1, ↓f9_33, ↓x10, ↓x8, ↓x32_2, ↓x33, ↓l_249, ↓l_250, ↓l_251, ↓l_252, ↓l_253, ↓l_254, ↓l_255, ↓l_256, ↓l_257, ↓l_258, ↓l_259, ↓l_260, ↓l_261, ↓l_262, ↓l_263, ↓l_264, ↓l_265, ↓l_266, ↓l_267, ↓l_268, ↓l_269, ↓l_270, ↓l_271, ↓l_272, ↓l_273, ↓l_274, and_self, and_true, true_and, implies_true, true_implies, Int.reduceEq, Int.reduceLE, Int.reduceLT, not_true_eq_false, not_false_eq_true, false_implies, RTf_eq, a1, a2]
        (repeat' first | rfl | (refine And.intro ?_ ?_) | intro _ | (exfalso; omega))
      · rw [if_neg c3] at hA; exact absurd hA h
    · rw [if_pos c1] at hA
      subst hA
      simp +contextual (disch := first | omega | exact Nat.le_of_ble_eq_true rfl | assumption) only [↓r_X9_shortest_0, ↓r_X9_shortest_1, ↓r_X9_shortest_4, ↓r_X9_shortest_7, ↓r_X9_shortest_8, ↓r_X9_shortest_11, ↓r_X9_shortest_14, ↓r_X9_shortest_15, ↓r_X9_shortest_16, ↓r_X9_shortest_17, ↓r_X9_shortest_18, ↓r_X9_shortest_21, ↓r_X9_shortest_23, ↓r_X9_shortest_24, ↓r_X9_shortest_25, ↓r_X9_shortest_28, ↓r_X9_shortest_29, ↓r_X9_shortest_32, ↓r_X9_shortest_34, ↓r_X9_shortest_35, ↓r_X9_shortest_36, ↓r_X9_shortest_37, ↓r_X9_shortest_38, ↓r_X9_shortest_39, ↓r_X9_shortest_41, ↓r_X9_shortest_44, ↓r_X9_shortest_46, ↓r_X9_shortest_49, ↓r_X9_shortest_50, ↓r_X9_shortest_53, ↓r_X9_shortest_55, ↓r_X9_shortest_56, ↓r_X9_shortest_57, ↓r_X9_shortest_58, ↓r_X9_shortest_59, ↓r_X9_shortest_60, ↓x1_1, ↓lf_X9_isNode, ↓x31_0, ↓x31b0, ↓x1_2, ↓x31_1, ↓x31b1, ↓x0, ↓x48_0, ↓x32_1, ↓x2_0, ↓v9_1, ↓f9_33, ↓x10, ↓x8, ↓x32_2, ↓x33, ↓l_249, ↓l_250, ↓l_251, ↓l_252, ↓l_253, ↓l_254, ↓l_255, ↓l_256, ↓l_257, ↓l_258, ↓l_259, ↓l_260, ↓l_261, ↓l_262, ↓l_263, ↓l_264, ↓l_265, ↓l_266, ↓l_267, ↓l_268, ↓l_269, ↓l_270, ↓l_271, ↓l_272, ↓l_273, ↓l_274, and_self, and_true, true_and, implies_true, true_implies, Int.reduceEq, Int.reduceLE, Int.reduceLT, not_true_eq_false, not_false_eq_true, false_implies, RTf_eq]
      (repeat' first | rfl | (refine And.intro ?_ ?_) | intro _ | (exfalso; omega))
theorem c_isOnShortest {i k : Int} {f : Vec} (hL : LO M) (hi : 0 ≤ i ∧ i < 8) (hk : k = -9 ∨ (0 ≤ k ∧ k < 8)) (hf : BB 100000 f) : Ctr E 4 15 [vr 1, vi i, vi k] (toAH S (putv M 6 0 f)) (some (vi (onb M f i k))) (toAH S (putv M 6 0 f)) := by
  obtain ⟨h4, h2, h3⟩ := hL
  obtain ⟨N, eN⟩ : ∃ N, N = putv M 6 0 f := ⟨_, rfl⟩
  have o : ∀ c z, ¬ c = 6 → N c z = M c z := fun c z h => by rw [eN]; exact putv_ne h
  have ni : N 6 i = f i := by rw [eN, putv_at0 hi.1 hi.2]
  have fi' := hf i hi.1 hi.2
  have cD := c_delayBetween (E := E) (S := S) (M := N) (x := i) (y := k) ⟨by omega, by omega⟩ ⟨by omega, by omega⟩ (fun z a b => by rw [o 4 z (by omega)]; have := h4 z a b; exact ⟨by omega, by omega⟩) (fun z a b => by rw [o 2 z (by omega)]; have := h2 z a b; exact ⟨by omega, by omega⟩) (fun z a b => by rw [o 3 z (by omega)]; have := h3 z a b; exact ⟨by omega, by omega⟩)
  rw [show btB N (min i k) (max i k) = btB M (min i k) (max i k) from by unfold btB; funext l; rw [o 4 l (by omega), o 2 l (by omega), o 3 l (by omega)]] at cD
  rw [show (if fi (btB M (min i k) (max i k)) 0 16 = -9 then 0 else N 4 (fi (btB M (min i k) (max i k)) 0 16)) = dl8 M i k by rw [o 4 _ (by omega)]; rfl] at cD
  have dr : 0 ≤ dl8 M i k ∧ dl8 M i k ≤ 60 := by
    have lr := fi_rng (p := btB M (min i k) (max i k)) 16 0 (by omega)
    unfold dl8
    split
    · omega
    · rename_i q
      rcases lr with z | z
      · exact absurd z q
      · exact h4 _ (by have := z.1; exact this) (by have := z.2.1; unfold lk8; omega)
  rw [← eN]
  have eA1 : onS M f i k → onb M f i k = 1 := fun h => by unfold onb; rw [if_pos h]
  have eA0 : ¬ onS M f i k → onb M f i k = 0 := fun h => by unfold onb; rw [if_neg h]
  obtain ⟨A, hA⟩ : ∃ A, A = onb M f i k := ⟨_, rfl⟩
  rw [← hA] at eA1 eA0 ⊢
  unfold onS at eA1 eA0
  refine Ctr_f mi_X3_isOnShortest mo_X3_isOnShortest (Nat.le_of_ble_eq_true rfl) ⟨Nat.le_refl _, Nat.le_refl _⟩ (fun g lm => ?_)
  rw [show entL mi_X3_isOnShortest.2.2.1 [vr 1, vi i, vi k] = [some (vr 1), some (vi i), some (vi k)] from rfl]
  refine e_X3_isOnShortest 400 (lfok E (by omega)) ?_
  by_cases c1 : k = -9
  · have := eA0 (fun q => q.1 c1)
    subst this
    simp +contextual (disch := first | omega | exact Nat.le_of_ble_eq_true rfl | assumption) only [↓r_X3_isOnShortest_0, ↓r_X3_isOnShortest_1, ↓r_X3_isOnShortest_3, ↓r_X3_isOnShortest_6, ↓r_X3_isOnShortest_7, ↓r_X3_isOnShortest_10, ↓r_X3_isOnShortest_11, ↓r_X3_isOnShortest_12, ↓r_X3_isOnShortest_14, ↓r_X3_isOnShortest_17, ↓r_X3_isOnShortest_18, ↓r_X3_isOnShortest_21, ↓r_X3_isOnShortest_22, ↓r_X3_isOnShortest_23, ↓r_X3_isOnShortest_25, ↓r_X3_isOnShortest_28, ↓r_X3_isOnShortest_29, ↓r_X3_isOnShortest_30, ↓r_X3_isOnShortest_31, ↓r_X3_isOnShortest_34, ↓r_X3_isOnShortest_35, ↓r_X3_isOnShortest_36, ↓r_X3_isOnShortest_37, ↓r_X3_isOnShortest_38, ↓r_X3_isOnShortest_39, ↓r_X3_isOnShortest_42, ↓r_X3_isOnShortest_43, ↓r_X3_isOnShortest_44, ↓r_X3_isOnShortest_47, ↓r_X3_isOnShortest_48, ↓r_X3_isOnShortest_49, ↓r_X3_isOnShortest_52, ↓r_X3_isOnShortest_53, ↓r_X3_isOnShortest_56, ↓r_X3_isOnShortest_57, ↓x1_2, ↓x0, ↓x32_0, ↓x2_0, ↓f3_4, ↓x1_1, ↓x32_1, ↓x48_1, ↓v3_3, ↓x8, ↓x33, ↓l_2, ↓l_3, ↓l_4, ↓l_5, ↓l_6, ↓l_7, ↓l_9, ↓l_10, ↓l_11, ↓l_12, ↓l_13, ↓l_15, ↓l_16, ↓l_r1, ↓l_r2, ↓l_w1, ↓l_w2, and_self, and_true, true_and, implies_true, true_implies, Int.reduceEq, Int.reduceLE, Int.reduceLT, not_true_eq_false, not_false_eq_true, false_implies, RTf_eq, ni]
    (repeat' first | rfl | (refine And.intro ?_ ?_) | intro _ | (exfalso; omega))
    all_goals simp
  · have hk8 : 0 ≤ k ∧ k < 8 := by omega
    have nk : N 6 k = f k := by rw [eN, putv_at0 hk8.1 hk8.2]
    have fk := hf k hk8.1 hk8.2
    by_cases c2 : f i = -9
    · have := eA0 (fun q => q.2.1 c2)
      subst this
      simp +contextual (disch := first | omega | exact Nat.le_of_ble_eq_true rfl | assumption) only [↓r_X3_isOnShortest_0, ↓r_X3_isOnShortest_1, ↓r_X3_isOnShortest_3, ↓r_X3_isOnShortest_6, ↓r_X3_isOnShortest_7, ↓r_X3_isOnShortest_10, ↓r_X3_isOnShortest_11, ↓r_X3_isOnShortest_12, ↓r_X3_isOnShortest_14, ↓r_X3_isOnShortest_17, ↓r_X3_isOnShortest_18, ↓r_X3_isOnShortest_21, ↓r_X3_isOnShortest_22, ↓r_X3_isOnShortest_23, ↓r_X3_isOnShortest_25, ↓r_X3_isOnShortest_28, ↓r_X3_isOnShortest_29, ↓r_X3_isOnShortest_30, ↓r_X3_isOnShortest_31, ↓r_X3_isOnShortest_34, ↓r_X3_isOnShortest_35, ↓r_X3_isOnShortest_36, ↓r_X3_isOnShortest_37, ↓r_X3_isOnShortest_38, ↓r_X3_isOnShortest_39, ↓r_X3_isOnShortest_42, ↓r_X3_isOnShortest_43, ↓r_X3_isOnShortest_44, ↓r_X3_isOnShortest_47, ↓r_X3_isOnShortest_48, ↓r_X3_isOnShortest_49, ↓r_X3_isOnShortest_52, ↓r_X3_isOnShortest_53, ↓r_X3_isOnShortest_56, ↓r_X3_isOnShortest_57, ↓x1_2, ↓x0, ↓x32_0, ↓x2_0, ↓f3_4, ↓x1_1, ↓x32_1, ↓x48_1, ↓v3_3, ↓x8, ↓x33, ↓l_2, ↓l_3, ↓l_4, ↓l_5, ↓l_6, ↓l_7, ↓l_9, ↓l_10, ↓l_11, ↓l_12, ↓l_13, ↓l_15, ↓l_16, ↓l_r1, ↓l_r2, ↓l_w1, ↓l_w2, and_self, and_true, true_and, implies_true, true_implies, Int.reduceEq, Int.reduceLE, Int.reduceLT, not_true_eq_false, not_false_eq_true, false_implies, RTf_eq, ni, nk]
      (repeat' first | rfl | (refine And.intro ?_ ?_) | intro _ | (exfalso; omega))
      all_goals simp
    · by_cases c3 : f k = -9
      · have := eA0 (fun q => q.2.2.1 c3)
        subst this
        simp +contextual (disch := first | omega | exact Nat.le_of_ble_eq_true rfl | assumption) only [↓r_X3_isOnShortest_0, ↓r_X3_isOnShortest_1, ↓r_X3_isOnShortest_3, ↓r_X3_isOnShortest_6, ↓r_X3_isOnShortest_7, ↓r_X3_isOnShortest_10, ↓r_X3_isOnShortest_11, ↓r_X3_isOnShortest_12, ↓r_X3_isOnShortest_14, ↓r_X3_isOnShortest_17, ↓r_X3_isOnShortest_18, ↓r_X3_isOnShortest_21, ↓r_X3_isOnShortest_22, ↓r_X3_isOnShortest_23, ↓r_X3_isOnShortest_25, ↓r_X3_isOnShortest_28, ↓r_X3_isOnShortest_29, ↓r_X3_isOnShortest_30, ↓r_X3_isOnShortest_31, ↓r_X3_isOnShortest_34, ↓r_X3_isOnShortest_35, ↓r_X3_isOnShortest_36, ↓r_X3_isOnShortest_37, ↓r_X3_isOnShortest_38, ↓r_X3_isOnShortest_39, ↓r_X3_isOnShortest_42, ↓r_X3_isOnShortest_43, ↓r_X3_isOnShortest_44, ↓r_X3_isOnShortest_47, ↓r_X3_isOnShortest_48, ↓r_X3_isOnShortest_49, ↓r_X3_isOnShortest_52, ↓r_X3_isOnShortest_53, ↓r_X3_isOnShortest_56, ↓r_X3_isOnShortest_57, ↓x1_2, ↓x0, ↓x32_0, ↓x2_0, ↓f3_4, ↓x1_1, ↓x32_1, ↓x48_1, ↓v3_3, ↓x8, ↓x33, ↓l_2, ↓l_3, ↓l_4, ↓l_5, ↓l_6, ↓l_7, ↓l_9, ↓l_10, ↓l_11, ↓l_12, ↓l_13, ↓l_15, ↓l_16, ↓l_r1, ↓l_r2, ↓l_w1, ↓l_w2, and_self, and_true, true_and, implies_true, true_implies, Int.reduceEq, Int.reduceLE, Int.reduceLT, not_true_eq_false, not_false_eq_true, false_implies, RTf_eq, ni, nk]
        (repeat' first | rfl | (refine And.intro ?_ ?_) | intro _ | (exfalso; omega))
        all_goals simp
      · simp +contextual (disch := first | omega | exact Nat.le_of_ble_eq_true rfl | assumption) only [↓r_X3_isOnShortest_0, ↓r_X3_isOnShortest_1, ↓r_X3_isOnShortest_3, ↓r_X3_isOnShortest_6, ↓r_X3_isOnShortest_7, ↓r_X3_isOnShortest_10, ↓r_X3_isOnShortest_11, ↓r_X3_isOnShortest_12, ↓r_X3_isOnShortest_14, ↓r_X3_isOnShortest_17, ↓r_X3_isOnShortest_18, ↓r_X3_isOnShortest_21, ↓r_X3_isOnShortest_22, ↓r_X3_isOnShortest_23, ↓r_X3_isOnShortest_25, ↓r_X3_isOnShortest_28, ↓r_X3_isOnShortest_29, ↓r_X3_isOnShortest_30, ↓r_X3_isOnShortest_31, ↓r_X3_isOnShortest_34, ↓r_X3_isOnShortest_35, ↓r_X3_isOnShortest_36, ↓r_X3_isOnShortest_37, ↓r_X3_isOnShortest_38, ↓r_X3_isOnShortest_39, ↓r_X3_isOnShortest_42, ↓r_X3_isOnShortest_43, ↓r_X3_isOnShortest_44, ↓r_X3_isOnShortest_47, ↓r_X3_isOnShortest_48, ↓r_X3_isOnShortest_49, ↓r_X3_isOnShortest_52, ↓r_X3_isOnShortest_53, ↓r_X3_isOnShortest_56, ↓r_X3_isOnShortest_57, ↓x1_2, ↓x0, ↓x32_0, ↓x2_0, ↓f3_4, ↓x1_1, ↓x32_1, ↓x48_1, ↓v3_3, ↓x8, ↓x33, ↓l_2, ↓l_3, ↓l_4, ↓l_5, ↓l_6, ↓l_7, ↓l_9, ↓l_10, ↓l_11, ↓l_12, ↓l_13, ↓l_15, ↓l_16, ↓l_r1, ↓l_r2, ↓l_w1, ↓l_w2, and_self, and_true, true_and, implies_true, true_implies, Int.reduceEq, Int.reduceLE, Int.reduceLT, not_true_eq_false, not_false_eq_true, false_implies, RTf_eq, ni, nk]
        refine ⟨fun q => absurd q c1, fun _ => ⟨fun q => absurd q c2, fun _ => ⟨fun _ => ?_, fun q => absurd c3 q⟩⟩⟩
        refine ck_r cD (by omega) (by simp) ?_
        simp +contextual (disch := first | omega | exact Nat.le_of_ble_eq_true rfl | assumption) only [↓r_X3_isOnShortest_0, ↓r_X3_isOnShortest_1, ↓r_X3_isOnShortest_3, ↓r_X3_isOnShortest_6, ↓r_X3_isOnShortest_7, ↓r_X3_isOnShortest_10, ↓r_X3_isOnShortest_11, ↓r_X3_isOnShortest_12, ↓r_X3_isOnShortest_14, ↓r_X3_isOnShortest_17, ↓r_X3_isOnShortest_18, ↓r_X3_isOnShortest_21, ↓r_X3_isOnShortest_22, ↓r_X3_isOnShortest_23, ↓r_X3_isOnShortest_25, ↓r_X3_isOnShortest_28, ↓r_X3_isOnShortest_29, ↓r_X3_isOnShortest_30, ↓r_X3_isOnShortest_31, ↓r_X3_isOnShortest_34, ↓r_X3_isOnShortest_35, ↓r_X3_isOnShortest_36, ↓r_X3_isOnShortest_37, ↓r_X3_isOnShortest_38, ↓r_X3_isOnShortest_39, ↓r_X3_isOnShortest_42, ↓r_X3_isOnShortest_43, ↓r_X3_isOnShortest_44, ↓r_X3_isOnShortest_47, ↓r_X3_isOnShortest_48, ↓r_X3_isOnShortest_49, ↓r_X3_isOnShortest_52, ↓r_X3_isOnShortest_53, ↓r_X3_isOnShortest_56, ↓r_X3_isOnShortest_57, ↓x1_2, ↓x0, ↓x32_0, ↓x2_0, ↓f3_4, ↓x1_1, ↓x32_1, ↓x48_1, ↓v3_3, ↓x8, ↓x33, ↓l_2, ↓l_3, ↓l_4, ↓l_5, ↓l_6, ↓l_7, ↓l_9, ↓l_10, ↓l_11, ↓l_12, ↓l_13, ↓l_15, ↓l_16, ↓l_r1, ↓l_r2, ↓l_w1, ↓l_w2, and_self, and_true, true_and, implies_true, true_implies, Int.reduceEq, Int.reduceLE, Int.reduceLT, not_true_eq_false, not_false_eq_true, false_implies, RTf_eq, ni, nk]
        refine ⟨fun q => ⟨by simp, ?_⟩, fun q => ⟨by simp, ?_⟩⟩
        · rw [eA0 (fun z => q z.2.2.2)]
        · rw [eA1 ⟨c1, c2, c3, by omega⟩]
def gK (M : Mem) : Nat → Vec
  | 0 => getv M 6 0
  | k + 1 => bfN (M 2) (M 3) (M 4) (k : Int) 7
theorem onb_rng {f : Vec} {i k : Int} : onb M f i k = 0 ∨ onb M f i k = 1 := by
  by_cases h : onS M f i k
  · exact Or.inr (by unfold onb; rw [if_pos h])
  · exact Or.inl (by unfold onb; rw [if_neg h])
theorem rt8_rng {d i : Int} : 0 ≤ rt8 M d i ∧ rt8 M d i ≤ 1 := by
  unfold rt8
  split
  · omega
  · have := onb_rng (M := M) (f := bfN (M 2) (M 3) (M 4) d 7) (i := i) (k := grF (bs (M (17 + 3 * (i * 8 + d)) 2)) (M (18 + 3 * (i * 8 + d))) 8)
    omega
theorem l_right8i {g : GT} {lm : Nat × Nat} {RT : RTy} {d : Nat} {s : Int} (hd : d < 8) (hL : LO M) (hs : ∀ r, 0 ≤ r → r < 64 → 0 ≤ M (17 + 3 * r) 2 ∧ M (17 + 3 * r) 2 < 256) (hsh : ∀ r k, 0 ≤ r → r < 64 → 0 ≤ k → k < 8 → 0 ≤ M (18 + 3 * r) k ∧ M (18 + 3 * r) k ≤ 1000)
    (hr : G E g mi_X8_right 5 lm RT 4 [some (vr 0), some (vi (s + sm (rt8 M (d : Int)) 8)), some (vi ((d : Int) + 1)), some (vi 8)] [] (toAH S (putv M 6 0 (gK M (d + 1))))) :
    ∀ k : Nat, k ≤ 8 → G E g mi_X8_right 5 lm RT 20 [some (vr 0), some (vi (s + sm (rt8 M (d : Int)) k)), some (vi (d : Int)), some (vi (k : Int))] [] (toAH S (putv M 6 0 (gK M (d + 1)))) := by
  have bb := bfN_BB (lo := M 2) (hi := M 3) (dl := M 4) (aim := (d : Int)) (fun l a b => (hL.1 l a b).2) hL.2.1 hL.2.2 7
  refine down ?_ ?_
  · refine q_X8_right_20 400 (lfok E (by omega)) ?_
    simp +contextual (disch := first | omega | exact Nat.le_of_ble_eq_true rfl | assumption) only [↓r_X8_right_0, ↓r_X8_right_1, ↓r_X8_right_2, ↓r_X8_right_3, ↓r_X8_right_4, ↓r_X8_right_5, ↓r_X8_right_7, ↓r_X8_right_10, ↓r_X8_right_11, ↓r_X8_right_14, ↓r_X8_right_15, ↓r_X8_right_18, ↓r_X8_right_19, ↓r_X8_right_20, ↓r_X8_right_21, ↓r_X8_right_23, ↓r_X8_right_26, ↓r_X8_right_27, ↓r_X8_right_28, ↓r_X8_right_31, ↓r_X8_right_32, ↓r_X8_right_35, ↓r_X8_right_36, ↓r_X8_right_37, ↓r_X8_right_38, ↓r_X8_right_39, ↓r_X8_right_42, ↓r_X8_right_45, ↓r_X8_right_48, ↓r_X8_right_51, ↓r_X8_right_54, ↓r_X8_right_57, ↓r_X8_right_60, ↓r_X8_right_63, ↓r_X8_right_66, ↓r_X8_right_67, ↓x0, ↓x4_1n, ↓x4_1i, ↓x4_1r, ↓x4_2n, ↓x4_2i, ↓x4_2r, ↓x1_2, ↓x32_3, ↓x2_0, ↓f8_0, ↓v3_2, ↓x4_3n, ↓x4_3i, ↓x4_3r, ↓x1_3, ↓x32_0, ↓lf_X8_rowOf, ↓v5_1, ↓v3_3, ↓x31_0, ↓x31b0, ↓x7_1n, ↓x7_1i, ↓x7_1r, ↓x7_3n, ↓x7_3i, ↓x7_3r, ↓x33, ↓x7_2n, ↓x7_2i, ↓x7_2r, ↓x1_1, ↓x48_0, and_self, and_true, true_and, implies_true, true_implies, Int.reduceEq, Int.reduceLE, Int.reduceLT, not_true_eq_false, not_false_eq_true, false_implies, RTf_eq]
    exact ⟨fun _ => hr, fun q => absurd (by omega) q⟩
  · intro k hk ih
    have eS : sm (rt8 M (d : Int)) (k + 1) = sm (rt8 M (d : Int)) k + rt8 M (d : Int) (k : Int) := rfl
    rw [eS] at ih
    refine q_X8_right_20 400 (lfok E (by omega)) ?_
    by_cases c : (k : Int) = (d : Int)
    · rw [show rt8 M (d : Int) (k : Int) = 0 by unfold rt8; rw [if_pos c], Int.add_zero] at ih
      simp +contextual (disch := first | omega | exact Nat.le_of_ble_eq_true rfl | assumption) only [↓r_X8_right_0, ↓r_X8_right_1, ↓r_X8_right_2, ↓r_X8_right_3, ↓r_X8_right_4, ↓r_X8_right_5, ↓r_X8_right_7, ↓r_X8_right_10, ↓r_X8_right_11, ↓r_X8_right_14, ↓r_X8_right_15, ↓r_X8_right_18, ↓r_X8_right_19, ↓r_X8_right_20, ↓r_X8_right_21, ↓r_X8_right_23, ↓r_X8_right_26, ↓r_X8_right_27, ↓r_X8_right_28, ↓r_X8_right_31, ↓r_X8_right_32, ↓r_X8_right_35, ↓r_X8_right_36, ↓r_X8_right_37, ↓r_X8_right_38, ↓r_X8_right_39, ↓r_X8_right_42, ↓r_X8_right_45, ↓r_X8_right_48, ↓r_X8_right_51, ↓r_X8_right_54, ↓r_X8_right_57, ↓r_X8_right_60, ↓r_X8_right_63, ↓r_X8_right_66, ↓r_X8_right_67, ↓x0, ↓x4_1n, ↓x4_1i, ↓x4_1r, ↓x4_2n, ↓x4_2i, ↓x4_2r, ↓x1_2, ↓x32_3, ↓x2_0, ↓f8_0, ↓v3_2, ↓x4_3n, ↓x4_3i, ↓x4_3r, ↓x1_3, ↓x32_0, ↓lf_X8_rowOf, ↓v5_1, ↓v3_3, ↓x31_0, ↓x31b0, ↓x7_1n, ↓x7_1i, ↓x7_1r, ↓x7_3n, ↓x7_3i, ↓x7_3r, ↓x33, ↓x7_2n, ↓x7_2i, ↓x7_2r, ↓x1_1, ↓x48_0, and_self, and_true, true_and, implies_true, true_implies, Int.reduceEq, Int.reduceLE, Int.reduceLT, not_true_eq_false, not_false_eq_true, false_implies, RTf_eq]
      refine ⟨fun q => by omega, fun _ => ⟨fun _ => ?_, fun q => absurd c q⟩⟩
      rw [← c]
      rw [← c] at ih
      exact ih
    · obtain ⟨r, er⟩ : ∃ r : Int, r = (k : Int) * 8 + (d : Int) := ⟨_, rfl⟩
      have e5 : rt8 M (d : Int) (k : Int) = onb M (bfN (M 2) (M 3) (M 4) (d : Int) 7) (k : Int) (grF (bs (M (17 + 3 * r) 2)) (M (18 + 3 * r)) 8) := by
        unfold rt8; rw [if_neg c, er]
      have o : ∀ c z, ¬ c = 6 → putv M 6 0 (gK M (d + 1)) c z = M c z := fun c z h => putv_ne h
      have o2 := o (17 + 3 * r) 2 (by omega)
      have o18 : putv M 6 0 (gK M (d + 1)) (18 + 3 * r) = M (18 + 3 * r) := by funext z; exact o _ z (by omega)
      have cG := c_greatest5 (E := E) (S := S) (M := putv M 6 0 (gK M (d + 1))) (r := r) (by omega) (by rw [o2]; exact hs r (by omega) (by omega)) (fun j a b => by rw [o18]; have := hsh r j (by omega) (by omega) a b; exact ⟨by omega, by omega⟩)
      rw [o2, o18] at cG
      have gr := grF_rng (bs (M (17 + 3 * r) 2)) (M (18 + 3 * r)) 8
      have cO := c_isOnShortest (E := E) (S := S) (M := M) (i := (k : Int)) (k := grF (bs (M (17 + 3 * r) 2)) (M (18 + 3 * r)) 8) (f := gK M (d + 1)) hL (by omega) (by omega) (fun j a b => by have := bb j a b; show -9 ≤ bfN (M 2) (M 3) (M 4) (d : Int) 7 j ∧ bfN (M 2) (M 3) (M 4) (d : Int) 7 j ≤ 100000; exact ⟨this.1, by omega⟩)
      rw [show onb M (gK M (d + 1)) (k : Int) (grF (bs (M (17 + 3 * r) 2)) (M (18 + 3 * r)) 8) = rt8 M (d : Int) (k : Int) by rw [e5]; rfl] at cO
      have rr := rt8_rng (M := M) (d := (d : Int)) (i := (k : Int))
      obtain ⟨N, eN⟩ : ∃ N, N = putv M 6 0 (gK M (d + 1)) := ⟨_, rfl⟩
      rw [← eN] at cG cO ih ⊢
      obtain ⟨x, ex⟩ : ∃ x, x = rt8 M (d : Int) (k : Int) := ⟨_, rfl⟩
      rw [← ex] at cO ih rr
      simp +contextual (disch := first | omega | exact Nat.le_of_ble_eq_true rfl | assumption) only [↓r_X8_right_0, ↓r_X8_right_1, ↓r_X8_right_2, ↓r_X8_right_3, ↓r_X8_right_4, ↓r_X8_right_5, ↓r_X8_right_7, ↓r_X8_right_10, ↓r_X8_right_11, ↓r_X8_right_14, ↓r_X8_right_15, ↓r_X8_right_18, ↓r_X8_right_19, ↓r_X8_right_20, ↓r_X8_right_21, ↓r_X8_right_23, ↓r_X8_right_26, ↓r_X8_right_27, ↓r_X8_right_28, ↓r_X8_right_31, ↓r_X8_right_32, ↓r_X8_right_35, ↓r_X8_right_36, ↓r_X8_right_37, ↓r_X8_right_38, ↓r_X8_right_39, ↓r_X8_right_42, ↓r_X8_right_45, ↓r_X8_right_48, ↓r_X8_right_51, ↓r_X8_right_54, ↓r_X8_right_57, ↓r_X8_right_60, ↓r_X8_right_63, ↓r_X8_right_66, ↓r_X8_right_67, ↓x0, ↓x4_1n, ↓x4_1i, ↓x4_1r, ↓x4_2n, ↓x4_2i, ↓x4_2r, ↓x1_2, ↓x32_3, ↓x2_0, ↓f8_0, ↓v3_2, ↓x4_3n, ↓x4_3i, ↓x4_3r, ↓x1_3, ↓x32_0, ↓lf_X8_rowOf, ↓v5_1, ↓v3_3, ↓x31_0, ↓x31b0, ↓x7_1n, ↓x7_1i, ↓x7_1r, ↓x7_3n, ↓x7_3i, ↓x7_3r, ↓x33, ↓x7_2n, ↓x7_2i, ↓x7_2r, ↓x1_1, ↓x48_0, and_self, and_true, true_and, implies_true, true_implies, Int.reduceEq, Int.reduceLE, Int.reduceLT, not_true_eq_false, not_false_eq_true, false_implies, RTf_eq, ← er]
      refine ⟨fun q => by omega, fun _ => ⟨fun q => absurd q c, fun _ => ?_⟩⟩
      refine ck_r cG (by omega) (by simp) ?_
      simp +contextual (disch := first | omega | exact Nat.le_of_ble_eq_true rfl | assumption) only [↓r_X8_right_0, ↓r_X8_right_1, ↓r_X8_right_2, ↓r_X8_right_3, ↓r_X8_right_4, ↓r_X8_right_5, ↓r_X8_right_7, ↓r_X8_right_10, ↓r_X8_right_11, ↓r_X8_right_14, ↓r_X8_right_15, ↓r_X8_right_18, ↓r_X8_right_19, ↓r_X8_right_20, ↓r_X8_right_21, ↓r_X8_right_23, ↓r_X8_right_26, ↓r_X8_right_27, ↓r_X8_right_28, ↓r_X8_right_31, ↓r_X8_right_32, ↓r_X8_right_35, ↓r_X8_right_36, ↓r_X8_right_37, ↓r_X8_right_38, ↓r_X8_right_39, ↓r_X8_right_42, ↓r_X8_right_45, ↓r_X8_right_48, ↓r_X8_right_51, ↓r_X8_right_54, ↓r_X8_right_57, ↓r_X8_right_60, ↓r_X8_right_63, ↓r_X8_right_66, ↓r_X8_right_67, ↓x0, ↓x4_1n, ↓x4_1i, ↓x4_1r, ↓x4_2n, ↓x4_2i, ↓x4_2r, ↓x1_2, ↓x32_3, ↓x2_0, ↓f8_0, ↓v3_2, ↓x4_3n, ↓x4_3i, ↓x4_3r, ↓x1_3, ↓x32_0, ↓lf_X8_rowOf, ↓v5_1, ↓v3_3, ↓x31_0, ↓x31b0, ↓x7_1n, ↓x7_1i, ↓x7_1r, ↓x7_3n, ↓x7_3i, ↓x7_3r, ↓x33, ↓x7_2n, ↓x7_2i, ↓x7_2r, ↓x1_1, ↓x48_0, and_self, and_true, true_and, implies_true, true_implies, Int.reduceEq, Int.reduceLE, Int.reduceLT, not_true_eq_false, not_false_eq_true, false_implies, RTf_eq]
      refine ck_r cO (by omega) (by simp) ?_
      simp +contextual (disch := first | omega | exact Nat.le_of_ble_eq_true rfl | assumption) only [↓r_X8_right_0, ↓r_X8_right_1, ↓r_X8_right_2, ↓r_X8_right_3, ↓r_X8_right_4, ↓r_X8_right_5, ↓r_X8_right_7, ↓r_X8_right_10, ↓r_X8_right_11, ↓r_X8_right_14, ↓r_X8_right_15, ↓r_X8_right_18, ↓r_X8_right_19, ↓r_X8_right_20, ↓r_X8_right_21, ↓r_X8_right_23, ↓r_X8_right_26, ↓r_X8_right_27, ↓r_X8_right_28, ↓r_X8_right_31, ↓r_X8_right_32, ↓r_X8_right_35, ↓r_X8_right_36, ↓r_X8_right_37, ↓r_X8_right_38, ↓r_X8_right_39, ↓r_X8_right_42, ↓r_X8_right_45, ↓r_X8_right_48, ↓r_X8_right_51, ↓r_X8_right_54, ↓r_X8_right_57, ↓r_X8_right_60, ↓r_X8_right_63, ↓r_X8_right_66, ↓r_X8_right_67, ↓x0, ↓x4_1n, ↓x4_1i, ↓x4_1r, ↓x4_2n, ↓x4_2i, ↓x4_2r, ↓x1_2, ↓x32_3, ↓x2_0, ↓f8_0, ↓v3_2, ↓x4_3n, ↓x4_3i, ↓x4_3r, ↓x1_3, ↓x32_0, ↓lf_X8_rowOf, ↓v5_1, ↓v3_3, ↓x31_0, ↓x31b0, ↓x7_1n, ↓x7_1i, ↓x7_1r, ↓x7_3n, ↓x7_3i, ↓x7_3r, ↓x33, ↓x7_2n, ↓x7_2i, ↓x7_2r, ↓x1_1, ↓x48_0, and_self, and_true, true_and, implies_true, true_implies, Int.reduceEq, Int.reduceLE, Int.reduceLT, not_true_eq_false, not_false_eq_true, false_implies, RTf_eq]
      refine ⟨fun q => ?_, fun q => ?_⟩
      · rw [show s + (sm (rt8 M (d : Int)) k + x) = s + sm (rt8 M (d : Int)) k by omega] at ih
        exact ih
      · rw [show s + (sm (rt8 M (d : Int)) k + x) = s + sm (rt8 M (d : Int)) k + 1 by omega] at ih
        exact ih
theorem l_right8 {g : GT} {lm : Nat × Nat} {RT : RTy} (hL : LO M) (hs : ∀ r, 0 ≤ r → r < 64 → 0 ≤ M (17 + 3 * r) 2 ∧ M (17 + 3 * r) 2 < 256) (hsh : ∀ r k, 0 ≤ r → r < 64 → 0 ≤ k → k < 8 → 0 ≤ M (18 + 3 * r) k ∧ M (18 + 3 * r) k ≤ 1000)
    (hr : RT (some (vi (sm (fun d => sm (rt8 M d) 8) 8))) (toAH S (putv M 6 0 (gK M 8)))) :
    ∀ k : Nat, k ≤ 8 → ∀ a3 : Option AV, G E g mi_X8_right 5 lm RT 4 [some (vr 0), some (vi (sm (fun d => sm (rt8 M d) 8) k)), some (vi (k : Int)), a3] [] (toAH S (putv M 6 0 (gK M k))) := by
  refine down ?_ ?_
  · intro a3
    refine q_X8_right_4 400 (lfok E (by omega)) ?_
    simp +contextual (disch := first | omega | exact Nat.le_of_ble_eq_true rfl | assumption) only [↓r_X8_right_0, ↓r_X8_right_1, ↓r_X8_right_2, ↓r_X8_right_3, ↓r_X8_right_4, ↓r_X8_right_5, ↓r_X8_right_7, ↓r_X8_right_10, ↓r_X8_right_11, ↓r_X8_right_14, ↓r_X8_right_15, ↓r_X8_right_18, ↓r_X8_right_19, ↓r_X8_right_20, ↓r_X8_right_21, ↓r_X8_right_23, ↓r_X8_right_26, ↓r_X8_right_27, ↓r_X8_right_28, ↓r_X8_right_31, ↓r_X8_right_32, ↓r_X8_right_35, ↓r_X8_right_36, ↓r_X8_right_37, ↓r_X8_right_38, ↓r_X8_right_39, ↓r_X8_right_42, ↓r_X8_right_45, ↓r_X8_right_48, ↓r_X8_right_51, ↓r_X8_right_54, ↓r_X8_right_57, ↓r_X8_right_60, ↓r_X8_right_63, ↓r_X8_right_66, ↓r_X8_right_67, ↓x0, ↓x4_1n, ↓x4_1i, ↓x4_1r, ↓x4_2n, ↓x4_2i, ↓x4_2r, ↓x1_2, ↓x32_3, ↓x2_0, ↓f8_0, ↓v3_2, ↓x4_3n, ↓x4_3i, ↓x4_3r, ↓x1_3, ↓x32_0, ↓lf_X8_rowOf, ↓v5_1, ↓v3_3, ↓x31_0, ↓x31b0, ↓x7_1n, ↓x7_1i, ↓x7_1r, ↓x7_3n, ↓x7_3i, ↓x7_3r, ↓x33, ↓x7_2n, ↓x7_2i, ↓x7_2r, ↓x1_1, ↓x48_0, and_self, and_true, true_and, implies_true, true_implies, Int.reduceEq, Int.reduceLE, Int.reduceLT, not_true_eq_false, not_false_eq_true, false_implies, RTf_eq]
    exact ⟨fun _ => hr, fun q => absurd (by omega) q⟩
  · intro k hk ih a3
    have ih' := ih (some (vi 8))
    rw [show sm (fun d => sm (rt8 M d) 8) (k + 1) = sm (fun d => sm (rt8 M d) 8) k + sm (rt8 M (k : Int)) 8 from rfl, show (((k + 1 : Nat)) : Int) = (k : Int) + 1 by omega] at ih'
    have hI := l_right8i (E := E) (S := S) (M := M) (g := g) (lm := lm) (RT := RT) hk hL hs hsh ih' 0 (by omega)
    rw [show sm (rt8 M (k : Int)) 0 = 0 from rfl, Int.add_zero] at hI
    have o : ∀ c z, ¬ c = 6 → putv M 6 0 (gK M k) c z = M c z := fun c z h => putv_ne h
    have cM := c_measureTo (E := E) (S := S) (M := putv M 6 0 (gK M k)) (aim := (k : Int)) (by omega) ⟨fun l a b => by rw [o 4 l (by omega)]; exact hL.1 l a b, fun l a b => by rw [o 2 l (by omega)]; exact hL.2.1 l a b, fun l a b => by rw [o 3 l (by omega)]; exact hL.2.2 l a b⟩
    rw [show putv M 6 0 (gK M k) 2 = M 2 from funext fun z => o 2 z (by omega), show putv M 6 0 (gK M k) 3 = M 3 from funext fun z => o 3 z (by omega), show putv M 6 0 (gK M k) 4 = M 4 from funext fun z => o 4 z (by omega), putv_putv, show bfN (M 2) (M 3) (M 4) (k : Int) 7 = gK M (k + 1) from rfl] at cM
    refine q_X8_right_4 400 (lfok E (by omega)) ?_
    simp +contextual (disch := first | omega | exact Nat.le_of_ble_eq_true rfl | assumption) only [↓r_X8_right_0, ↓r_X8_right_1, ↓r_X8_right_2, ↓r_X8_right_3, ↓r_X8_right_4, ↓r_X8_right_5, ↓r_X8_right_7, ↓r_X8_right_10, ↓r_X8_right_11, ↓r_X8_right_14, ↓r_X8_right_15, ↓r_X8_right_18, ↓r_X8_right_19, ↓r_X8_right_20, ↓r_X8_right_21, ↓r_X8_right_23, ↓r_X8_right_26, ↓r_X8_right_27, ↓r_X8_right_28, ↓r_X8_right_31, ↓r_X8_right_32, ↓r_X8_right_35, ↓r_X8_right_36, ↓r_X8_right_37, ↓r_X8_right_38, ↓r_X8_right_39, ↓r_X8_right_42, ↓r_X8_right_45, ↓r_X8_right_48, ↓r_X8_right_51, ↓r_X8_right_54, ↓r_X8_right_57, ↓r_X8_right_60, ↓r_X8_right_63, ↓r_X8_right_66, ↓r_X8_right_67, ↓x0, ↓x4_1n, ↓x4_1i, ↓x4_1r, ↓x4_2n, ↓x4_2i, ↓x4_2r, ↓x1_2, ↓x32_3, ↓x2_0, ↓f8_0, ↓v3_2, ↓x4_3n, ↓x4_3i, ↓x4_3r, ↓x1_3, ↓x32_0, ↓lf_X8_rowOf, ↓v5_1, ↓v3_3, ↓x31_0, ↓x31b0, ↓x7_1n, ↓x7_1i, ↓x7_1r, ↓x7_3n, ↓x7_3i, ↓x7_3r, ↓x33, ↓x7_2n, ↓x7_2i, ↓x7_2r, ↓x1_1, ↓x48_0, and_self, and_true, true_and, implies_true, true_implies, Int.reduceEq, Int.reduceLE, Int.reduceLT, not_true_eq_false, not_false_eq_true, false_implies, RTf_eq]
    refine ⟨fun q => by omega, fun _ => ?_⟩
    refine ck_v cM (by omega) (by simp) ?_
    simp +contextual (disch := first | omega | exact Nat.le_of_ble_eq_true rfl | assumption) only [↓r_X8_right_0, ↓r_X8_right_1, ↓r_X8_right_2, ↓r_X8_right_3, ↓r_X8_right_4, ↓r_X8_right_5, ↓r_X8_right_7, ↓r_X8_right_10, ↓r_X8_right_11, ↓r_X8_right_14, ↓r_X8_right_15, ↓r_X8_right_18, ↓r_X8_right_19, ↓r_X8_right_20, ↓r_X8_right_21, ↓r_X8_right_23, ↓r_X8_right_26, ↓r_X8_right_27, ↓r_X8_right_28, ↓r_X8_right_31, ↓r_X8_right_32, ↓r_X8_right_35, ↓r_X8_right_36, ↓r_X8_right_37, ↓r_X8_right_38, ↓r_X8_right_39, ↓r_X8_right_42, ↓r_X8_right_45, ↓r_X8_right_48, ↓r_X8_right_51, ↓r_X8_right_54, ↓r_X8_right_57, ↓r_X8_right_60, ↓r_X8_right_63, ↓r_X8_right_66, ↓r_X8_right_67, ↓x0, ↓x4_1n, ↓x4_1i, ↓x4_1r, ↓x4_2n, ↓x4_2i, ↓x4_2r, ↓x1_2, ↓x32_3, ↓x2_0, ↓f8_0, ↓v3_2, ↓x4_3n, ↓x4_3i, ↓x4_3r, ↓x1_3, ↓x32_0, ↓lf_X8_rowOf, ↓v5_1, ↓v3_3, ↓x31_0, ↓x31b0, ↓x7_1n, ↓x7_1i, ↓x7_1r, ↓x7_3n, ↓x7_3i, ↓x7_3r, ↓x33, ↓x7_2n, ↓x7_2i, ↓x7_2r, ↓x1_1, ↓x48_0, and_self, and_true, true_and, implies_true, true_implies, Int.reduceEq, Int.reduceLE, Int.reduceLT, not_true_eq_false, not_false_eq_true, false_implies, RTf_eq]
    exact hI
theorem c_right8 (hL : LO M) (hs : ∀ r, 0 ≤ r → r < 64 → 0 ≤ M (17 + 3 * r) 2 ∧ M (17 + 3 * r) 2 < 256) (hsh : ∀ r k, 0 ≤ r → r < 64 → 0 ≤ k → k < 8 → 0 ≤ M (18 + 3 * r) k ∧ M (18 + 3 * r) k ≤ 1000) : Ctr E 5 63 [vr 0] (toAH S M) (some (vi (sm (fun d => sm (rt8 M d) 8) 8))) (toAH S (putv M 6 0 (gK M 8))) := by
  refine Ctr_f mi_X8_right mo_X8_right (Nat.le_of_ble_eq_true rfl) ⟨Nat.le_refl _, Nat.le_refl _⟩ (fun g lm => ?_)
  rw [show entL mi_X8_right.2.2.1 [vr 0] = [some (vr 0), none, none, none] from rfl]
  refine e_X8_right 400 (lfok E (by omega)) ?_
  simp +contextual (disch := first | omega | exact Nat.le_of_ble_eq_true rfl | assumption) only [↓r_X8_right_0, ↓r_X8_right_1, ↓r_X8_right_2, ↓r_X8_right_3, ↓r_X8_right_4, ↓r_X8_right_5, ↓r_X8_right_7, ↓r_X8_right_10, ↓r_X8_right_11, ↓r_X8_right_14, ↓r_X8_right_15, ↓r_X8_right_18, ↓r_X8_right_19, ↓r_X8_right_20, ↓r_X8_right_21, ↓r_X8_right_23, ↓r_X8_right_26, ↓r_X8_right_27, ↓r_X8_right_28, ↓r_X8_right_31, ↓r_X8_right_32, ↓r_X8_right_35, ↓r_X8_right_36, ↓r_X8_right_37, ↓r_X8_right_38, ↓r_X8_right_39, ↓r_X8_right_42, ↓r_X8_right_45, ↓r_X8_right_48, ↓r_X8_right_51, ↓r_X8_right_54, ↓r_X8_right_57, ↓r_X8_right_60, ↓r_X8_right_63, ↓r_X8_right_66, ↓r_X8_right_67, ↓x0, ↓x4_1n, ↓x4_1i, ↓x4_1r, ↓x4_2n, ↓x4_2i, ↓x4_2r, ↓x1_2, ↓x32_3, ↓x2_0, ↓f8_0, ↓v3_2, ↓x4_3n, ↓x4_3i, ↓x4_3r, ↓x1_3, ↓x32_0, ↓lf_X8_rowOf, ↓v5_1, ↓v3_3, ↓x31_0, ↓x31b0, ↓x7_1n, ↓x7_1i, ↓x7_1r, ↓x7_3n, ↓x7_3i, ↓x7_3r, ↓x33, ↓x7_2n, ↓x7_2i, ↓x7_2r, ↓x1_1, ↓x48_0, and_self, and_true, true_and, implies_true, true_implies, Int.reduceEq, Int.reduceLE, Int.reduceLT, not_true_eq_false, not_false_eq_true, false_implies, RTf_eq]
  have h := l_right8 (E := E) (S := S) (M := M) (g := g) (lm := lm) hL hs hsh (RT := RTf (some (vi (sm (fun d => sm (rt8 M d) 8) 8))) (toAH S (putv M 6 0 (gK M 8)))) ⟨rfl, rfl⟩ 0 (by omega) none
  rw [show putv M 6 0 (gK M 0) = M from putv_getv] at h
  exact h
theorem kk9_ok (hw : WM (w9 M)) {x : Int} (hx : 0 ≤ x ∧ x < 64) (h1 : ¬ x / 8 = x % 8) (h2 : ff9 M 8 x < 1000000) : 0 ≤ kk9 M x ∧ kk9 M x < 8 ∧ nbm M (x / 8) (kk9 M x) = true := by
  obtain ⟨fa, fb, fc, fd, fe, ff⟩ := fw_ok hw 8 (by omega)
  obtain ⟨k, k1, k2, k3⟩ := ff (x / 8) (x % 8) (by omega) (by omega) (by omega) (by omega) h1 h2
  have hn : nbm M (x / 8) k = true := by
    unfold nbm
    refine decide_eq_true (fun q => ?_)
    unfold w9 in9 at k2
    rw [if_neg (by omega), if_pos q] at k2
    omega
  have gm := grF_max (m := nbm M (x / 8)) (v := getv M 254 (8 * x)) 8 k k1.1 (by omega) hn
  have gr := grF_rng (nbm M (x / 8)) (getv M 254 (8 * x)) 8
  rcases gr with q | q
  · exact absurd q gm.1
  · exact ⟨q.1, by have := q.2.1; unfold kk9; omega, q.2.2⟩
theorem l_right9 {g : GT} {lm : Nat × Nat} {RT : RTy} (hself : ∀ i, 0 ≤ i → i < 8 → M 253 (8 * i + i) = -9) (hL : ∀ z, 0 ≤ z → z < 64 → M 253 z = -9 ∨ (0 ≤ M 253 z ∧ M 253 z < 16)) (hw : WM (w9 M)) (hS : ∀ z, 0 ≤ z → z < 512 → 0 ≤ M 254 z ∧ M 254 z ≤ 1000) (hr : RT (some (vi (sm (rt9 M) 64))) (toAH S (p64 M (ff9 M 8)))) :
    ∀ k : Nat, k ≤ 64 → ∀ a3 a4 a5 : Option AV, G E g mi_X9_right 3 lm RT 8 [some (vr 248), some (vi (sm (rt9 M) k)), some (vi (k : Int)), a3, a4, a5] [] (toAH S (p64 M (ff9 M 8))) := by
  obtain ⟨fa, fb, fc, fd, fe, ff⟩ := fw_ok hw 8 (by omega)
  have b0 : ∀ z, 0 ≤ z → z < 64 → 0 ≤ ff9 M 8 z ∧ ff9 M 8 z ≤ 1000000 := fun z a b => by
    have := fb (z / 8) (z % 8) (by omega) (by omega) (by omega) (by omega)
    exact ⟨this.1, this.2.1⟩
  refine down ?_ ?_
  · intro a3 a4 a5
    refine q_X9_right_8 400 (lfok E (by omega)) ?_
    simp +contextual (disch := first | omega | exact Nat.le_of_ble_eq_true rfl | assumption) only [↓r_X9_right_0, ↓r_X9_right_1, ↓r_X9_right_4, ↓r_X9_right_5, ↓r_X9_right_6, ↓r_X9_right_7, ↓r_X9_right_8, ↓r_X9_right_9, ↓r_X9_right_11, ↓r_X9_right_14, ↓r_X9_right_15, ↓r_X9_right_17, ↓r_X9_right_18, ↓r_X9_right_19, ↓r_X9_right_20, ↓r_X9_right_22, ↓r_X9_right_23, ↓r_X9_right_25, ↓r_X9_right_26, ↓r_X9_right_28, ↓r_X9_right_31, ↓r_X9_right_32, ↓r_X9_right_35, ↓r_X9_right_36, ↓r_X9_right_37, ↓r_X9_right_39, ↓r_X9_right_42, ↓r_X9_right_43, ↓r_X9_right_44, ↓r_X9_right_46, ↓r_X9_right_47, ↓r_X9_right_48, ↓r_X9_right_51, ↓r_X9_right_53, ↓r_X9_right_54, ↓r_X9_right_55, ↓r_X9_right_58, ↓r_X9_right_59, ↓r_X9_right_62, ↓r_X9_right_64, ↓r_X9_right_65, ↓r_X9_right_66, ↓r_X9_right_68, ↓r_X9_right_69, ↓r_X9_right_70, ↓r_X9_right_71, ↓r_X9_right_72, ↓r_X9_right_75, ↓r_X9_right_77, ↓r_X9_right_79, ↓r_X9_right_80, ↓r_X9_right_82, ↓r_X9_right_83, ↓r_X9_right_84, ↓r_X9_right_85, ↓r_X9_right_86, ↓r_X9_right_89, ↓r_X9_right_90, ↓r_X9_right_91, ↓r_X9_right_94, ↓r_X9_right_95, ↓r_X9_right_98, ↓r_X9_right_99, ↓r_X9_right_100, ↓r_X9_right_101, ↓r_X9_right_104, ↓r_X9_right_107, ↓r_X9_right_108, ↓x2_0, ↓v9_1, ↓x0, ↓x4_1n, ↓x4_1i, ↓x4_1r, ↓x4_2n, ↓x4_2i, ↓x4_2r, ↓x1_2, ↓x32_3, ↓x11, ↓x4_3n, ↓x4_3i, ↓x4_3r, ↓x12, ↓x4_4n, ↓x4_4i, ↓x4_4r, ↓x1_3, ↓x1_4, ↓x32_0, ↓f9_33, ↓x10, ↓v9_3, ↓x4_5n, ↓x4_5i, ↓x4_5r, ↓x1_1, ↓f9_3, ↓f9_4, ↓x1_5, ↓x8, ↓x32_1, ↓x33, ↓x7_2n, ↓x7_2i, ↓x7_2r, ↓x48_0, ↓l_249, ↓l_250, ↓l_251, ↓l_252, ↓l_253, ↓l_254, ↓l_255, ↓l_256, ↓l_257, ↓l_258, ↓l_259, ↓l_260, ↓l_261, ↓l_262, ↓l_263, ↓l_264, ↓l_265, ↓l_266, ↓l_267, ↓l_268, ↓l_269, ↓l_270, ↓l_271, ↓l_272, ↓l_273, ↓l_274, and_self, and_true, true_and, implies_true, true_implies, Int.reduceEq, Int.reduceLE, Int.reduceLT, not_true_eq_false, not_false_eq_true, false_implies, RTf_eq]
    exact ⟨fun _ => hr, fun q => absurd (by omega) q⟩
  · intro k hk ih a3 a4 a5
    have eS : sm (rt9 M) (k + 1) = sm (rt9 M) k + rt9 M (k : Int) := rfl
    rw [eS] at ih
    have eR : rt9 M (k : Int) = if (k : Int) / 8 = (k : Int) % 8 then 0 else if ff9 M 8 (k : Int) < 1000000 then (if M 252 (M 253 (8 * ((k : Int) / 8) + kk9 M (k : Int))) + ff9 M 8 (8 * kk9 M (k : Int) + (k : Int) % 8) = ff9 M 8 (k : Int) then 1 else 0) else 0 := rfl
    obtain ⟨N, eN⟩ : ∃ N, N = p64 M (ff9 M 8) := ⟨_, rfl⟩
    have n0 : ∀ z, 0 ≤ z → z < 64 → N 274 z = ff9 M 8 z := fun z a b => by rw [eN, p64_at a b]
    have nO : ∀ c z, ¬ c = 274 → N c z = M c z := fun c z h => by rw [eN, p64_ne h]
    have nk := n0 (k : Int) (by omega) (by omega)
    have bk := b0 (k : Int) (by omega) (by omega)
    rw [← eN] at ih ⊢
    refine q_X9_right_8 400 (lfok E (by omega)) ?_
    by_cases c1 : (k : Int) / 8 = (k : Int) % 8
    · rw [if_pos c1] at eR
      rw [eR, Int.add_zero] at ih
      simp +contextual (disch := first | omega | exact Nat.le_of_ble_eq_true rfl | assumption) only [↓r_X9_right_0, ↓r_X9_right_1, ↓r_X9_right_4, ↓r_X9_right_5, ↓r_X9_right_6, ↓r_X9_right_7, ↓r_X9_right_8, ↓r_X9_right_9, ↓r_X9_right_11, ↓r_X9_right_14, ↓r_X9_right_15, ↓r_X9_right_17, ↓r_X9_right_18, ↓r_X9_right_19, ↓r_X9_right_20, ↓r_X9_right_22, ↓r_X9_right_23, ↓r_X9_right_25, ↓r_X9_right_26, ↓r_X9_right_28, ↓r_X9_right_31, ↓r_X9_right_32, ↓r_X9_right_35, ↓r_X9_right_36, ↓r_X9_right_37, ↓r_X9_right_39, ↓r_X9_right_42, ↓r_X9_right_43, ↓r_X9_right_44, ↓r_X9_right_46, ↓r_X9_right_47, ↓r_X9_right_48, ↓r_X9_right_51, ↓r_X9_right_53, ↓r_X9_right_54, ↓r_X9_right_55, ↓r_X9_right_58, ↓r_X9_right_59, ↓r_X9_right_62, ↓r_X9_right_64, ↓r_X9_right_65, ↓r_X9_right_66, ↓r_X9_right_68, ↓r_X9_right_69, ↓r_X9_right_70, ↓r_X9_right_71, ↓r_X9_right_72, ↓r_X9_right_75, ↓r_X9_right_77, ↓r_X9_right_79, ↓r_X9_right_80, ↓r_X9_right_82, ↓r_X9_right_83, ↓r_X9_right_84, ↓r_X9_right_85, ↓r_X9_right_86, ↓r_X9_right_89, ↓r_X9_right_90, ↓r_X9_right_91, ↓r_X9_right_94, ↓r_X9_right_95, ↓r_X9_right_98, ↓r_X9_right_99, ↓r_X9_right_100, ↓r_X9_right_101, ↓r_X9_right_104, ↓r_X9_right_107, ↓r_X9_right_108, ↓x2_0, ↓v9_1, ↓x0, ↓x4_1n, ↓x4_1i, ↓x4_1r, ↓x4_2n, ↓x4_2i, ↓x4_2r, ↓x1_2, ↓x32_3, ↓x11, ↓x4_3n, ↓x4_3i, ↓x4_3r, ↓x12, ↓x4_4n, ↓x4_4i, ↓x4_4r, ↓x1_3, ↓x1_4, ↓x32_0, ↓f9_33, ↓x10, ↓v9_3, ↓x4_5n, ↓x4_5i, ↓x4_5r, ↓x1_1, ↓f9_3, ↓f9_4, ↓x1_5, ↓x8, ↓x32_1, ↓x33, ↓x7_2n, ↓x7_2i, ↓x7_2r, ↓x48_0, ↓l_249, ↓l_250, ↓l_251, ↓l_252, ↓l_253, ↓l_254, ↓l_255, ↓l_256, ↓l_257, ↓l_258, ↓l_259, ↓l_260, ↓l_261, ↓l_262, ↓l_263, ↓l_264, ↓l_265, ↓l_266, ↓l_267, ↓l_268, ↓l_269, ↓l_270, ↓l_271, ↓l_272, ↓l_273, ↓l_274, and_self, and_true, true_and, implies_true, true_implies, Int.reduceEq, Int.reduceLE, Int.reduceLT, not_true_eq_false, not_false_eq_true, false_implies, RTf_eq]
      exact ⟨fun q => by omega, fun _ => ⟨fun _ => ih _ _ _, fun q => absurd c1 q⟩⟩
    · rw [if_neg c1] at eR
      by_cases c2 : ff9 M 8 (k : Int) < 1000000
      · rw [if_pos c2] at eR
        have kk := kk9_ok hw (x := (k : Int)) (by omega) c1 c2
        have cG := c_greatest9 (E := E) (S := S) (M := N) (i := (k : Int) / 8) (row := 8 * (k : Int)) (by omega) (by omega) (fun z a b => by rw [nO 253 z (by omega)]; exact L_rg (hL z a b)) (fun j a b => by rw [nO 254 _ (by omega)]; have := hS (8 * (k : Int) + j) (by omega) (by omega); exact ⟨by omega, by omega⟩)
        rw [show nbm N ((k : Int) / 8) = nbm M ((k : Int) / 8) from by funext z; unfold nbm; rw [nO 253 _ (by omega)], show getv N 254 (8 * (k : Int)) = getv M 254 (8 * (k : Int)) from by funext z; unfold getv; rw [nO 254 _ (by omega)], show grF (nbm M ((k : Int) / 8)) (getv M 254 (8 * (k : Int))) 8 = kk9 M (k : Int) from rfl] at cG
        obtain ⟨q, eq⟩ : ∃ q, q = kk9 M (k : Int) := ⟨_, rfl⟩
        rw [← eq] at kk cG eR
        have m1 := nO 253 (8 * ((k : Int) / 8) + q) (by omega)
        have l1 := hL (8 * ((k : Int) / 8) + q) (by omega) (by omega)
        have l2 : ¬ M 253 (8 * ((k : Int) / 8) + q) = -9 := of_decide_eq_true kk.2.2
        have m2 := nO 252 (M 253 (8 * ((k : Int) / 8) + q)) (by omega)
        have m3 := n0 (8 * q + (k : Int) % 8) (by omega) (by omega)
        have b3 := b0 (8 * q + (k : Int) % 8) (by omega) (by omega)
        have hi := hw ((k : Int) / 8) q (by omega) (by omega) kk.1 kk.2.1
        have b4 : 0 ≤ M 252 (M 253 (8 * ((k : Int) / 8) + q)) ∧ M 252 (M 253 (8 * ((k : Int) / 8) + q)) ≤ 1000000 := by
          by_cases z : (k : Int) / 8 = q
          · exact absurd (by rw [← z]; exact hself _ (by omega) (by omega)) l2
          · have h5 := hi.2.1 z
            have e6 : w9 M ((k : Int) / 8) q = M 252 (M 253 (8 * ((k : Int) / 8) + q)) := by
              unfold w9 in9
              rw [if_neg (by omega), if_neg l2]
            rw [e6] at h5
            omega
        simp +contextual (disch := first | omega | exact Nat.le_of_ble_eq_true rfl | assumption) only [↓r_X9_right_0, ↓r_X9_right_1, ↓r_X9_right_4, ↓r_X9_right_5, ↓r_X9_right_6, ↓r_X9_right_7, ↓r_X9_right_8, ↓r_X9_right_9, ↓r_X9_right_11, ↓r_X9_right_14, ↓r_X9_right_15, ↓r_X9_right_17, ↓r_X9_right_18, ↓r_X9_right_19, ↓r_X9_right_20, ↓r_X9_right_22, ↓r_X9_right_23, ↓r_X9_right_25, ↓r_X9_right_26, ↓r_X9_right_28, ↓r_X9_right_31, ↓r_X9_right_32, ↓r_X9_right_35, ↓r_X9_right_36, ↓r_X9_right_37, ↓r_X9_right_39, ↓r_X9_right_42, ↓r_X9_right_43, ↓r_X9_right_44, ↓r_X9_right_46, ↓r_X9_right_47, ↓r_X9_right_48, ↓r_X9_right_51, ↓r_X9_right_53, ↓r_X9_right_54, ↓r_X9_right_55, ↓r_X9_right_58, ↓r_X9_right_59, ↓r_X9_right_62, ↓r_X9_right_64, ↓r_X9_right_65, ↓r_X9_right_66, ↓r_X9_right_68, ↓r_X9_right_69, ↓r_X9_right_70, ↓r_X9_right_71, ↓r_X9_right_72, ↓r_X9_right_75, ↓r_X9_right_77, ↓r_X9_right_79, ↓r_X9_right_80, ↓r_X9_right_82, ↓r_X9_right_83, ↓r_X9_right_84, ↓r_X9_right_85, ↓r_X9_right_86, ↓r_X9_right_89, ↓r_X9_right_90, ↓r_X9_right_91, ↓r_X9_right_94, ↓r_X9_right_95, ↓r_X9_right_98, ↓r_X9_right_99, ↓r_X9_right_100, ↓r_X9_right_101, ↓r_X9_right_104, ↓r_X9_right_107, ↓r_X9_right_108, ↓x2_0, ↓v9_1, ↓x0, ↓x4_1n, ↓x4_1i, ↓x4_1r, ↓x4_2n, ↓x4_2i, ↓x4_2r, ↓x1_2, ↓x32_3, ↓x11, ↓x4_3n, ↓x4_3i, ↓x4_3r, ↓x12, ↓x4_4n, ↓x4_4i, ↓x4_4r, ↓x1_3, ↓x1_4, ↓x32_0, ↓f9_33, ↓x10, ↓v9_3, ↓x4_5n, ↓x4_5i, ↓x4_5r, ↓x1_1, ↓f9_3, ↓f9_4, ↓x1_5, ↓x8, ↓x32_1, ↓x33, ↓x7_2n, ↓x7_2i, ↓x7_2r, ↓x48_0, ↓l_249, ↓l_250, ↓l_251, ↓l_252, ↓l_253, ↓l_254, ↓l_255, ↓l_256, ↓l_257, ↓l_258, ↓l_259, ↓l_260, ↓l_261, ↓l_262, ↓l_263, ↓l_264, ↓l_265, ↓l_266, ↓l_267, ↓l_268, ↓l_269, ↓l_270, ↓l_271, ↓l_272, ↓l_273, ↓l_274, and_self, and_true, true_and, implies_true, true_implies, Int.reduceEq, Int.reduceLE, Int.reduceLT, not_true_eq_false, not_false_eq_true, false_implies, RTf_eq, nk]
        refine ⟨fun q => by omega, fun _ => ⟨fun q => absurd q c1, fun _ => ⟨fun q => by omega, fun _ => ?_⟩⟩⟩
        refine ck_r cG (by omega) (by simp) ?_
        simp +contextual (disch := first | omega | exact Nat.le_of_ble_eq_true rfl | assumption) only [↓r_X9_right_0, ↓r_X9_right_1, ↓r_X9_right_4, ↓r_X9_right_5, ↓r_X9_right_6, ↓r_X9_right_7, ↓r_X9_right_8, ↓r_X9_right_9, ↓r_X9_right_11, ↓r_X9_right_14, ↓r_X9_right_15, ↓r_X9_right_17, ↓r_X9_right_18, ↓r_X9_right_19, ↓r_X9_right_20, ↓r_X9_right_22, ↓r_X9_right_23, ↓r_X9_right_25, ↓r_X9_right_26, ↓r_X9_right_28, ↓r_X9_right_31, ↓r_X9_right_32, ↓r_X9_right_35, ↓r_X9_right_36, ↓r_X9_right_37, ↓r_X9_right_39, ↓r_X9_right_42, ↓r_X9_right_43, ↓r_X9_right_44, ↓r_X9_right_46, ↓r_X9_right_47, ↓r_X9_right_48, ↓r_X9_right_51, ↓r_X9_right_53, ↓r_X9_right_54, ↓r_X9_right_55, ↓r_X9_right_58, ↓r_X9_right_59, ↓r_X9_right_62, ↓r_X9_right_64, ↓r_X9_right_65, ↓r_X9_right_66, ↓r_X9_right_68, ↓r_X9_right_69, ↓r_X9_right_70, ↓r_X9_right_71, ↓r_X9_right_72, ↓r_X9_right_75, ↓r_X9_right_77, ↓r_X9_right_79, ↓r_X9_right_80, ↓r_X9_right_82, ↓r_X9_right_83, ↓r_X9_right_84, ↓r_X9_right_85, ↓r_X9_right_86, ↓r_X9_right_89, ↓r_X9_right_90, ↓r_X9_right_91, ↓r_X9_right_94, ↓r_X9_right_95, ↓r_X9_right_98, ↓r_X9_right_99, ↓r_X9_right_100, ↓r_X9_right_101, ↓r_X9_right_104, ↓r_X9_right_107, ↓r_X9_right_108, ↓x2_0, ↓v9_1, ↓x0, ↓x4_1n, ↓x4_1i, ↓x4_1r, ↓x4_2n, ↓x4_2i, ↓x4_2r, ↓x1_2, ↓x32_3, ↓x11, ↓x4_3n, ↓x4_3i, ↓x4_3r, ↓x12, ↓x4_4n, ↓x4_4i, ↓x4_4r, ↓x1_3, ↓x1_4, ↓x32_0, ↓f9_33, ↓x10, ↓v9_3, ↓x4_5n, ↓x4_5i, ↓x4_5r, ↓x1_1, ↓f9_3, ↓f9_4, ↓x1_5, ↓x8, ↓x32_1, ↓x33, ↓x7_2n, ↓x7_2i, ↓x7_2r, ↓x48_0, ↓l_249, ↓l_250, ↓l_251, ↓l_252, ↓l_253, ↓l_254, ↓l_255, ↓l_256, ↓l_257, ↓l_258, ↓l_259, ↓l_260, ↓l_261, ↓l_262, ↓l_263, ↓l_264, ↓l_265, ↓l_266, ↓l_267, ↓l_268, ↓l_269, ↓l_270, ↓l_271, ↓l_272, ↓l_273, ↓l_274, and_self, and_true, true_and, implies_true, true_implies, Int.reduceEq, Int.reduceLE, Int.reduceLT, not_true_eq_false, not_false_eq_true, false_implies, RTf_eq, nk, m1, m2, m3]
        refine ⟨fun z => ?_, fun z => ?_⟩
        · rw [if_neg z] at eR
          rw [eR] at ih
          exact ih _ _ _
        · rw [if_pos (by omega)] at eR
          rw [eR] at ih
          exact ih _ _ _
      · rw [if_neg c2] at eR
        rw [eR, Int.add_zero] at ih
        simp +contextual (disch := first | omega | exact Nat.le_of_ble_eq_true rfl | assumption) only [↓r_X9_right_0, ↓r_X9_right_1, ↓r_X9_right_4, ↓r_X9_right_5, ↓r_X9_right_6, ↓r_X9_right_7, ↓r_X9_right_8, ↓r_X9_right_9, ↓r_X9_right_11, ↓r_X9_right_14, ↓r_X9_right_15, ↓r_X9_right_17, ↓r_X9_right_18, ↓r_X9_right_19, ↓r_X9_right_20, ↓r_X9_right_22, ↓r_X9_right_23, ↓r_X9_right_25, ↓r_X9_right_26, ↓r_X9_right_28, ↓r_X9_right_31, ↓r_X9_right_32, ↓r_X9_right_35, ↓r_X9_right_36, ↓r_X9_right_37, ↓r_X9_right_39, ↓r_X9_right_42, ↓r_X9_right_43, ↓r_X9_right_44, ↓r_X9_right_46, ↓r_X9_right_47, ↓r_X9_right_48, ↓r_X9_right_51, ↓r_X9_right_53, ↓r_X9_right_54, ↓r_X9_right_55, ↓r_X9_right_58, ↓r_X9_right_59, ↓r_X9_right_62, ↓r_X9_right_64, ↓r_X9_right_65, ↓r_X9_right_66, ↓r_X9_right_68, ↓r_X9_right_69, ↓r_X9_right_70, ↓r_X9_right_71, ↓r_X9_right_72, ↓r_X9_right_75, ↓r_X9_right_77, ↓r_X9_right_79, ↓r_X9_right_80, ↓r_X9_right_82, ↓r_X9_right_83, ↓r_X9_right_84, ↓r_X9_right_85, ↓r_X9_right_86, ↓r_X9_right_89, ↓r_X9_right_90, ↓r_X9_right_91, ↓r_X9_right_94, ↓r_X9_right_95, ↓r_X9_right_98, ↓r_X9_right_99, ↓r_X9_right_100, ↓r_X9_right_101, ↓r_X9_right_104, ↓r_X9_right_107, ↓r_X9_right_108, ↓x2_0, ↓v9_1, ↓x0, ↓x4_1n, ↓x4_1i, ↓x4_1r, ↓x4_2n, ↓x4_2i, ↓x4_2r, ↓x1_2, ↓x32_3, ↓x11, ↓x4_3n, ↓x4_3i, ↓x4_3r, ↓x12, ↓x4_4n, ↓x4_4i, ↓x4_4r, ↓x1_3, ↓x1_4, ↓x32_0, ↓f9_33, ↓x10, ↓v9_3, ↓x4_5n, ↓x4_5i, ↓x4_5r, ↓x1_1, ↓f9_3, ↓f9_4, ↓x1_5, ↓x8, ↓x32_1, ↓x33, ↓x7_2n, ↓x7_2i, ↓x7_2r, ↓x48_0, ↓l_249, ↓l_250, ↓l_251, ↓l_252, ↓l_253, ↓l_254, ↓l_255, ↓l_256, ↓l_257, ↓l_258, ↓l_259, ↓l_260, ↓l_261, ↓l_262, ↓l_263, ↓l_264, ↓l_265, ↓l_266, ↓l_267, ↓l_268, ↓l_269, ↓l_270, ↓l_271, ↓l_272, ↓l_273, ↓l_274, and_self, and_true, true_and, implies_true, true_implies, Int.reduceEq, Int.reduceLE, Int.reduceLT, not_true_eq_false, not_false_eq_true, false_implies, RTf_eq, nk]
        exact ⟨fun q => by omega, fun _ => ⟨fun q => absurd q c1, fun _ => ⟨fun _ => ih _ _ _, fun q => by omega⟩⟩⟩
theorem c_right9 (hself : ∀ i, 0 ≤ i → i < 8 → M 253 (8 * i + i) = -9) (hL : ∀ z, 0 ≤ z → z < 64 → M 253 z = -9 ∨ (0 ≤ M 253 z ∧ M 253 z < 16)) (hw : WM (w9 M)) (hS : ∀ z, 0 ≤ z → z < 512 → 0 ≤ M 254 z ∧ M 254 z ≤ 1000) : Ctr E 3 142 [vr 248] (toAH S M) (some (vi (sm (rt9 M) 64))) (toAH S (p64 M (ff9 M 8))) := by
  have cM := c_findFar (E := E) (S := S) (M := M) hL hw
  refine Ctr_f mi_X9_right mo_X9_right (Nat.le_of_ble_eq_true rfl) ⟨Nat.le_refl _, Nat.le_refl _⟩ (fun g lm => ?_)
  rw [show entL mi_X9_right.2.2.1 [vr 248] = [some (vr 248), none, none, none, none, none] from rfl]
  refine e_X9_right 400 (lfok E (by omega)) ?_
  simp +contextual (disch := first | omega | exact Nat.le_of_ble_eq_true rfl | assumption) only [↓r_X9_right_0, ↓r_X9_right_1, ↓r_X9_right_4, ↓r_X9_right_5, ↓r_X9_right_6, ↓r_X9_right_7, ↓r_X9_right_8, ↓r_X9_right_9, ↓r_X9_right_11, ↓r_X9_right_14, ↓r_X9_right_15, ↓r_X9_right_17, ↓r_X9_right_18, ↓r_X9_right_19, ↓r_X9_right_20, ↓r_X9_right_22, ↓r_X9_right_23, ↓r_X9_right_25, ↓r_X9_right_26, ↓r_X9_right_28, ↓r_X9_right_31, ↓r_X9_right_32, ↓r_X9_right_35, ↓r_X9_right_36, ↓r_X9_right_37, ↓r_X9_right_39, ↓r_X9_right_42, ↓r_X9_right_43, ↓r_X9_right_44, ↓r_X9_right_46, ↓r_X9_right_47, ↓r_X9_right_48, ↓r_X9_right_51, ↓r_X9_right_53, ↓r_X9_right_54, ↓r_X9_right_55, ↓r_X9_right_58, ↓r_X9_right_59, ↓r_X9_right_62, ↓r_X9_right_64, ↓r_X9_right_65, ↓r_X9_right_66, ↓r_X9_right_68, ↓r_X9_right_69, ↓r_X9_right_70, ↓r_X9_right_71, ↓r_X9_right_72, ↓r_X9_right_75, ↓r_X9_right_77, ↓r_X9_right_79, ↓r_X9_right_80, ↓r_X9_right_82, ↓r_X9_right_83, ↓r_X9_right_84, ↓r_X9_right_85, ↓r_X9_right_86, ↓r_X9_right_89, ↓r_X9_right_90, ↓r_X9_right_91, ↓r_X9_right_94, ↓r_X9_right_95, ↓r_X9_right_98, ↓r_X9_right_99, ↓r_X9_right_100, ↓r_X9_right_101, ↓r_X9_right_104, ↓r_X9_right_107, ↓r_X9_right_108, ↓x2_0, ↓v9_1, ↓x0, ↓x4_1n, ↓x4_1i, ↓x4_1r, ↓x4_2n, ↓x4_2i, ↓x4_2r, ↓x1_2, ↓x32_3, ↓x11, ↓x4_3n, ↓x4_3i, ↓x4_3r, ↓x12, ↓x4_4n, ↓x4_4i, ↓x4_4r, ↓x1_3, ↓x1_4, ↓x32_0, ↓f9_33, ↓x10, ↓v9_3, ↓x4_5n, ↓x4_5i, ↓x4_5r, ↓x1_1, ↓f9_3, ↓f9_4, ↓x1_5, ↓x8, ↓x32_1, ↓x33, ↓x7_2n, ↓x7_2i, ↓x7_2r, ↓x48_0, ↓l_249, ↓l_250, ↓l_251, ↓l_252, ↓l_253, ↓l_254, ↓l_255, ↓l_256, ↓l_257, ↓l_258, ↓l_259, ↓l_260, ↓l_261, ↓l_262, ↓l_263, ↓l_264, ↓l_265, ↓l_266, ↓l_267, ↓l_268, ↓l_269, ↓l_270, ↓l_271, ↓l_272, ↓l_273, ↓l_274, and_self, and_true, true_and, implies_true, true_implies, Int.reduceEq, Int.reduceLE, Int.reduceLT, not_true_eq_false, not_false_eq_true, false_implies, RTf_eq]
  refine ck_v cM (by omega) (by simp) ?_
  simp +contextual (disch := first | omega | exact Nat.le_of_ble_eq_true rfl | assumption) only [↓r_X9_right_0, ↓r_X9_right_1, ↓r_X9_right_4, ↓r_X9_right_5, ↓r_X9_right_6, ↓r_X9_right_7, ↓r_X9_right_8, ↓r_X9_right_9, ↓r_X9_right_11, ↓r_X9_right_14, ↓r_X9_right_15, ↓r_X9_right_17, ↓r_X9_right_18, ↓r_X9_right_19, ↓r_X9_right_20, ↓r_X9_right_22, ↓r_X9_right_23, ↓r_X9_right_25, ↓r_X9_right_26, ↓r_X9_right_28, ↓r_X9_right_31, ↓r_X9_right_32, ↓r_X9_right_35, ↓r_X9_right_36, ↓r_X9_right_37, ↓r_X9_right_39, ↓r_X9_right_42, ↓r_X9_right_43, ↓r_X9_right_44, ↓r_X9_right_46, ↓r_X9_right_47, ↓r_X9_right_48, ↓r_X9_right_51, ↓r_X9_right_53, ↓r_X9_right_54, ↓r_X9_right_55, ↓r_X9_right_58, ↓r_X9_right_59, ↓r_X9_right_62, ↓r_X9_right_64, ↓r_X9_right_65, ↓r_X9_right_66, ↓r_X9_right_68, ↓r_X9_right_69, ↓r_X9_right_70, ↓r_X9_right_71, ↓r_X9_right_72, ↓r_X9_right_75, ↓r_X9_right_77, ↓r_X9_right_79, ↓r_X9_right_80, ↓r_X9_right_82, ↓r_X9_right_83, ↓r_X9_right_84, ↓r_X9_right_85, ↓r_X9_right_86, ↓r_X9_right_89, ↓r_X9_right_90, ↓r_X9_right_91, ↓r_X9_right_94, ↓r_X9_right_95, ↓r_X9_right_98, ↓r_X9_right_99, ↓r_X9_right_100, ↓r_X9_right_101, ↓r_X9_right_104, ↓r_X9_right_107, ↓r_X9_right_108, ↓x2_0, ↓v9_1, ↓x0, ↓x4_1n, ↓x4_1i, ↓x4_1r, ↓x4_2n, ↓x4_2i, ↓x4_2r, ↓x1_2, ↓x32_3, ↓x11, ↓x4_3n, ↓x4_3i, ↓x4_3r, ↓x12, ↓x4_4n, ↓x4_4i, ↓x4_4r, ↓x1_3, ↓x1_4, ↓x32_0, ↓f9_33, ↓x10, ↓v9_3, ↓x4_5n, ↓x4_5i, ↓x4_5r, ↓x1_1, ↓f9_3, ↓f9_4, ↓x1_5, ↓x8, ↓x32_1, ↓x33, ↓x7_2n, ↓x7_2i, ↓x7_2r, ↓x48_0, ↓l_249, ↓l_250, ↓l_251, ↓l_252, ↓l_253, ↓l_254, ↓l_255, ↓l_256, ↓l_257, ↓l_258, ↓l_259, ↓l_260, ↓l_261, ↓l_262, ↓l_263, ↓l_264, ↓l_265, ↓l_266, ↓l_267, ↓l_268, ↓l_269, ↓l_270, ↓l_271, ↓l_272, ↓l_273, ↓l_274, and_self, and_true, true_and, implies_true, true_implies, Int.reduceEq, Int.reduceLE, Int.reduceLT, not_true_eq_false, not_false_eq_true, false_implies, RTf_eq]
  exact l_right9 hself hL hw hS ⟨rfl, rfl⟩ 0 (by omega) none none none
end
