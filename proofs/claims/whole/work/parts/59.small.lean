/-! ===== raise, memory, many, neighbours ===== -/
/-- why a raise is refused; 0: it isn't -/
def raR (i t k rr : Int) (nb : Bool) : Int := if ¬ ((0 ≤ i ∧ i ≤ 7) ∧ (0 ≤ t ∧ t ≤ 7) ∧ (0 ≤ k ∧ k ≤ 7)) then -1 else if ¬ (0 ≤ rr ∧ rr ≤ 1000) then -2 else if i = t ∨ nb = false then -3 else 0
section
variable {E : ET} {S : SCR} {M : Mem}
theorem c_raise8n {i t k rr : Int} (hi : rg i) (ht : rg t) (hk : rg k) (hr : rg rr) (h5 : ∀ z, 0 ≤ z → z < 8 → 0 ≤ M 5 z ∧ M 5 z < 256) (hn : ¬ raR i t k rr (bs (M 5 i) k) = 0) : Ctr E 5 53 [vr 0, vi i, vi t, vi k, vi rr] (toAH S M) (some (vi (raR i t k rr (bs (M 5 i) k)))) (toAH S M) := by
  obtain ⟨A, hA⟩ : ∃ A, A = raR i t k rr (bs (M 5 i) k) := ⟨_, rfl⟩
  rw [← hA] at hn ⊢
  unfold raR at hA
  refine Ctr_f mi_X8_raise mo_X8_raise (Nat.le_of_ble_eq_true rfl) ⟨Nat.le_refl _, Nat.le_refl _⟩ (fun g lm => ?_)
  rw [show entL mi_X8_raise.2.2.1 [vr 0, vi i, vi t, vi k, vi rr] = [some (vr 0), some (vi i), some (vi t), some (vi k), some (vi rr), none] from rfl]
  refine e_X8_raise 400 (lfok E (by omega)) ?_
  by_cases c1 : (0 ≤ i ∧ i ≤ 7) ∧ (0 ≤ t ∧ t ≤ 7) ∧ (0 ≤ k ∧ k ≤ 7)
  · have a1 : b2 (0 ≤ i ∧ i ≤ 7) = 1 := by simp [b2, c1.1]
    have a2 : b2 (0 ≤ t ∧ t ≤ 7) = 1 := by simp [b2, c1.2.1]
    have a3 : b2 (0 ≤ k ∧ k ≤ 7) = 1 := by simp [b2, c1.2.2]
    rw [if_neg (fun f => f c1)] at hA
    by_cases c2 : 0 ≤ rr ∧ rr ≤ 1000
    · have a4 : b2 (0 ≤ rr ∧ rr ≤ 1000) = 1 := by simp [b2, c2]
      rw [if_neg (fun f => f c2)] at hA
      have g5 := h5 i (by omega) (by omega)
      by_cases c3 : i = t
      · rw [if_pos (Or.inl c3)] at hA
        subst hA
        simp +contextual (disch := first | omega | exact Nat.le_of_ble_eq_true rfl | assumption) only [↓r_X8_raise_0, ↓r_X8_raise_1, ↓r_X8_raise_4, ↓r_X8_raise_7, ↓r_X8_raise_8, ↓r_X8_raise_11, ↓r_X8_raise_14, ↓r_X8_raise_15, ↓r_X8_raise_18, ↓r_X8_raise_21, ↓r_X8_raise_22, ↓r_X8_raise_23, ↓r_X8_raise_25, ↓r_X8_raise_28, ↓r_X8_raise_31, ↓r_X8_raise_33, ↓r_X8_raise_34, ↓r_X8_raise_35, ↓r_X8_raise_36, ↓r_X8_raise_39, ↓r_X8_raise_40, ↓r_X8_raise_43, ↓r_X8_raise_46, ↓r_X8_raise_47, ↓r_X8_raise_48, ↓r_X8_raise_49, ↓r_X8_raise_52, ↓r_X8_raise_55, ↓r_X8_raise_57, ↓r_X8_raise_58, ↓r_X8_raise_59, ↓r_X8_raise_60, ↓r_X8_raise_61, ↓r_X8_raise_64, ↓r_X8_raise_66, ↓r_X8_raise_68, ↓r_X8_raise_69, ↓r_X8_raise_71, ↓r_X8_raise_72, ↓r_X8_raise_75, ↓r_X8_raise_76, ↓r_X8_raise_79, ↓r_X8_raise_82, ↓r_X8_raise_84, ↓r_X8_raise_87, ↓r_X8_raise_88, ↓r_X8_raise_89, ↓x1_1, ↓lf_X8_isNode, ↓x31_0, ↓x31b0, ↓x1_2, ↓x1_3, ↓x31_1, ↓x31b1, ↓x0, ↓x48_0, ↓x1_4, ↓lf_X8_isOfWhole, ↓x32_0, ↓x2_0, ↓f8_0, ↓f3_3, ↓lf_X8_isIn, ↓lf_X8_rowOf, ↓x5_5n, ↓x5_5i, ↓x5_5r, ↓x2_5, ↓f8_8, ↓f8_2, ↓v5_5, ↓f5_0, ↓l_2, ↓l_3, ↓l_4, ↓l_5, ↓l_6, ↓l_7, ↓l_9, ↓l_10, ↓l_11, ↓l_12, ↓l_13, ↓l_15, ↓l_16, ↓l_r1, ↓l_r2, ↓l_w1, ↓l_w2, and_self, and_true, true_and, implies_true, true_implies, Int.reduceEq, Int.reduceLE, Int.reduceLT, not_true_eq_false, not_false_eq_true, false_implies, RTf_eq, a1, a2, a3, a4]
        (repeat' first | rfl | (refine And.intro ?_ ?_) | intro _ | (exfalso; omega))
      · by_cases c4 : bs (M 5 i) k = false
        · rw [if_pos (Or.inr c4)] at hA
          have a5 : b2 (bzd (M 5 i) k = true) = 0 := by
            have : bzd (M 5 i) k = false := c4
            simp [b2, this]
          subst hA
          simp +contextual (disch := first | omega | exact Nat.le_of_ble_eq_true rfl | assumption) only [↓r_X8_raise_0, ↓r_X8_raise_1, ↓r_X8_raise_4, ↓r_X8_raise_7, ↓r_X8_raise_8, ↓r_X8_raise_11, ↓r_X8_raise_14, ↓r_X8_raise_15, ↓r_X8_raise_18, ↓r_X8_raise_21, ↓r_X8_raise_22, ↓r_X8_raise_23, ↓r_X8_raise_25, ↓r_X8_raise_28, ↓r_X8_raise_31, ↓r_X8_raise_33, ↓r_X8_raise_34, ↓r_X8_raise_35, ↓r_X8_raise_36, ↓r_X8_raise_39, ↓r_X8_raise_40, ↓r_X8_raise_43, ↓r_X8_raise_46, ↓r_X8_raise_47, ↓r_X8_raise_48, ↓r_X8_raise_49, ↓r_X8_raise_52, ↓r_X8_raise_55, ↓r_X8_raise_57, ↓r_X8_raise_58, ↓r_X8_raise_59, ↓r_X8_raise_60, ↓r_X8_raise_61, ↓r_X8_raise_64, ↓r_X8_raise_66, ↓r_X8_raise_68, ↓r_X8_raise_69, ↓r_X8_raise_71, ↓r_X8_raise_72, ↓r_X8_raise_75, ↓r_X8_raise_76, ↓r_X8_raise_79, ↓r_X8_raise_82, ↓r_X8_raise_84, ↓r_X8_raise_87, ↓r_X8_raise_88, ↓r_X8_raise_89, ↓x1_1, ↓lf_X8_isNode, ↓x31_0, ↓x31b0, ↓x1_2, ↓x1_3, ↓x31_1, ↓x31b1, ↓x0, ↓x48_0, ↓x1_4, ↓lf_X8_isOfWhole, ↓x32_0, ↓x2_0, ↓f8_0, ↓f3_3, ↓lf_X8_isIn, ↓lf_X8_rowOf, ↓x5_5n, ↓x5_5i, ↓x5_5r, ↓x2_5, ↓f8_8, ↓f8_2, ↓v5_5, ↓f5_0, ↓l_2, ↓l_3, ↓l_4, ↓l_5, ↓l_6, ↓l_7, ↓l_9, ↓l_10, ↓l_11, ↓l_12, ↓l_13, ↓l_15, ↓l_16, ↓l_r1, ↓l_r2, ↓l_w1, ↓l_w2, and_self, and_true, true_and, implies_true, true_implies, Int.reduceEq, Int.reduceLE, Int.reduceLT, not_true_eq_false, not_false_eq_true, false_implies, RTf_eq, a1, a2, a3, a4, a5]
        · rw [if_neg (by simp [c3, c4])] at hA
          exact absurd hA hn
    · have a4 : b2 (0 ≤ rr ∧ rr ≤ 1000) = 0 := by simp [b2, c2]
      rw [if_pos c2] at hA
      subst hA
      simp +contextual (disch := first | omega | exact Nat.le_of_ble_eq_true rfl | assumption) only [↓r_X8_raise_0, ↓r_X8_raise_1, ↓r_X8_raise_4, ↓r_X8_raise_7, ↓r_X8_raise_8, ↓r_X8_raise_11, ↓r_X8_raise_14, ↓r_X8_raise_15, ↓r_X8_raise_18, ↓r_X8_raise_21, ↓r_X8_raise_22, ↓r_X8_raise_23, ↓r_X8_raise_25, ↓r_X8_raise_28, ↓r_X8_raise_31, ↓r_X8_raise_33, ↓r_X8_raise_34, ↓r_X8_raise_35, ↓r_X8_raise_36, ↓r_X8_raise_39, ↓r_X8_raise_40, ↓r_X8_raise_43, ↓r_X8_raise_46, ↓r_X8_raise_47, ↓r_X8_raise_48, ↓r_X8_raise_49, ↓r_X8_raise_52, ↓r_X8_raise_55, ↓r_X8_raise_57, ↓r_X8_raise_58, ↓r_X8_raise_59, ↓r_X8_raise_60, ↓r_X8_raise_61, ↓r_X8_raise_64, ↓r_X8_raise_66, ↓r_X8_raise_68, ↓r_X8_raise_69, ↓r_X8_raise_71, ↓r_X8_raise_72, ↓r_X8_raise_75, ↓r_X8_raise_76, ↓r_X8_raise_79, ↓r_X8_raise_82, ↓r_X8_raise_84, ↓r_X8_raise_87, ↓r_X8_raise_88, ↓r_X8_raise_89, ↓x1_1, ↓lf_X8_isNode, ↓x31_0, ↓x31b0, ↓x1_2, ↓x1_3, ↓x31_1, ↓x31b1, ↓x0, ↓x48_0, ↓x1_4, ↓lf_X8_isOfWhole, ↓x32_0, ↓x2_0, ↓f8_0, ↓f3_3, ↓lf_X8_isIn, ↓lf_X8_rowOf, ↓x5_5n, ↓x5_5i, ↓x5_5r, ↓x2_5, ↓f8_8, ↓f8_2, ↓v5_5, ↓f5_0, ↓l_2, ↓l_3, ↓l_4, ↓l_5, ↓l_6, ↓l_7, ↓l_9, ↓l_10, ↓l_11, ↓l_12, ↓l_13, ↓l_15, ↓l_16, ↓l_r1, ↓l_r2, ↓l_w1, ↓l_w2, and_self, and_true, true_and, implies_true, true_implies, Int.reduceEq, Int.reduceLE, Int.reduceLT, not_true_eq_false, not_false_eq_true, false_implies, RTf_eq, a1, a2, a3, a4]
  · rw [if_pos c1] at hA
    subst hA
    simp +contextual (disch := first | omega | exact Nat.le_of_ble_eq_true rfl | assumption) only [↓r_X8_raise_0, ↓r_X8_raise_1, ↓r_X8_raise_4, ↓r_X8_raise_7, ↓r_X8_raise_8, ↓r_X8_raise_11, ↓r_X8_raise_14, ↓r_X8_raise_15, ↓r_X8_raise_18, ↓r_X8_raise_21, ↓r_X8_raise_22, ↓r_X8_raise_23, ↓r_X8_raise_25, ↓r_X8_raise_28, ↓r_X8_raise_31, ↓r_X8_raise_33, ↓r_X8_raise_34, ↓r_X8_raise_35, ↓r_X8_raise_36, ↓r_X8_raise_39, ↓r_X8_raise_40, ↓r_X8_raise_43, ↓r_X8_raise_46, ↓r_X8_raise_47, ↓r_X8_raise_48, ↓r_X8_raise_49, ↓r_X8_raise_52, ↓r_X8_raise_55, ↓r_X8_raise_57, ↓r_X8_raise_58, ↓r_X8_raise_59, ↓r_X8_raise_60, ↓r_X8_raise_61, ↓r_X8_raise_64, ↓r_X8_raise_66, ↓r_X8_raise_68, ↓r_X8_raise_69, ↓r_X8_raise_71, ↓r_X8_raise_72, ↓r_X8_raise_75, ↓r_X8_raise_76, ↓r_X8_raise_79, ↓r_X8_raise_82, ↓r_X8_raise_84, ↓r_X8_raise_87, ↓r_X8_raise_88, ↓r_X8_raise_89, ↓x1_1, ↓lf_X8_isNode, ↓x31_0, ↓x31b0, ↓x1_2, ↓x1_3, ↓x31_1, ↓x31b1, ↓x0, ↓x48_0, ↓x1_4, ↓lf_X8_isOfWhole, ↓x32_0, ↓x2_0, ↓f8_0, ↓f3_3, ↓lf_X8_isIn, ↓lf_X8_rowOf, ↓x5_5n, ↓x5_5i, ↓x5_5r, ↓x2_5, ↓f8_8, ↓f8_2, ↓v5_5, ↓f5_0, ↓l_2, ↓l_3, ↓l_4, ↓l_5, ↓l_6, ↓l_7, ↓l_9, ↓l_10, ↓l_11, ↓l_12, ↓l_13, ↓l_15, ↓l_16, ↓l_r1, ↓l_r2, ↓l_w1, ↓l_w2, and_self, and_true, true_and, implies_true, true_implies, Int.reduceEq, Int.reduceLE, Int.reduceLT, not_true_eq_false, not_false_eq_true, false_implies, RTf_eq]
    (repeat' first | rfl | (refine And.intro ?_ ?_) | intro _ | (exfalso; omega))
theorem raR_0 {i t k rr : Int} {nb : Bool} (h : raR i t k rr nb = 0) : ((0 ≤ i ∧ i ≤ 7) ∧ (0 ≤ t ∧ t ≤ 7) ∧ (0 ≤ k ∧ k ≤ 7)) ∧ (0 ≤ rr ∧ rr ≤ 1000) ∧ ¬ i = t ∧ nb = true := by
  unfold raR at h
  by_cases c1 : (0 ≤ i ∧ i ≤ 7) ∧ (0 ≤ t ∧ t ≤ 7) ∧ (0 ≤ k ∧ k ≤ 7)
  · rw [if_neg (fun f => f c1)] at h
    by_cases c2 : 0 ≤ rr ∧ rr ≤ 1000
    · rw [if_neg (fun f => f c2)] at h
      by_cases c3 : i = t ∨ nb = false
      · rw [if_pos c3] at h; omega
      · refine ⟨c1, c2, fun f => c3 (Or.inl f), ?_⟩
        cases nb
        · exact absurd (Or.inr rfl) c3
        · rfl
    · rw [if_pos c2] at h; omega
  · rw [if_pos c1] at h; omega
theorem c_raise8y {i t k rr : Int} {m : Set8} {v : Vec} (em : m = bs (M (17 + 3 * (i * 8 + t)) 2)) (ev : v = M (18 + 3 * (i * 8 + t))) (hy : raR i t k rr (bs (M 5 i) k) = 0) (h5 : ∀ z, 0 ≤ z → z < 8 → 0 ≤ M 5 z ∧ M 5 z < 256) (hs : M (17 + 3 * (i * 8 + t)) 2 = M 5 i) (hf : 0 ≤ M 0 8 ∧ M 0 8 ≤ 100) (hsh : ∀ j, 0 ≤ j → j < 8 → 0 ≤ v j ∧ v j ≤ 1000) (hv : RV m v) :
    ∃ p' w' : Vec, Ctr E 5 53 [vr 0, vi i, vi t, vi k, vi rr] (toAH S M) (some (vi (rsF (M 0 8) m k rr v k))) (toAH S (putv (putv (putv M 9 0 p') 11 0 w') (18 + 3 * (i * 8 + t)) 0 (rsF (M 0 8) m k rr v))) := by
  obtain ⟨c1, c2, c3, c4⟩ := raR_0 hy
  have g5 := h5 i (by omega) (by omega)
  obtain ⟨p', w', cA⟩ := c_raiseC (E := E) (S := S) (M := M) (r := i * 8 + t) (k0 := k) (rr := rr) (fl := M 0 8) em ev (by omega) (by rw [hs]; exact g5) (by omega) (by rw [em, hs]; exact c4) c2 hf hsh hv
  refine ⟨p', w', ?_⟩
  have a1 : b2 (0 ≤ i ∧ i ≤ 7) = 1 := by simp [b2, c1.1]
  have a2 : b2 (0 ≤ t ∧ t ≤ 7) = 1 := by simp [b2, c1.2.1]
  have a3 : b2 (0 ≤ k ∧ k ≤ 7) = 1 := by simp [b2, c1.2.2]
  have a4 : b2 (0 ≤ rr ∧ rr ≤ 1000) = 1 := by simp [b2, c2]
  have a5 : b2 (bzd (M 5 i) k = true) = 1 := by
    have : bzd (M 5 i) k = true := c4
    simp [b2, this]
  have e1 : putv (putv (putv M 9 0 p') 11 0 w') (18 + 3 * (i * 8 + t)) 0 (rsF (M 0 8) m k rr v) (18 + 3 * (i * 8 + t)) k = rsF (M 0 8) m k rr v k := putv_at0 (by omega) (by omega)
  obtain ⟨N, eN⟩ : ∃ N, N = putv (putv (putv M 9 0 p') 11 0 w') (18 + 3 * (i * 8 + t)) 0 (rsF (M 0 8) m k rr v) := ⟨_, rfl⟩
  rw [← eN] at cA e1 ⊢
  refine Ctr_f mi_X8_raise mo_X8_raise (Nat.le_of_ble_eq_true rfl) ⟨Nat.le_refl _, Nat.le_refl _⟩ (fun g lm => ?_)
  rw [show entL mi_X8_raise.2.2.1 [vr 0, vi i, vi t, vi k, vi rr] = [some (vr 0), some (vi i), some (vi t), some (vi k), some (vi rr), none] from rfl]
  refine e_X8_raise 400 (lfok E (by omega)) ?_
  simp +contextual (disch := first | omega | exact Nat.le_of_ble_eq_true rfl | assumption) only [↓r_X8_raise_0, ↓r_X8_raise_1, ↓r_X8_raise_4, ↓r_X8_raise_7, ↓r_X8_raise_8, ↓r_X8_raise_11, ↓r_X8_raise_14, ↓r_X8_raise_15, ↓r_X8_raise_18, ↓r_X8_raise_21, ↓r_X8_raise_22, ↓r_X8_raise_23, ↓r_X8_raise_25, ↓r_X8_raise_28, ↓r_X8_raise_31, ↓r_X8_raise_33, ↓r_X8_raise_34, ↓r_X8_raise_35, ↓r_X8_raise_36, ↓r_X8_raise_39, ↓r_X8_raise_40, ↓r_X8_raise_43, ↓r_X8_raise_46, ↓r_X8_raise_47, ↓r_X8_raise_48, ↓r_X8_raise_49, ↓r_X8_raise_52, ↓r_X8_raise_55, ↓r_X8_raise_57, ↓r_X8_raise_58, ↓r_X8_raise_59, ↓r_X8_raise_60, ↓r_X8_raise_61, ↓r_X8_raise_64, ↓r_X8_raise_66, ↓r_X8_raise_68, ↓r_X8_raise_69, ↓r_X8_raise_71, ↓r_X8_raise_72, ↓r_X8_raise_75, ↓r_X8_raise_76, ↓r_X8_raise_79, ↓r_X8_raise_82, ↓r_X8_raise_84, ↓r_X8_raise_87, ↓r_X8_raise_88, ↓r_X8_raise_89, ↓x1_1, ↓lf_X8_isNode, ↓x31_0, ↓x31b0, ↓x1_2, ↓x1_3, ↓x31_1, ↓x31b1, ↓x0, ↓x48_0, ↓x1_4, ↓lf_X8_isOfWhole, ↓x32_0, ↓x2_0, ↓f8_0, ↓f3_3, ↓lf_X8_isIn, ↓lf_X8_rowOf, ↓x5_5n, ↓x5_5i, ↓x5_5r, ↓x2_5, ↓f8_8, ↓f8_2, ↓v5_5, ↓f5_0, ↓l_2, ↓l_3, ↓l_4, ↓l_5, ↓l_6, ↓l_7, ↓l_9, ↓l_10, ↓l_11, ↓l_12, ↓l_13, ↓l_15, ↓l_16, ↓l_r1, ↓l_r2, ↓l_w1, ↓l_w2, and_self, and_true, true_and, implies_true, true_implies, Int.reduceEq, Int.reduceLE, Int.reduceLT, not_true_eq_false, not_false_eq_true, false_implies, RTf_eq, a1, a2, a3, a4, a5]
  refine ⟨fun f => absurd f c3, fun _ => ?_⟩
  refine ck_v cA (by omega) (by simp) ?_
  simp +contextual (disch := first | omega | exact Nat.le_of_ble_eq_true rfl | assumption) only [↓r_X8_raise_0, ↓r_X8_raise_1, ↓r_X8_raise_4, ↓r_X8_raise_7, ↓r_X8_raise_8, ↓r_X8_raise_11, ↓r_X8_raise_14, ↓r_X8_raise_15, ↓r_X8_raise_18, ↓r_X8_raise_21, ↓r_X8_raise_22, ↓r_X8_raise_23, ↓r_X8_raise_25, ↓r_X8_raise_28, ↓r_X8_raise_31, ↓r_X8_raise_33, ↓r_X8_raise_34, ↓r_X8_raise_35, ↓r_X8_raise_36, ↓r_X8_raise_39, ↓r_X8_raise_40, ↓r_X8_raise_43, ↓r_X8_raise_46, ↓r_X8_raise_47, ↓r_X8_raise_48, ↓r_X8_raise_49, ↓r_X8_raise_52, ↓r_X8_raise_55, ↓r_X8_raise_57, ↓r_X8_raise_58, ↓r_X8_raise_59, ↓r_X8_raise_60, ↓r_X8_raise_61, ↓r_X8_raise_64, ↓r_X8_raise_66, ↓r_X8_raise_68, ↓r_X8_raise_69, ↓r_X8_raise_71, ↓r_X8_raise_72, ↓r_X8_raise_75, ↓r_X8_raise_76, ↓r_X8_raise_79, ↓r_X8_raise_82, ↓r_X8_raise_84, ↓r_X8_raise_87, ↓r_X8_raise_88, ↓r_X8_raise_89, ↓x1_1, ↓lf_X8_isNode, ↓x31_0, ↓x31b0, ↓x1_2, ↓x1_3, ↓x31_1, ↓x31b1, ↓x0, ↓x48_0, ↓x1_4, ↓lf_X8_isOfWhole, ↓x32_0, ↓x2_0, ↓f8_0, ↓f3_3, ↓lf_X8_isIn, ↓lf_X8_rowOf, ↓x5_5n, ↓x5_5i, ↓x5_5r, ↓x2_5, ↓f8_8, ↓f8_2, ↓v5_5, ↓f5_0, ↓l_2, ↓l_3, ↓l_4, ↓l_5, ↓l_6, ↓l_7, ↓l_9, ↓l_10, ↓l_11, ↓l_12, ↓l_13, ↓l_15, ↓l_16, ↓l_r1, ↓l_r2, ↓l_w1, ↓l_w2, and_self, and_true, true_and, implies_true, true_implies, Int.reduceEq, Int.reduceLE, Int.reduceLT, not_true_eq_false, not_false_eq_true, false_implies, RTf_eq, e1]
theorem c_raise9n {i t k rr : Int} (hi : rg i) (ht : rg t) (hk : rg k) (hr : rg rr) (hM : ∀ z, 0 ≤ z → z < 64 → rg (M 253 z)) (hn : ¬ raR i t k rr (nbm M i k) = 0) : Ctr E 5 116 [vr 248, vi i, vi t, vi k, vi rr] (toAH S M) (some (vi (raR i t k rr (nbm M i k)))) (toAH S M) := by
  obtain ⟨A, hA⟩ : ∃ A, A = raR i t k rr (nbm M i k) := ⟨_, rfl⟩
  rw [← hA] at hn ⊢
  unfold raR at hA
  have en : nbm M i k = decide (¬ M 253 (8 * i + k) = -9) := rfl
  refine Ctr_f mi_X9_raise mo_X9_raise (Nat.le_of_ble_eq_true rfl) ⟨Nat.le_refl _, Nat.le_refl _⟩ (fun g lm => ?_)
  rw [show entL mi_X9_raise.2.2.1 [vr 248, vi i, vi t, vi k, vi rr] = [some (vr 248), some (vi i), some (vi t), some (vi k), some (vi rr)] from rfl]
  refine e_X9_raise 400 (lfok E (by omega)) ?_
  by_cases c1 : (0 ≤ i ∧ i ≤ 7) ∧ (0 ≤ t ∧ t ≤ 7) ∧ (0 ≤ k ∧ k ≤ 7)
  · have a1 : b2 (0 ≤ i ∧ i ≤ 7) = 1 := by simp [b2, c1.1]
    have a2 : b2 (0 ≤ t ∧ t ≤ 7) = 1 := by simp [b2, c1.2.1]
    have a3 : b2 (0 ≤ k ∧ k ≤ 7) = 1 := by simp [b2, c1.2.2]
    rw [if_neg (fun f => f c1)] at hA
    have g5 := hM (8 * i + k) (by omega) (by omega)
    by_cases c2 : 0 ≤ rr ∧ rr ≤ 1000
    · have a4 : b2 (0 ≤ rr ∧ rr ≤ 1000) = 1 := by simp [b2, c2]
      rw [if_neg (fun f => f c2)] at hA
      by_cases c3 : i = t
      · rw [if_pos (Or.inl c3)] at hA
        subst hA
        simp +contextual (disch := first | omega | exact Nat.le_of_ble_eq_true rfl | assumption) only [↓r_X9_raise_0, ↓r_X9_raise_1, ↓r_X9_raise_4, ↓r_X9_raise_7, ↓r_X9_raise_8, ↓r_X9_raise_11, ↓r_X9_raise_14, ↓r_X9_raise_15, ↓r_X9_raise_18, ↓r_X9_raise_21, ↓r_X9_raise_22, ↓r_X9_raise_23, ↓r_X9_raise_25, ↓r_X9_raise_26, ↓r_X9_raise_29, ↓r_X9_raise_32, ↓r_X9_raise_35, ↓r_X9_raise_37, ↓r_X9_raise_38, ↓r_X9_raise_39, ↓r_X9_raise_40, ↓r_X9_raise_43, ↓r_X9_raise_44, ↓r_X9_raise_45, ↓r_X9_raise_46, ↓r_X9_raise_49, ↓r_X9_raise_52, ↓r_X9_raise_54, ↓r_X9_raise_55, ↓r_X9_raise_56, ↓r_X9_raise_57, ↓r_X9_raise_58, ↓r_X9_raise_59, ↓r_X9_raise_61, ↓r_X9_raise_64, ↓r_X9_raise_65, ↓r_X9_raise_68, ↓r_X9_raise_69, ↓r_X9_raise_70, ↓r_X9_raise_73, ↓r_X9_raise_74, ↓r_X9_raise_75, ↓r_X9_raise_76, ↓x1_1, ↓lf_X9_isNode, ↓x31_0, ↓x31b0, ↓x1_2, ↓x1_3, ↓x31_1, ↓x31b1, ↓x0, ↓x48_0, ↓x1_4, ↓lf_X9_within, ↓x32_0, ↓x2_0, ↓lf_X9_isNext, ↓v9_5, ↓f9_5, ↓lf_X9_rowOf, ↓x8, ↓l_249, ↓l_250, ↓l_251, ↓l_252, ↓l_253, ↓l_254, ↓l_255, ↓l_256, ↓l_257, ↓l_258, ↓l_259, ↓l_260, ↓l_261, ↓l_262, ↓l_263, ↓l_264, ↓l_265, ↓l_266, ↓l_267, ↓l_268, ↓l_269, ↓l_270, ↓l_271, ↓l_272, ↓l_273, ↓l_274, and_self, and_true, true_and, implies_true, true_implies, Int.reduceEq, Int.reduceLE, Int.reduceLT, not_true_eq_false, not_false_eq_true, false_implies, RTf_eq, a1, a2, a3, a4]
        (repeat' first | rfl | (refine And.intro ?_ ?_) | intro _ | (exfalso; omega))
      · by_cases c4 : nbm M i k = false
        · rw [if_pos (Or.inr c4)] at hA
          have a5 : b2 (¬ M 253 (8 * i + k) = -9) = 0 := by
            rw [en] at c4
            have := of_decide_eq_false c4
            simp only [b2, if_neg this]
          subst hA
          simp +contextual (disch := first | omega | exact Nat.le_of_ble_eq_true rfl | assumption) only [↓r_X9_raise_0, ↓r_X9_raise_1, ↓r_X9_raise_4, ↓r_X9_raise_7, ↓r_X9_raise_8, ↓r_X9_raise_11, ↓r_X9_raise_14, ↓r_X9_raise_15, ↓r_X9_raise_18, ↓r_X9_raise_21, ↓r_X9_raise_22, ↓r_X9_raise_23, ↓r_X9_raise_25, ↓r_X9_raise_26, ↓r_X9_raise_29, ↓r_X9_raise_32, ↓r_X9_raise_35, ↓r_X9_raise_37, ↓r_X9_raise_38, ↓r_X9_raise_39, ↓r_X9_raise_40, ↓r_X9_raise_43, ↓r_X9_raise_44, ↓r_X9_raise_45, ↓r_X9_raise_46, ↓r_X9_raise_49, ↓r_X9_raise_52, ↓r_X9_raise_54, ↓r_X9_raise_55, ↓r_X9_raise_56, ↓r_X9_raise_57, ↓r_X9_raise_58, ↓r_X9_raise_59, ↓r_X9_raise_61, ↓r_X9_raise_64, ↓r_X9_raise_65, ↓r_X9_raise_68, ↓r_X9_raise_69, ↓r_X9_raise_70, ↓r_X9_raise_73, ↓r_X9_raise_74, ↓r_X9_raise_75, ↓r_X9_raise_76, ↓x1_1, ↓lf_X9_isNode, ↓x31_0, ↓x31b0, ↓x1_2, ↓x1_3, ↓x31_1, ↓x31b1, ↓x0, ↓x48_0, ↓x1_4, ↓lf_X9_within, ↓x32_0, ↓x2_0, ↓lf_X9_isNext, ↓v9_5, ↓f9_5, ↓lf_X9_rowOf, ↓x8, ↓l_249, ↓l_250, ↓l_251, ↓l_252, ↓l_253, ↓l_254, ↓l_255, ↓l_256, ↓l_257, ↓l_258, ↓l_259, ↓l_260, ↓l_261, ↓l_262, ↓l_263, ↓l_264, ↓l_265, ↓l_266, ↓l_267, ↓l_268, ↓l_269, ↓l_270, ↓l_271, ↓l_272, ↓l_273, ↓l_274, and_self, and_true, true_and, implies_true, true_implies, Int.reduceEq, Int.reduceLE, Int.reduceLT, not_true_eq_false, not_false_eq_true, false_implies, RTf_eq, a1, a2, a3, a4, a5]
        · rw [if_neg (by simp [c3, c4])] at hA
          exact absurd hA hn
    · have a4 : b2 (0 ≤ rr ∧ rr ≤ 1000) = 0 := by simp [b2, c2]
      rw [if_pos c2] at hA
      subst hA
      simp +contextual (disch := first | omega | exact Nat.le_of_ble_eq_true rfl | assumption) only [↓r_X9_raise_0, ↓r_X9_raise_1, ↓r_X9_raise_4, ↓r_X9_raise_7, ↓r_X9_raise_8, ↓r_X9_raise_11, ↓r_X9_raise_14, ↓r_X9_raise_15, ↓r_X9_raise_18, ↓r_X9_raise_21, ↓r_X9_raise_22, ↓r_X9_raise_23, ↓r_X9_raise_25, ↓r_X9_raise_26, ↓r_X9_raise_29, ↓r_X9_raise_32, ↓r_X9_raise_35, ↓r_X9_raise_37, ↓r_X9_raise_38, ↓r_X9_raise_39, ↓r_X9_raise_40, ↓r_X9_raise_43, ↓r_X9_raise_44, ↓r_X9_raise_45, ↓r_X9_raise_46, ↓r_X9_raise_49, ↓r_X9_raise_52, ↓r_X9_raise_54, ↓r_X9_raise_55, ↓r_X9_raise_56, ↓r_X9_raise_57, ↓r_X9_raise_58, ↓r_X9_raise_59, ↓r_X9_raise_61, ↓r_X9_raise_64, ↓r_X9_raise_65, ↓r_X9_raise_68, ↓r_X9_raise_69, ↓r_X9_raise_70, ↓r_X9_raise_73, ↓r_X9_raise_74, ↓r_X9_raise_75, ↓r_X9_raise_76, ↓x1_1, ↓lf_X9_isNode, ↓x31_0, ↓x31b0, ↓x1_2, ↓x1_3, ↓x31_1, ↓x31b1, ↓x0, ↓x48_0, ↓x1_4, ↓lf_X9_within, ↓x32_0, ↓x2_0, ↓lf_X9_isNext, ↓v9_5, ↓f9_5, ↓lf_X9_rowOf, ↓x8, ↓l_249, ↓l_250, ↓l_251, ↓l_252, ↓l_253, ↓l_254, ↓l_255, ↓l_256, ↓l_257, ↓l_258, ↓l_259, ↓l_260, ↓l_261, ↓l_262, ↓l_263, ↓l_264, ↓l_265, ↓l_266, ↓l_267, ↓l_268, ↓l_269, ↓l_270, ↓l_271, ↓l_272, ↓l_273, ↓l_274, and_self, and_true, true_and, implies_true, true_implies, Int.reduceEq, Int.reduceLE, Int.reduceLT, not_true_eq_false, not_false_eq_true, false_implies, RTf_eq, a1, a2, a3, a4]
  · rw [if_pos c1] at hA
    subst hA
    simp +contextual (disch := first | omega | exact Nat.le_of_ble_eq_true rfl | assumption) only [↓r_X9_raise_0, ↓r_X9_raise_1, ↓r_X9_raise_4, ↓r_X9_raise_7, ↓r_X9_raise_8, ↓r_X9_raise_11, ↓r_X9_raise_14, ↓r_X9_raise_15, ↓r_X9_raise_18, ↓r_X9_raise_21, ↓r_X9_raise_22, ↓r_X9_raise_23, ↓r_X9_raise_25, ↓r_X9_raise_26, ↓r_X9_raise_29, ↓r_X9_raise_32, ↓r_X9_raise_35, ↓r_X9_raise_37, ↓r_X9_raise_38, ↓r_X9_raise_39, ↓r_X9_raise_40, ↓r_X9_raise_43, ↓r_X9_raise_44, ↓r_X9_raise_45, ↓r_X9_raise_46, ↓r_X9_raise_49, ↓r_X9_raise_52, ↓r_X9_raise_54, ↓r_X9_raise_55, ↓r_X9_raise_56, ↓r_X9_raise_57, ↓r_X9_raise_58, ↓r_X9_raise_59, ↓r_X9_raise_61, ↓r_X9_raise_64, ↓r_X9_raise_65, ↓r_X9_raise_68, ↓r_X9_raise_69, ↓r_X9_raise_70, ↓r_X9_raise_73, ↓r_X9_raise_74, ↓r_X9_raise_75, ↓r_X9_raise_76, ↓x1_1, ↓lf_X9_isNode, ↓x31_0, ↓x31b0, ↓x1_2, ↓x1_3, ↓x31_1, ↓x31b1, ↓x0, ↓x48_0, ↓x1_4, ↓lf_X9_within, ↓x32_0, ↓x2_0, ↓lf_X9_isNext, ↓v9_5, ↓f9_5, ↓lf_X9_rowOf, ↓x8, ↓l_249, ↓l_250, ↓l_251, ↓l_252, ↓l_253, ↓l_254, ↓l_255, ↓l_256, ↓l_257, ↓l_258, ↓l_259, ↓l_260, ↓l_261, ↓l_262, ↓l_263, ↓l_264, ↓l_265, ↓l_266, ↓l_267, ↓l_268, ↓l_269, ↓l_270, ↓l_271, ↓l_272, ↓l_273, ↓l_274, and_self, and_true, true_and, implies_true, true_implies, Int.reduceEq, Int.reduceLE, Int.reduceLT, not_true_eq_false, not_false_eq_true, false_implies, RTf_eq]
    (repeat' first | rfl | (refine And.intro ?_ ?_) | intro _ | (exfalso; omega))
theorem c_raise9y {i t k rr : Int} {m : Set8} {v : Vec} (em : m = nbm M i) (ev : v = getv M 254 (8 * (8 * i + t))) (hy : raR i t k rr (nbm M i k) = 0) (hM : ∀ z, 0 ≤ z → z < 64 → rg (M 253 z)) (hf : 0 ≤ M 248 6 ∧ M 248 6 ≤ 100) (hsh : ∀ j, 0 ≤ j → j < 8 → 0 ≤ v j ∧ v j ≤ 1000) (hv : RV m v) :
    ∃ p' w' : Vec, Ctr E 5 116 [vr 248, vi i, vi t, vi k, vi rr] (toAH S M) (some (vi (rsF (M 248 6) m k rr v k))) (toAH S (putv (putv (putv M 255 0 p') 256 0 w') 254 (8 * (8 * i + t)) (rsF (M 248 6) m k rr v))) := by
  obtain ⟨c1, c2, c3, c4⟩ := raR_0 hy
  obtain ⟨p', w', cA⟩ := c_raise9 (E := E) (S := S) (M := M) (i := i) (d := t) (k0 := k) (rr := rr) (fl := M 248 6) (row := 8 * (8 * i + t)) rfl em ev rfl (by omega) (by omega) hM (by omega) (by rw [em]; exact c4) c2 hf hsh hv
  refine ⟨p', w', ?_⟩
  have a1 : b2 (0 ≤ i ∧ i ≤ 7) = 1 := by simp [b2, c1.1]
  have a2 : b2 (0 ≤ t ∧ t ≤ 7) = 1 := by simp [b2, c1.2.1]
  have a3 : b2 (0 ≤ k ∧ k ≤ 7) = 1 := by simp [b2, c1.2.2]
  have a4 : b2 (0 ≤ rr ∧ rr ≤ 1000) = 1 := by simp [b2, c2]
  have g5 := hM (8 * i + k) (by omega) (by omega)
  have a5 : b2 (¬ M 253 (8 * i + k) = -9) = 1 := by
    have : nbm M i k = decide (¬ M 253 (8 * i + k) = -9) := rfl
    rw [this] at c4
    have := of_decide_eq_true c4
    simp only [b2, if_pos this]
  have e1 : putv (putv (putv M 255 0 p') 256 0 w') 254 (8 * (8 * i + t)) (rsF (M 248 6) m k rr v) 254 (8 * (8 * i + t) + k) = rsF (M 248 6) m k rr v k := putv_at (by omega) (by omega)
  obtain ⟨N, eN⟩ : ∃ N, N = putv (putv (putv M 255 0 p') 256 0 w') 254 (8 * (8 * i + t)) (rsF (M 248 6) m k rr v) := ⟨_, rfl⟩
  rw [← eN] at cA e1 ⊢
  refine Ctr_f mi_X9_raise mo_X9_raise (Nat.le_of_ble_eq_true rfl) ⟨Nat.le_refl _, Nat.le_refl _⟩ (fun g lm => ?_)
  rw [show entL mi_X9_raise.2.2.1 [vr 248, vi i, vi t, vi k, vi rr] = [some (vr 248), some (vi i), some (vi t), some (vi k), some (vi rr)] from rfl]
  refine e_X9_raise 400 (lfok E (by omega)) ?_
  simp +contextual (disch := first | omega | exact Nat.le_of_ble_eq_true rfl | assumption) only [↓r_X9_raise_0, ↓r_X9_raise_1, ↓r_X9_raise_4, ↓r_X9_raise_7, ↓r_X9_raise_8, ↓r_X9_raise_11, ↓r_X9_raise_14, ↓r_X9_raise_15, ↓r_X9_raise_18, ↓r_X9_raise_21, ↓r_X9_raise_22, ↓r_X9_raise_23, ↓r_X9_raise_25, ↓r_X9_raise_26, ↓r_X9_raise_29, ↓r_X9_raise_32, ↓r_X9_raise_35, ↓r_X9_raise_37, ↓r_X9_raise_38, ↓r_X9_raise_39, ↓r_X9_raise_40, ↓r_X9_raise_43, ↓r_X9_raise_44, ↓r_X9_raise_45, ↓r_X9_raise_46, ↓r_X9_raise_49, ↓r_X9_raise_52, ↓r_X9_raise_54, ↓r_X9_raise_55, ↓r_X9_raise_56, ↓r_X9_raise_57, ↓r_X9_raise_58, ↓r_X9_raise_59, ↓r_X9_raise_61, ↓r_X9_raise_64, ↓r_X9_raise_65, ↓r_X9_raise_68, ↓r_X9_raise_69, ↓r_X9_raise_70, ↓r_X9_raise_73, ↓r_X9_raise_74, ↓r_X9_raise_75, ↓r_X9_raise_76, ↓x1_1, ↓lf_X9_isNode, ↓x31_0, ↓x31b0, ↓x1_2, ↓x1_3, ↓x31_1, ↓x31b1, ↓x0, ↓x48_0, ↓x1_4, ↓lf_X9_within, ↓x32_0, ↓x2_0, ↓lf_X9_isNext, ↓v9_5, ↓f9_5, ↓lf_X9_rowOf, ↓x8, ↓l_249, ↓l_250, ↓l_251, ↓l_252, ↓l_253, ↓l_254, ↓l_255, ↓l_256, ↓l_257, ↓l_258, ↓l_259, ↓l_260, ↓l_261, ↓l_262, ↓l_263, ↓l_264, ↓l_265, ↓l_266, ↓l_267, ↓l_268, ↓l_269, ↓l_270, ↓l_271, ↓l_272, ↓l_273, ↓l_274, and_self, and_true, true_and, implies_true, true_implies, Int.reduceEq, Int.reduceLE, Int.reduceLT, not_true_eq_false, not_false_eq_true, false_implies, RTf_eq, a1, a2, a3, a4, a5]
  refine ⟨fun f => absurd f c3, fun _ => ?_⟩
  refine ck_v cA (by omega) (by simp) ?_
  simp +contextual (disch := first | omega | exact Nat.le_of_ble_eq_true rfl | assumption) only [↓r_X9_raise_0, ↓r_X9_raise_1, ↓r_X9_raise_4, ↓r_X9_raise_7, ↓r_X9_raise_8, ↓r_X9_raise_11, ↓r_X9_raise_14, ↓r_X9_raise_15, ↓r_X9_raise_18, ↓r_X9_raise_21, ↓r_X9_raise_22, ↓r_X9_raise_23, ↓r_X9_raise_25, ↓r_X9_raise_26, ↓r_X9_raise_29, ↓r_X9_raise_32, ↓r_X9_raise_35, ↓r_X9_raise_37, ↓r_X9_raise_38, ↓r_X9_raise_39, ↓r_X9_raise_40, ↓r_X9_raise_43, ↓r_X9_raise_44, ↓r_X9_raise_45, ↓r_X9_raise_46, ↓r_X9_raise_49, ↓r_X9_raise_52, ↓r_X9_raise_54, ↓r_X9_raise_55, ↓r_X9_raise_56, ↓r_X9_raise_57, ↓r_X9_raise_58, ↓r_X9_raise_59, ↓r_X9_raise_61, ↓r_X9_raise_64, ↓r_X9_raise_65, ↓r_X9_raise_68, ↓r_X9_raise_69, ↓r_X9_raise_70, ↓r_X9_raise_73, ↓r_X9_raise_74, ↓r_X9_raise_75, ↓r_X9_raise_76, ↓x1_1, ↓lf_X9_isNode, ↓x31_0, ↓x31b0, ↓x1_2, ↓x1_3, ↓x31_1, ↓x31b1, ↓x0, ↓x48_0, ↓x1_4, ↓lf_X9_within, ↓x32_0, ↓x2_0, ↓lf_X9_isNext, ↓v9_5, ↓f9_5, ↓lf_X9_rowOf, ↓x8, ↓l_249, ↓l_250, ↓l_251, ↓l_252, ↓l_253, ↓l_254, ↓l_255, ↓l_256, ↓l_257, ↓l_258, ↓l_259, ↓l_260, ↓l_261, ↓l_262, ↓l_263, ↓l_264, ↓l_265, ↓l_266, ↓l_267, ↓l_268, ↓l_269, ↓l_270, ↓l_271, ↓l_272, ↓l_273, ↓l_274, and_self, and_true, true_and, implies_true, true_implies, Int.reduceEq, Int.reduceLE, Int.reduceLT, not_true_eq_false, not_false_eq_true, false_implies, RTf_eq, e1]
theorem c_memory8 {n k w : Int} (hn : rg n) (hk : rg k) (hw : rg w) (h3 : 0 ≤ n → n ≤ 11 → M (209 + 3 * n) 3 = 0 ∨ M (209 + 3 * n) 3 = 1) (h2 : 0 ≤ n → n ≤ 11 → rg (M (209 + 3 * n) 2)) : Ctr E 3 59 [vr 0, vi n, vi k, vi w] (toAH S M) (some (vi (if (0 ≤ n ∧ n ≤ 11) ∧ M (209 + 3 * n) 3 = 1 then (if (0 ≤ k ∧ k ≤ 7) ∧ (0 ≤ w ∧ w ≤ 1) then (if k < M (209 + 3 * n) 2 then (if w = 0 then M (210 + 3 * n) k else M (211 + 3 * n) k) else -9) else -2) else -1))) (toAH S M) := by
  obtain ⟨A, hA⟩ : ∃ A, A = (if (0 ≤ n ∧ n ≤ 11) ∧ M (209 + 3 * n) 3 = 1 then (if (0 ≤ k ∧ k ≤ 7) ∧ (0 ≤ w ∧ w ≤ 1) then (if k < M (209 + 3 * n) 2 then (if w = 0 then M (210 + 3 * n) k else M (211 + 3 * n) k) else -9) else -2) else -1) := ⟨_, rfl⟩
  rw [← hA]
  refine Ctr_f mi_X8_memory mo_X8_memory (Nat.le_of_ble_eq_true rfl) ⟨Nat.le_refl _, Nat.le_refl _⟩ (fun g lm => ?_)
  rw [show entL mi_X8_memory.2.2.1 [vr 0, vi n, vi k, vi w] = [some (vr 0), some (vi n), some (vi k), some (vi w), none] from rfl]
  refine e_X8_memory 400 (lfok E (by omega)) ?_
  by_cases h : (0 ≤ n ∧ n ≤ 11) ∧ M (209 + 3 * n) 3 = 1
  · have a1 : b2 ((0 ≤ n ∧ n ≤ 11) ∧ M (209 + 3 * n) 3 = 1) = 1 := by simp [b2, h.1, h.2]
    have n2 := h2 h.1.1 h.1.2
    rw [if_pos h] at hA
    by_cases c : (0 ≤ k ∧ k ≤ 7) ∧ (0 ≤ w ∧ w ≤ 1)
    · rw [if_pos c] at hA
      by_cases c2 : k < M (209 + 3 * n) 2
      · rw [if_pos c2] at hA
        by_cases c3 : w = 0
        · rw [if_pos c3] at hA
          subst hA
          simp +contextual (disch := first | omega | exact Nat.le_of_ble_eq_true rfl | assumption) only [↓r_X8_memory_0, ↓r_X8_memory_1, ↓r_X8_memory_2, ↓r_X8_memory_5, ↓r_X8_memory_8, ↓r_X8_memory_9, ↓r_X8_memory_10, ↓r_X8_memory_11, ↓r_X8_memory_14, ↓r_X8_memory_15, ↓r_X8_memory_17, ↓r_X8_memory_20, ↓r_X8_memory_21, ↓r_X8_memory_24, ↓r_X8_memory_25, ↓r_X8_memory_26, ↓r_X8_memory_29, ↓r_X8_memory_31, ↓r_X8_memory_32, ↓r_X8_memory_33, ↓r_X8_memory_36, ↓r_X8_memory_37, ↓r_X8_memory_38, ↓r_X8_memory_40, ↓r_X8_memory_41, ↓r_X8_memory_43, ↓r_X8_memory_46, ↓r_X8_memory_49, ↓r_X8_memory_51, ↓r_X8_memory_52, ↓r_X8_memory_53, ↓r_X8_memory_56, ↓r_X8_memory_58, ↓r_X8_memory_61, ↓r_X8_memory_62, ↓r_X8_memory_63, ↓r_X8_memory_66, ↓r_X8_memory_68, ↓r_X8_memory_71, ↓r_X8_memory_72, ↓r_X8_memory_73, ↓x2_0, ↓x1_1, ↓lf_X8_isWalker, ↓x31_1, ↓x31b1, ↓x0, ↓x48_0, ↓x1_2, ↓x31_2, ↓x32_3, ↓x1_3, ↓x32_5, ↓f8_3, ↓x5_4n, ↓x5_4i, ↓x5_4r, ↓x2_4, ↓f7_2, ↓x32_2, ↓f7_0, ↓x33, ↓f7_1, ↓l_2, ↓l_3, ↓l_4, ↓l_5, ↓l_6, ↓l_7, ↓l_9, ↓l_10, ↓l_11, ↓l_12, ↓l_13, ↓l_15, ↓l_16, ↓l_r1, ↓l_r2, ↓l_w1, ↓l_w2, and_self, and_true, true_and, implies_true, true_implies, Int.reduceEq, Int.reduceLE, Int.reduceLT, not_true_eq_false, not_false_eq_true, false_implies, RTf_eq, a1]
          (repeat' first | rfl | (refine And.intro ?_ ?_) | intro _ | (exfalso; omega))
        · rw [if_neg c3] at hA
          subst hA
          simp +contextual (disch := first | omega | exact Nat.le_of_ble_eq_true rfl | assumption) only [↓r_X8_memory_0, ↓r_X8_memory_1, ↓r_X8_memory_2, ↓r_X8_memory_5, ↓r_X8_memory_8, ↓r_X8_memory_9, ↓r_X8_memory_10, ↓r_X8_memory_11, ↓r_X8_memory_14, ↓r_X8_memory_15, ↓r_X8_memory_17, ↓r_X8_memory_20, ↓r_X8_memory_21, ↓r_X8_memory_24, ↓r_X8_memory_25, ↓r_X8_memory_26, ↓r_X8_memory_29, ↓r_X8_memory_31, ↓r_X8_memory_32, ↓r_X8_memory_33, ↓r_X8_memory_36, ↓r_X8_memory_37, ↓r_X8_memory_38, ↓r_X8_memory_40, ↓r_X8_memory_41, ↓r_X8_memory_43, ↓r_X8_memory_46, ↓r_X8_memory_49, ↓r_X8_memory_51, ↓r_X8_memory_52, ↓r_X8_memory_53, ↓r_X8_memory_56, ↓r_X8_memory_58, ↓r_X8_memory_61, ↓r_X8_memory_62, ↓r_X8_memory_63, ↓r_X8_memory_66, ↓r_X8_memory_68, ↓r_X8_memory_71, ↓r_X8_memory_72, ↓r_X8_memory_73, ↓x2_0, ↓x1_1, ↓lf_X8_isWalker, ↓x31_1, ↓x31b1, ↓x0, ↓x48_0, ↓x1_2, ↓x31_2, ↓x32_3, ↓x1_3, ↓x32_5, ↓f8_3, ↓x5_4n, ↓x5_4i, ↓x5_4r, ↓x2_4, ↓f7_2, ↓x32_2, ↓f7_0, ↓x33, ↓f7_1, ↓l_2, ↓l_3, ↓l_4, ↓l_5, ↓l_6, ↓l_7, ↓l_9, ↓l_10, ↓l_11, ↓l_12, ↓l_13, ↓l_15, ↓l_16, ↓l_r1, ↓l_r2, ↓l_w1, ↓l_w2, and_self, and_true, true_and, implies_true, true_implies, Int.reduceEq, Int.reduceLE, Int.reduceLT, not_true_eq_false, not_false_eq_true, false_implies, RTf_eq, a1]
          (repeat' first | rfl | (refine And.intro ?_ ?_) | intro _ | (exfalso; omega))
      · rw [if_neg c2] at hA
        subst hA
        simp +contextual (disch := first | omega | exact Nat.le_of_ble_eq_true rfl | assumption) only [↓r_X8_memory_0, ↓r_X8_memory_1, ↓r_X8_memory_2, ↓r_X8_memory_5, ↓r_X8_memory_8, ↓r_X8_memory_9, ↓r_X8_memory_10, ↓r_X8_memory_11, ↓r_X8_memory_14, ↓r_X8_memory_15, ↓r_X8_memory_17, ↓r_X8_memory_20, ↓r_X8_memory_21, ↓r_X8_memory_24, ↓r_X8_memory_25, ↓r_X8_memory_26, ↓r_X8_memory_29, ↓r_X8_memory_31, ↓r_X8_memory_32, ↓r_X8_memory_33, ↓r_X8_memory_36, ↓r_X8_memory_37, ↓r_X8_memory_38, ↓r_X8_memory_40, ↓r_X8_memory_41, ↓r_X8_memory_43, ↓r_X8_memory_46, ↓r_X8_memory_49, ↓r_X8_memory_51, ↓r_X8_memory_52, ↓r_X8_memory_53, ↓r_X8_memory_56, ↓r_X8_memory_58, ↓r_X8_memory_61, ↓r_X8_memory_62, ↓r_X8_memory_63, ↓r_X8_memory_66, ↓r_X8_memory_68, ↓r_X8_memory_71, ↓r_X8_memory_72, ↓r_X8_memory_73, ↓x2_0, ↓x1_1, ↓lf_X8_isWalker, ↓x31_1, ↓x31b1, ↓x0, ↓x48_0, ↓x1_2, ↓x31_2, ↓x32_3, ↓x1_3, ↓x32_5, ↓f8_3, ↓x5_4n, ↓x5_4i, ↓x5_4r, ↓x2_4, ↓f7_2, ↓x32_2, ↓f7_0, ↓x33, ↓f7_1, ↓l_2, ↓l_3, ↓l_4, ↓l_5, ↓l_6, ↓l_7, ↓l_9, ↓l_10, ↓l_11, ↓l_12, ↓l_13, ↓l_15, ↓l_16, ↓l_r1, ↓l_r2, ↓l_w1, ↓l_w2, and_self, and_true, true_and, implies_true, true_implies, Int.reduceEq, Int.reduceLE, Int.reduceLT, not_true_eq_false, not_false_eq_true, false_implies, RTf_eq, a1]
        (repeat' first | rfl | (refine And.intro ?_ ?_) | intro _ | (exfalso; omega))
    · rw [if_neg c] at hA
      subst hA
      simp +contextual (disch := first | omega | exact Nat.le_of_ble_eq_true rfl | assumption) only [↓r_X8_memory_0, ↓r_X8_memory_1, ↓r_X8_memory_2, ↓r_X8_memory_5, ↓r_X8_memory_8, ↓r_X8_memory_9, ↓r_X8_memory_10, ↓r_X8_memory_11, ↓r_X8_memory_14, ↓r_X8_memory_15, ↓r_X8_memory_17, ↓r_X8_memory_20, ↓r_X8_memory_21, ↓r_X8_memory_24, ↓r_X8_memory_25, ↓r_X8_memory_26, ↓r_X8_memory_29, ↓r_X8_memory_31, ↓r_X8_memory_32, ↓r_X8_memory_33, ↓r_X8_memory_36, ↓r_X8_memory_37, ↓r_X8_memory_38, ↓r_X8_memory_40, ↓r_X8_memory_41, ↓r_X8_memory_43, ↓r_X8_memory_46, ↓r_X8_memory_49, ↓r_X8_memory_51, ↓r_X8_memory_52, ↓r_X8_memory_53, ↓r_X8_memory_56, ↓r_X8_memory_58, ↓r_X8_memory_61, ↓r_X8_memory_62, ↓r_X8_memory_63, ↓r_X8_memory_66, ↓r_X8_memory_68, ↓r_X8_memory_71, ↓r_X8_memory_72, ↓r_X8_memory_73, ↓x2_0, ↓x1_1, ↓lf_X8_isWalker, ↓x31_1, ↓x31b1, ↓x0, ↓x48_0, ↓x1_2, ↓x31_2, ↓x32_3, ↓x1_3, ↓x32_5, ↓f8_3, ↓x5_4n, ↓x5_4i, ↓x5_4r, ↓x2_4, ↓f7_2, ↓x32_2, ↓f7_0, ↓x33, ↓f7_1, ↓l_2, ↓l_3, ↓l_4, ↓l_5, ↓l_6, ↓l_7, ↓l_9, ↓l_10, ↓l_11, ↓l_12, ↓l_13, ↓l_15, ↓l_16, ↓l_r1, ↓l_r2, ↓l_w1, ↓l_w2, and_self, and_true, true_and, implies_true, true_implies, Int.reduceEq, Int.reduceLE, Int.reduceLT, not_true_eq_false, not_false_eq_true, false_implies, RTf_eq, a1]
      (repeat' first | rfl | (refine And.intro ?_ ?_) | intro _ | (exfalso; omega))
  · rw [if_neg h] at hA
    subst hA
    simp +contextual (disch := first | omega | exact Nat.le_of_ble_eq_true rfl | assumption) only [↓r_X8_memory_0, ↓r_X8_memory_1, ↓r_X8_memory_2, ↓r_X8_memory_5, ↓r_X8_memory_8, ↓r_X8_memory_9, ↓r_X8_memory_10, ↓r_X8_memory_11, ↓r_X8_memory_14, ↓r_X8_memory_15, ↓r_X8_memory_17, ↓r_X8_memory_20, ↓r_X8_memory_21, ↓r_X8_memory_24, ↓r_X8_memory_25, ↓r_X8_memory_26, ↓r_X8_memory_29, ↓r_X8_memory_31, ↓r_X8_memory_32, ↓r_X8_memory_33, ↓r_X8_memory_36, ↓r_X8_memory_37, ↓r_X8_memory_38, ↓r_X8_memory_40, ↓r_X8_memory_41, ↓r_X8_memory_43, ↓r_X8_memory_46, ↓r_X8_memory_49, ↓r_X8_memory_51, ↓r_X8_memory_52, ↓r_X8_memory_53, ↓r_X8_memory_56, ↓r_X8_memory_58, ↓r_X8_memory_61, ↓r_X8_memory_62, ↓r_X8_memory_63, ↓r_X8_memory_66, ↓r_X8_memory_68, ↓r_X8_memory_71, ↓r_X8_memory_72, ↓r_X8_memory_73, ↓x2_0, ↓x1_1, ↓lf_X8_isWalker, ↓x31_1, ↓x31b1, ↓x0, ↓x48_0, ↓x1_2, ↓x31_2, ↓x32_3, ↓x1_3, ↓x32_5, ↓f8_3, ↓x5_4n, ↓x5_4i, ↓x5_4r, ↓x2_4, ↓f7_2, ↓x32_2, ↓f7_0, ↓x33, ↓f7_1, ↓l_2, ↓l_3, ↓l_4, ↓l_5, ↓l_6, ↓l_7, ↓l_9, ↓l_10, ↓l_11, ↓l_12, ↓l_13, ↓l_15, ↓l_16, ↓l_r1, ↓l_r2, ↓l_w1, ↓l_w2, and_self, and_true, true_and, implies_true, true_implies, Int.reduceEq, Int.reduceLE, Int.reduceLT, not_true_eq_false, not_false_eq_true, false_implies, RTf_eq]
    (repeat' first | rfl | (refine And.intro ?_ ?_) | intro _ | (exfalso; omega))
theorem c_memory9 {n k w : Int} (hn : rg n) (hk : rg k) (hw : rg w) (h3 : 0 ≤ n → n ≤ 11 → M 258 n = 0 ∨ M 258 n = 1) (h2 : 0 ≤ n → n ≤ 11 → rg (M 267 n)) : Ctr E 3 136 [vr 248, vi n, vi k, vi w] (toAH S M) (some (vi (if (0 ≤ n ∧ n ≤ 11) ∧ M 258 n = 1 then (if (0 ≤ k ∧ k ≤ 7) ∧ (0 ≤ w ∧ w ≤ 1) then (if k < M 267 n then (if w = 0 then M 268 (8 * n + k) else M 269 (8 * n + k)) else -9) else -2) else -1))) (toAH S M) := by
  obtain ⟨A, hA⟩ : ∃ A, A = (if (0 ≤ n ∧ n ≤ 11) ∧ M 258 n = 1 then (if (0 ≤ k ∧ k ≤ 7) ∧ (0 ≤ w ∧ w ≤ 1) then (if k < M 267 n then (if w = 0 then M 268 (8 * n + k) else M 269 (8 * n + k)) else -9) else -2) else -1) := ⟨_, rfl⟩
  rw [← hA]
  refine Ctr_f mi_X9_memory mo_X9_memory (Nat.le_of_ble_eq_true rfl) ⟨Nat.le_refl _, Nat.le_refl _⟩ (fun g lm => ?_)
  rw [show entL mi_X9_memory.2.2.1 [vr 248, vi n, vi k, vi w] = [some (vr 248), some (vi n), some (vi k), some (vi w)] from rfl]
  refine e_X9_memory 400 (lfok E (by omega)) ?_
  by_cases h : (0 ≤ n ∧ n ≤ 11) ∧ M 258 n = 1
  · have a1 : b2 ((0 ≤ n ∧ n ≤ 11) ∧ M 258 n = 1) = 1 := by simp [b2, h.1, h.2]
    have n2 := h2 h.1.1 h.1.2
    rw [if_pos h] at hA
    by_cases c : (0 ≤ k ∧ k ≤ 7) ∧ (0 ≤ w ∧ w ≤ 1)
    · have a2 : b2 (0 ≤ k ∧ k ≤ 7) = 1 := by simp [b2, c.1]
      have a3 : b2 (0 ≤ w ∧ w ≤ 1) = 1 := by simp [b2, c.2]
      rw [if_pos c] at hA
      by_cases c2 : k < M 267 n
      · rw [if_pos c2] at hA
        by_cases c3 : w = 0
        · rw [if_pos c3] at hA
          subst hA
          simp +contextual (disch := first | omega | exact Nat.le_of_ble_eq_true rfl | assumption) only [↓r_X9_memory_0, ↓r_X9_memory_1, ↓r_X9_memory_2, ↓r_X9_memory_5, ↓r_X9_memory_8, ↓r_X9_memory_9, ↓r_X9_memory_10, ↓r_X9_memory_11, ↓r_X9_memory_12, ↓r_X9_memory_14, ↓r_X9_memory_17, ↓r_X9_memory_20, ↓r_X9_memory_21, ↓r_X9_memory_22, ↓r_X9_memory_23, ↓r_X9_memory_26, ↓r_X9_memory_29, ↓r_X9_memory_31, ↓r_X9_memory_32, ↓r_X9_memory_33, ↓r_X9_memory_34, ↓r_X9_memory_37, ↓r_X9_memory_38, ↓r_X9_memory_39, ↓r_X9_memory_42, ↓r_X9_memory_44, ↓r_X9_memory_45, ↓r_X9_memory_46, ↓r_X9_memory_49, ↓r_X9_memory_50, ↓r_X9_memory_53, ↓r_X9_memory_55, ↓r_X9_memory_56, ↓r_X9_memory_57, ↓r_X9_memory_58, ↓r_X9_memory_59, ↓r_X9_memory_60, ↓r_X9_memory_63, ↓r_X9_memory_64, ↓r_X9_memory_67, ↓r_X9_memory_69, ↓r_X9_memory_70, ↓r_X9_memory_71, ↓r_X9_memory_72, ↓r_X9_memory_73, ↓r_X9_memory_74, ↓x2_0, ↓x1_1, ↓lf_X9_isOne, ↓x31_1, ↓x31b1, ↓x0, ↓x48_0, ↓x1_2, ↓lf_X9_within, ↓x31_0, ↓x31b0, ↓x1_3, ↓f9_26, ↓x32_2, ↓f9_27, ↓x10, ↓x8, ↓x33, ↓f9_28, ↓l_249, ↓l_250, ↓l_251, ↓l_252, ↓l_253, ↓l_254, ↓l_255, ↓l_256, ↓l_257, ↓l_258, ↓l_259, ↓l_260, ↓l_261, ↓l_262, ↓l_263, ↓l_264, ↓l_265, ↓l_266, ↓l_267, ↓l_268, ↓l_269, ↓l_270, ↓l_271, ↓l_272, ↓l_273, ↓l_274, and_self, and_true, true_and, implies_true, true_implies, Int.reduceEq, Int.reduceLE, Int.reduceLT, not_true_eq_false, not_false_eq_true, false_implies, RTf_eq, a1, a2, a3]
          (repeat' first | rfl | (refine And.intro ?_ ?_) | intro _ | (exfalso; omega))
        · rw [if_neg c3] at hA
          subst hA
          simp +contextual (disch := first | omega | exact Nat.le_of_ble_eq_true rfl | assumption) only [↓r_X9_memory_0, ↓r_X9_memory_1, ↓r_X9_memory_2, ↓r_X9_memory_5, ↓r_X9_memory_8, ↓r_X9_memory_9, ↓r_X9_memory_10, ↓r_X9_memory_11, ↓r_X9_memory_12, ↓r_X9_memory_14, ↓r_X9_memory_17, ↓r_X9_memory_20, ↓r_X9_memory_21, ↓r_X9_memory_22, ↓r_X9_memory_23, ↓r_X9_memory_26, ↓r_X9_memory_29, ↓r_X9_memory_31, ↓r_X9_memory_32, ↓r_X9_memory_33, ↓r_X9_memory_34, ↓r_X9_memory_37, ↓r_X9_memory_38, ↓r_X9_memory_39, ↓r_X9_memory_42, ↓r_X9_memory_44, ↓r_X9_memory_45, ↓r_X9_memory_46, ↓r_X9_memory_49, ↓r_X9_memory_50, ↓r_X9_memory_53, ↓r_X9_memory_55, ↓r_X9_memory_56, ↓r_X9_memory_57, ↓r_X9_memory_58, ↓r_X9_memory_59, ↓r_X9_memory_60, ↓r_X9_memory_63, ↓r_X9_memory_64, ↓r_X9_memory_67, ↓r_X9_memory_69, ↓r_X9_memory_70, ↓r_X9_memory_71, ↓r_X9_memory_72, ↓r_X9_memory_73, ↓r_X9_memory_74, ↓x2_0, ↓x1_1, ↓lf_X9_isOne, ↓x31_1, ↓x31b1, ↓x0, ↓x48_0, ↓x1_2, ↓lf_X9_within, ↓x31_0, ↓x31b0, ↓x1_3, ↓f9_26, ↓x32_2, ↓f9_27, ↓x10, ↓x8, ↓x33, ↓f9_28, ↓l_249, ↓l_250, ↓l_251, ↓l_252, ↓l_253, ↓l_254, ↓l_255, ↓l_256, ↓l_257, ↓l_258, ↓l_259, ↓l_260, ↓l_261, ↓l_262, ↓l_263, ↓l_264, ↓l_265, ↓l_266, ↓l_267, ↓l_268, ↓l_269, ↓l_270, ↓l_271, ↓l_272, ↓l_273, ↓l_274, and_self, and_true, true_and, implies_true, true_implies, Int.reduceEq, Int.reduceLE, Int.reduceLT, not_true_eq_false, not_false_eq_true, false_implies, RTf_eq, a1, a2, a3]
          (repeat' first | rfl | (refine And.intro ?_ ?_) | intro _ | (exfalso; omega))
      · rw [if_neg c2] at hA
        subst hA
        simp +contextual (disch := first | omega | exact Nat.le_of_ble_eq_true rfl | assumption) only [↓r_X9_memory_0, ↓r_X9_memory_1, ↓r_X9_memory_2, ↓r_X9_memory_5, ↓r_X9_memory_8, ↓r_X9_memory_9, ↓r_X9_memory_10, ↓r_X9_memory_11, ↓r_X9_memory_12, ↓r_X9_memory_14, ↓r_X9_memory_17, ↓r_X9_memory_20, ↓r_X9_memory_21, ↓r_X9_memory_22, ↓r_X9_memory_23, ↓r_X9_memory_26, ↓r_X9_memory_29, ↓r_X9_memory_31, ↓r_X9_memory_32, ↓r_X9_memory_33, ↓r_X9_memory_34, ↓r_X9_memory_37, ↓r_X9_memory_38, ↓r_X9_memory_39, ↓r_X9_memory_42, ↓r_X9_memory_44, ↓r_X9_memory_45, ↓r_X9_memory_46, ↓r_X9_memory_49, ↓r_X9_memory_50, ↓r_X9_memory_53, ↓r_X9_memory_55, ↓r_X9_memory_56, ↓r_X9_memory_57, ↓r_X9_memory_58, ↓r_X9_memory_59, ↓r_X9_memory_60, ↓r_X9_memory_63, ↓r_X9_memory_64, ↓r_X9_memory_67, ↓r_X9_memory_69, ↓r_X9_memory_70, ↓r_X9_memory_71, ↓r_X9_memory_72, ↓r_X9_memory_73, ↓r_X9_memory_74, ↓x2_0, ↓x1_1, ↓lf_X9_isOne, ↓x31_1, ↓x31b1, ↓x0, ↓x48_0, ↓x1_2, ↓lf_X9_within, ↓x31_0, ↓x31b0, ↓x1_3, ↓f9_26, ↓x32_2, ↓f9_27, ↓x10, ↓x8, ↓x33, ↓f9_28, ↓l_249, ↓l_250, ↓l_251, ↓l_252, ↓l_253, ↓l_254, ↓l_255, ↓l_256, ↓l_257, ↓l_258, ↓l_259, ↓l_260, ↓l_261, ↓l_262, ↓l_263, ↓l_264, ↓l_265, ↓l_266, ↓l_267, ↓l_268, ↓l_269, ↓l_270, ↓l_271, ↓l_272, ↓l_273, ↓l_274, and_self, and_true, true_and, implies_true, true_implies, Int.reduceEq, Int.reduceLE, Int.reduceLT, not_true_eq_false, not_false_eq_true, false_implies, RTf_eq, a1, a2, a3]
        (repeat' first | rfl | (refine And.intro ?_ ?_) | intro _ | (exfalso; omega))
    · rw [if_neg c] at hA
      subst hA
      simp +contextual (disch := first | omega | exact Nat.le_of_ble_eq_true rfl | assumption) only [↓r_X9_memory_0, ↓r_X9_memory_1, ↓r_X9_memory_2, ↓r_X9_memory_5, ↓r_X9_memory_8, ↓r_X9_memory_9, ↓r_X9_memory_10, ↓r_X9_memory_11, ↓r_X9_memory_12, ↓r_X9_memory_14, ↓r_X9_memory_17, ↓r_X9_memory_20, ↓r_X9_memory_21, ↓r_X9_memory_22, ↓r_X9_memory_23, ↓r_X9_memory_26, ↓r_X9_memory_29, ↓r_X9_memory_31, ↓r_X9_memory_32, ↓r_X9_memory_33, ↓r_X9_memory_34, ↓r_X9_memory_37, ↓r_X9_memory_38, ↓r_X9_memory_39, ↓r_X9_memory_42, ↓r_X9_memory_44, ↓r_X9_memory_45, ↓r_X9_memory_46, ↓r_X9_memory_49, ↓r_X9_memory_50, ↓r_X9_memory_53, ↓r_X9_memory_55, ↓r_X9_memory_56, ↓r_X9_memory_57, ↓r_X9_memory_58, ↓r_X9_memory_59, ↓r_X9_memory_60, ↓r_X9_memory_63, ↓r_X9_memory_64, ↓r_X9_memory_67, ↓r_X9_memory_69, ↓r_X9_memory_70, ↓r_X9_memory_71, ↓r_X9_memory_72, ↓r_X9_memory_73, ↓r_X9_memory_74, ↓x2_0, ↓x1_1, ↓lf_X9_isOne, ↓x31_1, ↓x31b1, ↓x0, ↓x48_0, ↓x1_2, ↓lf_X9_within, ↓x31_0, ↓x31b0, ↓x1_3, ↓f9_26, ↓x32_2, ↓f9_27, ↓x10, ↓x8, ↓x33, ↓f9_28, ↓l_249, ↓l_250, ↓l_251, ↓l_252, ↓l_253, ↓l_254, ↓l_255, ↓l_256, ↓l_257, ↓l_258, ↓l_259, ↓l_260, ↓l_261, ↓l_262, ↓l_263, ↓l_264, ↓l_265, ↓l_266, ↓l_267, ↓l_268, ↓l_269, ↓l_270, ↓l_271, ↓l_272, ↓l_273, ↓l_274, and_self, and_true, true_and, implies_true, true_implies, Int.reduceEq, Int.reduceLE, Int.reduceLT, not_true_eq_false, not_false_eq_true, false_implies, RTf_eq, a1]
      (repeat' first | rfl | (refine And.intro ?_ ?_) | intro _ | (exfalso; omega))
  · rw [if_neg h] at hA
    subst hA
    simp +contextual (disch := first | omega | exact Nat.le_of_ble_eq_true rfl | assumption) only [↓r_X9_memory_0, ↓r_X9_memory_1, ↓r_X9_memory_2, ↓r_X9_memory_5, ↓r_X9_memory_8, ↓r_X9_memory_9, ↓r_X9_memory_10, ↓r_X9_memory_11, ↓r_X9_memory_12, ↓r_X9_memory_14, ↓r_X9_memory_17, ↓r_X9_memory_20, ↓r_X9_memory_21, ↓r_X9_memory_22, ↓r_X9_memory_23, ↓r_X9_memory_26, ↓r_X9_memory_29, ↓r_X9_memory_31, ↓r_X9_memory_32, ↓r_X9_memory_33, ↓r_X9_memory_34, ↓r_X9_memory_37, ↓r_X9_memory_38, ↓r_X9_memory_39, ↓r_X9_memory_42, ↓r_X9_memory_44, ↓r_X9_memory_45, ↓r_X9_memory_46, ↓r_X9_memory_49, ↓r_X9_memory_50, ↓r_X9_memory_53, ↓r_X9_memory_55, ↓r_X9_memory_56, ↓r_X9_memory_57, ↓r_X9_memory_58, ↓r_X9_memory_59, ↓r_X9_memory_60, ↓r_X9_memory_63, ↓r_X9_memory_64, ↓r_X9_memory_67, ↓r_X9_memory_69, ↓r_X9_memory_70, ↓r_X9_memory_71, ↓r_X9_memory_72, ↓r_X9_memory_73, ↓r_X9_memory_74, ↓x2_0, ↓x1_1, ↓lf_X9_isOne, ↓x31_1, ↓x31b1, ↓x0, ↓x48_0, ↓x1_2, ↓lf_X9_within, ↓x31_0, ↓x31b0, ↓x1_3, ↓f9_26, ↓x32_2, ↓f9_27, ↓x10, ↓x8, ↓x33, ↓f9_28, ↓l_249, ↓l_250, ↓l_251, ↓l_252, ↓l_253, ↓l_254, ↓l_255, ↓l_256, ↓l_257, ↓l_258, ↓l_259, ↓l_260, ↓l_261, ↓l_262, ↓l_263, ↓l_264, ↓l_265, ↓l_266, ↓l_267, ↓l_268, ↓l_269, ↓l_270, ↓l_271, ↓l_272, ↓l_273, ↓l_274, and_self, and_true, true_and, implies_true, true_implies, Int.reduceEq, Int.reduceLE, Int.reduceLT, not_true_eq_false, not_false_eq_true, false_implies, RTf_eq]
    (repeat' first | rfl | (refine And.intro ?_ ?_) | intro _ | (exfalso; omega))
end
