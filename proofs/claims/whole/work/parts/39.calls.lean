/-! ===== share; the rows of a node start anew; all on a link are lost ===== -/
section
variable {E : ET} {S : SCR} {M : Mem}
theorem c_share9 {i t k : Int} (hi : rg i) (ht : rg t) (hk : rg k) (hM : ∀ z, 0 ≤ z → z < 64 → rg (M 253 z)) : Ctr E 2 106 [vr 248, vi i, vi t, vi k] (toAH S M) (some (vi (if (0 ≤ i ∧ i ≤ 7) ∧ (0 ≤ t ∧ t ≤ 7) ∧ (0 ≤ k ∧ k ≤ 7) then (if i = t then -3 else if M 253 (8 * i + k) = -9 then -9 else M 254 (8 * (8 * i + t) + k)) else -1))) (toAH S M) := by
  refine Ctr_f mi_X9_share mo_X9_share (Nat.le_of_ble_eq_true rfl) ⟨Nat.le_refl _, Nat.le_refl _⟩ (fun g lm => ?_)
  rw [show entL mi_X9_share.2.2.1 [vr 248, vi i, vi t, vi k] = [some (vr 248), some (vi i), some (vi t), some (vi k)] from rfl]
  refine e_X9_share 400 (lfok E (by omega)) ?_
  by_cases h : (0 ≤ i ∧ i ≤ 7) ∧ (0 ≤ t ∧ t ≤ 7) ∧ (0 ≤ k ∧ k ≤ 7)
  · rw [if_pos h]
    have h0 := hM (8 * i + k) (by omega) (by omega)
    have a1 : b2 (0 ≤ i ∧ i ≤ 7) = 1 := by simp [b2, h.1]
    have a2 : b2 (0 ≤ t ∧ t ≤ 7) = 1 := by simp [b2, h.2.1]
    have a3 : b2 (0 ≤ k ∧ k ≤ 7) = 1 := by simp [b2, h.2.2]
    simp +contextual (disch := first | omega | exact Nat.le_of_ble_eq_true rfl | assumption) only [↓r_X9_share_0, ↓r_X9_share_1, ↓r_X9_share_4, ↓r_X9_share_7, ↓r_X9_share_8, ↓r_X9_share_11, ↓r_X9_share_14, ↓r_X9_share_15, ↓r_X9_share_18, ↓r_X9_share_21, ↓r_X9_share_22, ↓r_X9_share_23, ↓r_X9_share_24, ↓r_X9_share_25, ↓r_X9_share_28, ↓r_X9_share_30, ↓r_X9_share_31, ↓r_X9_share_32, ↓r_X9_share_33, ↓r_X9_share_34, ↓r_X9_share_37, ↓r_X9_share_40, ↓r_X9_share_41, ↓r_X9_share_44, ↓r_X9_share_45, ↓r_X9_share_46, ↓r_X9_share_49, ↓r_X9_share_50, ↓r_X9_share_51, ↓r_X9_share_52, ↓r_X9_share_55, ↓r_X9_share_57, ↓x1_1, ↓lf_X9_isNode, ↓x31_0, ↓x31b0, ↓x1_2, ↓x1_3, ↓x31_1, ↓x31b1, ↓x0, ↓x48_0, ↓x32_1, ↓x2_0, ↓lf_X9_isNext, ↓f9_5, ↓lf_X9_rowOf, ↓x8, ↓x33, ↓l_249, ↓l_250, ↓l_251, ↓l_252, ↓l_253, ↓l_254, ↓l_255, ↓l_256, ↓l_257, ↓l_258, ↓l_259, ↓l_260, ↓l_261, ↓l_262, ↓l_263, ↓l_264, ↓l_265, ↓l_266, ↓l_267, ↓l_268, ↓l_269, ↓l_270, ↓l_271, ↓l_272, ↓l_273, ↓l_274, and_self, and_true, true_and, implies_true, true_implies, Int.reduceEq, Int.reduceLE, Int.reduceLT, not_true_eq_false, not_false_eq_true, false_implies, RTf_eq, a1, a2, a3]
    refine ⟨fun q => ⟨fun q2 => ?_, fun q2 => ?_⟩, fun q => ?_⟩
    · rw [if_neg (fun f => f), if_pos (by omega)]
    · rw [if_neg (fun f => f), if_neg (fun f => f)]
    · rw [if_pos (by omega)]
  · rw [if_neg h]
    simp +contextual (disch := first | omega | exact Nat.le_of_ble_eq_true rfl | assumption) only [↓r_X9_share_0, ↓r_X9_share_1, ↓r_X9_share_4, ↓r_X9_share_7, ↓r_X9_share_8, ↓r_X9_share_11, ↓r_X9_share_14, ↓r_X9_share_15, ↓r_X9_share_18, ↓r_X9_share_21, ↓r_X9_share_22, ↓r_X9_share_23, ↓r_X9_share_24, ↓r_X9_share_25, ↓r_X9_share_28, ↓r_X9_share_30, ↓r_X9_share_31, ↓r_X9_share_32, ↓r_X9_share_33, ↓r_X9_share_34, ↓r_X9_share_37, ↓r_X9_share_40, ↓r_X9_share_41, ↓r_X9_share_44, ↓r_X9_share_45, ↓r_X9_share_46, ↓r_X9_share_49, ↓r_X9_share_50, ↓r_X9_share_51, ↓r_X9_share_52, ↓r_X9_share_55, ↓r_X9_share_57, ↓x1_1, ↓lf_X9_isNode, ↓x31_0, ↓x31b0, ↓x1_2, ↓x1_3, ↓x31_1, ↓x31b1, ↓x0, ↓x48_0, ↓x32_1, ↓x2_0, ↓lf_X9_isNext, ↓f9_5, ↓lf_X9_rowOf, ↓x8, ↓x33, ↓l_249, ↓l_250, ↓l_251, ↓l_252, ↓l_253, ↓l_254, ↓l_255, ↓l_256, ↓l_257, ↓l_258, ↓l_259, ↓l_260, ↓l_261, ↓l_262, ↓l_263, ↓l_264, ↓l_265, ↓l_266, ↓l_267, ↓l_268, ↓l_269, ↓l_270, ↓l_271, ↓l_272, ↓l_273, ↓l_274, and_self, and_true, true_and, implies_true, true_implies, Int.reduceEq, Int.reduceLE, Int.reduceLT, not_true_eq_false, not_false_eq_true, false_implies, RTf_eq]
    exact fun q1 q2 q3 => absurd ⟨q1, q2, q3⟩ h
/-- the rows of node i from row t on start anew -/
def srM (M : Mem) (i s : Int) : Nat → Mem
  | 0 => M
  | k + 1 => anM (srM M i s k) (i * 8 + (k : Int)) s
theorem anM_low {r s c z : Int} (hr : 0 ≤ r) (hc : c < 17) : anM M r s c z = M c z := by
  unfold anM
  rw [putv_ne (by omega), up2_other (by omega), up2_other (by omega), up2_other (by omega)]
theorem srM_low {i s c z : Int} (hi : 0 ≤ i) (hc : c < 17) : ∀ k : Nat, srM M i s k c z = M c z := by
  intro k
  induction k with
  | zero => rfl
  | succ k ih =>
    show anM (srM M i s k) (i * 8 + (k : Int)) s c z = M c z
    rw [anM_low (by omega) hc, ih]
theorem l_startRows {g : GT} {lm : Nat × Nat} {RT : RTy} {i s : Int} (hi : 0 ≤ i ∧ i < 8) (es : M 5 i = s) (hs : 0 ≤ s ∧ s < 256) (hr : RT none (toAH S (srM M i s 8))) :
    ∀ k : Nat, k ≤ 8 → G E g mi_X8_startRowsAnew 5 lm RT 2 [some (vr 0), some (vi i), some (vi (k : Int))] [] (toAH S (srM M i s k)) := by
  refine down ?_ ?_
  · refine q_X8_startRowsAnew_2 400 (lfok E (by omega)) ?_
    simp +contextual (disch := first | omega | exact Nat.le_of_ble_eq_true rfl | assumption) only [↓r_X8_startRowsAnew_0, ↓r_X8_startRowsAnew_1, ↓r_X8_startRowsAnew_2, ↓r_X8_startRowsAnew_3, ↓r_X8_startRowsAnew_5, ↓r_X8_startRowsAnew_8, ↓r_X8_startRowsAnew_9, ↓r_X8_startRowsAnew_10, ↓r_X8_startRowsAnew_11, ↓r_X8_startRowsAnew_14, ↓r_X8_startRowsAnew_15, ↓r_X8_startRowsAnew_18, ↓r_X8_startRowsAnew_21, ↓r_X8_startRowsAnew_22, ↓r_X8_startRowsAnew_23, ↓r_X8_startRowsAnew_26, ↓r_X8_startRowsAnew_29, ↓r_X8_startRowsAnew_32, ↓x0, ↓x4_2n, ↓x4_2i, ↓x4_2r, ↓x1_2, ↓x32_3, ↓x2_0, ↓x1_1, ↓lf_X8_rowOf, ↓f8_0, ↓f3_3, ↓v5_2, ↓x7_2n, ↓x7_2i, ↓x7_2r, ↓x33, ↓x48_4, ↓l_2, ↓l_3, ↓l_4, ↓l_5, ↓l_6, ↓l_7, ↓l_9, ↓l_10, ↓l_11, ↓l_12, ↓l_13, ↓l_15, ↓l_16, ↓l_r1, ↓l_r2, ↓l_w1, ↓l_w2, and_self, and_true, true_and, implies_true, true_implies, Int.reduceEq, Int.reduceLE, Int.reduceLT, not_true_eq_false, not_false_eq_true, false_implies, RTf_eq]
    exact ⟨fun _ => hr, fun q => absurd (by omega) q⟩
  · intro k hk ih
    have e5 : srM M i s k 5 i = s := by rw [srM_low hi.1 (by omega), es]
    have e : srM M i s (k + 1) = anM (srM M i s k) (i * 8 + (k : Int)) s := rfl
    rw [e] at ih
    obtain ⟨N, hN⟩ : ∃ N, N = srM M i s k := ⟨_, rfl⟩
    rw [← hN] at ih e5 ⊢
    refine q_X8_startRowsAnew_2 400 (lfok E (by omega)) ?_
    simp +contextual (disch := first | omega | exact Nat.le_of_ble_eq_true rfl | assumption) only [↓r_X8_startRowsAnew_0, ↓r_X8_startRowsAnew_1, ↓r_X8_startRowsAnew_2, ↓r_X8_startRowsAnew_3, ↓r_X8_startRowsAnew_5, ↓r_X8_startRowsAnew_8, ↓r_X8_startRowsAnew_9, ↓r_X8_startRowsAnew_10, ↓r_X8_startRowsAnew_11, ↓r_X8_startRowsAnew_14, ↓r_X8_startRowsAnew_15, ↓r_X8_startRowsAnew_18, ↓r_X8_startRowsAnew_21, ↓r_X8_startRowsAnew_22, ↓r_X8_startRowsAnew_23, ↓r_X8_startRowsAnew_26, ↓r_X8_startRowsAnew_29, ↓r_X8_startRowsAnew_32, ↓x0, ↓x4_2n, ↓x4_2i, ↓x4_2r, ↓x1_2, ↓x32_3, ↓x2_0, ↓x1_1, ↓lf_X8_rowOf, ↓f8_0, ↓f3_3, ↓v5_2, ↓x7_2n, ↓x7_2i, ↓x7_2r, ↓x33, ↓x48_4, ↓l_2, ↓l_3, ↓l_4, ↓l_5, ↓l_6, ↓l_7, ↓l_9, ↓l_10, ↓l_11, ↓l_12, ↓l_13, ↓l_15, ↓l_16, ↓l_r1, ↓l_r2, ↓l_w1, ↓l_w2, and_self, and_true, true_and, implies_true, true_implies, Int.reduceEq, Int.reduceLE, Int.reduceLT, not_true_eq_false, not_false_eq_true, false_implies, RTf_eq, e5]
    refine ⟨fun q => by omega, fun _ => ?_⟩
    refine ck_v (c_startAnew (r := i * 8 + (k : Int)) (by omega) hs) (by omega) (by simp) ?_
    simp +contextual (disch := first | omega | exact Nat.le_of_ble_eq_true rfl | assumption) only [↓r_X8_startRowsAnew_0, ↓r_X8_startRowsAnew_1, ↓r_X8_startRowsAnew_2, ↓r_X8_startRowsAnew_3, ↓r_X8_startRowsAnew_5, ↓r_X8_startRowsAnew_8, ↓r_X8_startRowsAnew_9, ↓r_X8_startRowsAnew_10, ↓r_X8_startRowsAnew_11, ↓r_X8_startRowsAnew_14, ↓r_X8_startRowsAnew_15, ↓r_X8_startRowsAnew_18, ↓r_X8_startRowsAnew_21, ↓r_X8_startRowsAnew_22, ↓r_X8_startRowsAnew_23, ↓r_X8_startRowsAnew_26, ↓r_X8_startRowsAnew_29, ↓r_X8_startRowsAnew_32, ↓x0, ↓x4_2n, ↓x4_2i, ↓x4_2r, ↓x1_2, ↓x32_3, ↓x2_0, ↓x1_1, ↓lf_X8_rowOf, ↓f8_0, ↓f3_3, ↓v5_2, ↓x7_2n, ↓x7_2i, ↓x7_2r, ↓x33, ↓x48_4, ↓l_2, ↓l_3, ↓l_4, ↓l_5, ↓l_6, ↓l_7, ↓l_9, ↓l_10, ↓l_11, ↓l_12, ↓l_13, ↓l_15, ↓l_16, ↓l_r1, ↓l_r2, ↓l_w1, ↓l_w2, and_self, and_true, true_and, implies_true, true_implies, Int.reduceEq, Int.reduceLE, Int.reduceLT, not_true_eq_false, not_false_eq_true, false_implies, RTf_eq]
    exact ih
theorem c_startRowsAnew {i : Int} (hi : 0 ≤ i ∧ i < 8) (hs : 0 ≤ M 5 i ∧ M 5 i < 256) : Ctr E 5 71 [vr 0, vi i] (toAH S M) none (toAH S (srM M i (M 5 i) 8)) := by
  refine Ctr_f mi_X8_startRowsAnew mo_X8_startRowsAnew (Nat.le_of_ble_eq_true rfl) ⟨Nat.le_refl _, Nat.le_refl _⟩ (fun g lm => ?_)
  rw [show entL mi_X8_startRowsAnew.2.2.1 [vr 0, vi i] = [some (vr 0), some (vi i), none] from rfl]
  refine e_X8_startRowsAnew 400 (lfok E (by omega)) ?_
  simp +contextual (disch := first | omega | exact Nat.le_of_ble_eq_true rfl | assumption) only [↓r_X8_startRowsAnew_0, ↓r_X8_startRowsAnew_1, ↓r_X8_startRowsAnew_2, ↓r_X8_startRowsAnew_3, ↓r_X8_startRowsAnew_5, ↓r_X8_startRowsAnew_8, ↓r_X8_startRowsAnew_9, ↓r_X8_startRowsAnew_10, ↓r_X8_startRowsAnew_11, ↓r_X8_startRowsAnew_14, ↓r_X8_startRowsAnew_15, ↓r_X8_startRowsAnew_18, ↓r_X8_startRowsAnew_21, ↓r_X8_startRowsAnew_22, ↓r_X8_startRowsAnew_23, ↓r_X8_startRowsAnew_26, ↓r_X8_startRowsAnew_29, ↓r_X8_startRowsAnew_32, ↓x0, ↓x4_2n, ↓x4_2i, ↓x4_2r, ↓x1_2, ↓x32_3, ↓x2_0, ↓x1_1, ↓lf_X8_rowOf, ↓f8_0, ↓f3_3, ↓v5_2, ↓x7_2n, ↓x7_2i, ↓x7_2r, ↓x33, ↓x48_4, ↓l_2, ↓l_3, ↓l_4, ↓l_5, ↓l_6, ↓l_7, ↓l_9, ↓l_10, ↓l_11, ↓l_12, ↓l_13, ↓l_15, ↓l_16, ↓l_r1, ↓l_r2, ↓l_w1, ↓l_w2, and_self, and_true, true_and, implies_true, true_implies, Int.reduceEq, Int.reduceLE, Int.reduceLT, not_true_eq_false, not_false_eq_true, false_implies, RTf_eq]
  exact l_startRows hi rfl hs ⟨rfl, rfl⟩ 0 (by omega)
theorem c_share8 {i t k : Int} (hi : rg i) (ht : rg t) (hk : rg k) (hM : ∀ z, 0 ≤ z → z < 8 → 0 ≤ M 5 z ∧ M 5 z < 256) : Ctr E 2 49 [vr 0, vi i, vi t, vi k] (toAH S M) (some (vi (if (0 ≤ i ∧ i ≤ 7) ∧ (0 ≤ t ∧ t ≤ 7) ∧ (0 ≤ k ∧ k ≤ 7) then (if i = t then -3 else if bs (M 5 i) k = true then M (18 + 3 * (i * 8 + t)) k else -9) else -1))) (toAH S M) := by
  refine Ctr_f mi_X8_share mo_X8_share (Nat.le_of_ble_eq_true rfl) ⟨Nat.le_refl _, Nat.le_refl _⟩ (fun g lm => ?_)
  rw [show entL mi_X8_share.2.2.1 [vr 0, vi i, vi t, vi k] = [some (vr 0), some (vi i), some (vi t), some (vi k)] from rfl]
  refine e_X8_share 400 (lfok E (by omega)) ?_
  by_cases h : (0 ≤ i ∧ i ≤ 7) ∧ (0 ≤ t ∧ t ≤ 7) ∧ (0 ≤ k ∧ k ≤ 7)
  · rw [if_pos h]
    have h0 := hM i (by omega) (by omega)
    have a1 : b2 (0 ≤ i ∧ i ≤ 7) = 1 := by simp [b2, h.1]
    have a2 : b2 (0 ≤ t ∧ t ≤ 7) = 1 := by simp [b2, h.2.1]
    have a3 : b2 (0 ≤ k ∧ k ≤ 7) = 1 := by simp [b2, h.2.2]
    have hb : bs (M 5 i) k = bzd (M 5 i) k := rfl
    rw [hb]
    simp +contextual (disch := first | omega | exact Nat.le_of_ble_eq_true rfl | assumption) only [↓r_X8_share_0, ↓r_X8_share_1, ↓r_X8_share_4, ↓r_X8_share_7, ↓r_X8_share_8, ↓r_X8_share_11, ↓r_X8_share_14, ↓r_X8_share_15, ↓r_X8_share_18, ↓r_X8_share_21, ↓r_X8_share_22, ↓r_X8_share_23, ↓r_X8_share_24, ↓r_X8_share_25, ↓r_X8_share_28, ↓r_X8_share_30, ↓r_X8_share_31, ↓r_X8_share_32, ↓r_X8_share_35, ↓r_X8_share_38, ↓r_X8_share_39, ↓r_X8_share_40, ↓r_X8_share_41, ↓r_X8_share_44, ↓r_X8_share_47, ↓r_X8_share_48, ↓r_X8_share_49, ↓r_X8_share_50, ↓r_X8_share_53, ↓r_X8_share_56, ↓r_X8_share_57, ↓r_X8_share_58, ↓r_X8_share_61, ↓r_X8_share_63, ↓x1_1, ↓lf_X8_isNode, ↓x31_0, ↓x31b0, ↓x1_2, ↓x1_3, ↓x31_1, ↓x31b1, ↓x0, ↓x48_0, ↓x32_1, ↓x2_0, ↓f8_0, ↓f3_3, ↓lf_X8_isIn, ↓lf_X8_rowOf, ↓f5_0, ↓x33, ↓l_2, ↓l_3, ↓l_4, ↓l_5, ↓l_6, ↓l_7, ↓l_9, ↓l_10, ↓l_11, ↓l_12, ↓l_13, ↓l_15, ↓l_16, ↓l_r1, ↓l_r2, ↓l_w1, ↓l_w2, and_self, and_true, true_and, implies_true, true_implies, Int.reduceEq, Int.reduceLE, Int.reduceLT, not_true_eq_false, not_false_eq_true, false_implies, RTf_eq, a1, a2, a3]
    refine ⟨fun q => ⟨fun q2 => ?_, fun q2 => ?_⟩, fun q => ?_⟩
    · rw [if_neg (fun f => f), if_neg (by simp)]
    · rw [if_neg (fun f => f), if_pos trivial]
    · rw [if_pos (by omega)]
  · rw [if_neg h]
    simp +contextual (disch := first | omega | exact Nat.le_of_ble_eq_true rfl | assumption) only [↓r_X8_share_0, ↓r_X8_share_1, ↓r_X8_share_4, ↓r_X8_share_7, ↓r_X8_share_8, ↓r_X8_share_11, ↓r_X8_share_14, ↓r_X8_share_15, ↓r_X8_share_18, ↓r_X8_share_21, ↓r_X8_share_22, ↓r_X8_share_23, ↓r_X8_share_24, ↓r_X8_share_25, ↓r_X8_share_28, ↓r_X8_share_30, ↓r_X8_share_31, ↓r_X8_share_32, ↓r_X8_share_35, ↓r_X8_share_38, ↓r_X8_share_39, ↓r_X8_share_40, ↓r_X8_share_41, ↓r_X8_share_44, ↓r_X8_share_47, ↓r_X8_share_48, ↓r_X8_share_49, ↓r_X8_share_50, ↓r_X8_share_53, ↓r_X8_share_56, ↓r_X8_share_57, ↓r_X8_share_58, ↓r_X8_share_61, ↓r_X8_share_63, ↓x1_1, ↓lf_X8_isNode, ↓x31_0, ↓x31b0, ↓x1_2, ↓x1_3, ↓x31_1, ↓x31b1, ↓x0, ↓x48_0, ↓x32_1, ↓x2_0, ↓f8_0, ↓f3_3, ↓lf_X8_isIn, ↓lf_X8_rowOf, ↓f5_0, ↓x33, ↓l_2, ↓l_3, ↓l_4, ↓l_5, ↓l_6, ↓l_7, ↓l_9, ↓l_10, ↓l_11, ↓l_12, ↓l_13, ↓l_15, ↓l_16, ↓l_r1, ↓l_r2, ↓l_w1, ↓l_w2, and_self, and_true, true_and, implies_true, true_implies, Int.reduceEq, Int.reduceLE, Int.reduceLT, not_true_eq_false, not_false_eq_true, false_implies, RTf_eq]
    exact fun q1 q2 q3 => absurd ⟨q1, q2, q3⟩ h
/-- walkers below k that were on link l are lost -/
def laM (M : Mem) (l : Int) : Nat → Mem
  | 0 => M
  | k + 1 => if M (209 + 3 * (k : Int)) 8 = l then up2 (up2 (up2 (laM M l k) (209 + 3 * (k : Int)) 3 0) (209 + 3 * (k : Int)) 8 (-9)) 0 12 (laM M l k 0 12 + 1) else laM M l k
def laC (M : Mem) (l : Int) : Nat → Int
  | 0 => 0
  | k + 1 => if M (209 + 3 * (k : Int)) 8 = l then laC M l k + 1 else laC M l k
theorem laM_hi {l j z : Int} : ∀ k : Nat, (k : Int) ≤ j → laM M l k (209 + 3 * j) z = M (209 + 3 * j) z := by
  intro k
  induction k with
  | zero => intro _; rfl
  | succ k ih =>
    intro h
    unfold laM
    split
    · rw [up2_other (by omega), up2_other (by omega), up2_other (by omega), ih (by omega)]
    · exact ih (by omega)
theorem l_loseAllOn {g : GT} {lm : Nat × Nat} {RT : RTy} {l : Int} (hl : rg l) (h8 : ∀ k, 0 ≤ k → k < 12 → rg (M (209 + 3 * k) 8)) (hr : RT (some (vi (laC M l 12))) (toAH S (laM M l 12))) :
    ∀ k : Nat, k ≤ 12 → G E g mi_X8_loseAllOn 4 lm RT 4 [some (vr 0), some (vi l), some (vi (laC M l k)), some (vi (k : Int))] [] (toAH S (laM M l k)) := by
  refine down ?_ ?_
  · refine q_X8_loseAllOn_4 400 (lfok E (by omega)) ?_
    obtain ⟨N, hN⟩ : ∃ N, N = laM M l 12 := ⟨_, rfl⟩
    rw [← hN] at hr ⊢
    simp +contextual (disch := first | omega | exact Nat.le_of_ble_eq_true rfl | assumption) only [↓r_X8_loseAllOn_0, ↓r_X8_loseAllOn_1, ↓r_X8_loseAllOn_2, ↓r_X8_loseAllOn_3, ↓r_X8_loseAllOn_4, ↓r_X8_loseAllOn_5, ↓r_X8_loseAllOn_7, ↓r_X8_loseAllOn_10, ↓r_X8_loseAllOn_11, ↓r_X8_loseAllOn_14, ↓r_X8_loseAllOn_15, ↓r_X8_loseAllOn_16, ↓r_X8_loseAllOn_19, ↓r_X8_loseAllOn_20, ↓r_X8_loseAllOn_23, ↓r_X8_loseAllOn_24, ↓r_X8_loseAllOn_25, ↓r_X8_loseAllOn_28, ↓r_X8_loseAllOn_29, ↓r_X8_loseAllOn_30, ↓r_X8_loseAllOn_33, ↓r_X8_loseAllOn_36, ↓r_X8_loseAllOn_39, ↓r_X8_loseAllOn_42, ↓r_X8_loseAllOn_43, ↓x0, ↓x4_2n, ↓x4_2i, ↓x4_2r, ↓x4_3n, ↓x4_3i, ↓x4_3r, ↓x1_3, ↓x32_3, ↓x2_0, ↓f8_3, ↓f7_8, ↓x1_1, ↓x32_1, ↓v8_2, ↓x7_2n, ↓x7_2i, ↓x7_2r, ↓x7_3n, ↓x7_3i, ↓x7_3r, ↓x33, ↓x1_2, ↓x48_0, ↓l_2, ↓l_3, ↓l_4, ↓l_5, ↓l_6, ↓l_7, ↓l_9, ↓l_10, ↓l_11, ↓l_12, ↓l_13, ↓l_15, ↓l_16, ↓l_r1, ↓l_r2, ↓l_w1, ↓l_w2, and_self, and_true, true_and, implies_true, true_implies, Int.reduceEq, Int.reduceLE, Int.reduceLT, not_true_eq_false, not_false_eq_true, false_implies, RTf_eq]
    exact ⟨fun _ => hr, fun q => absurd (by omega) q⟩
  · intro k hk ih
    have a8 := h8 k (by omega) (by omega)
    have e8 : laM M l k (209 + 3 * (k : Int)) 8 = M (209 + 3 * (k : Int)) 8 := laM_hi k (by omega)
    have eM : laM M l (k + 1) = if M (209 + 3 * (k : Int)) 8 = l then up2 (up2 (up2 (laM M l k) (209 + 3 * (k : Int)) 3 0) (209 + 3 * (k : Int)) 8 (-9)) 0 12 (laM M l k 0 12 + 1) else laM M l k := rfl
    have eC : laC M l (k + 1) = if M (209 + 3 * (k : Int)) 8 = l then laC M l k + 1 else laC M l k := rfl
    rw [eM, eC] at ih
    obtain ⟨N, hN⟩ : ∃ N, N = laM M l k := ⟨_, rfl⟩
    rw [← hN] at ih e8 ⊢
    refine q_X8_loseAllOn_4 400 (lfok E (by omega)) ?_
    simp +contextual (disch := first | omega | exact Nat.le_of_ble_eq_true rfl | assumption) only [↓r_X8_loseAllOn_0, ↓r_X8_loseAllOn_1, ↓r_X8_loseAllOn_2, ↓r_X8_loseAllOn_3, ↓r_X8_loseAllOn_4, ↓r_X8_loseAllOn_5, ↓r_X8_loseAllOn_7, ↓r_X8_loseAllOn_10, ↓r_X8_loseAllOn_11, ↓r_X8_loseAllOn_14, ↓r_X8_loseAllOn_15, ↓r_X8_loseAllOn_16, ↓r_X8_loseAllOn_19, ↓r_X8_loseAllOn_20, ↓r_X8_loseAllOn_23, ↓r_X8_loseAllOn_24, ↓r_X8_loseAllOn_25, ↓r_X8_loseAllOn_28, ↓r_X8_loseAllOn_29, ↓r_X8_loseAllOn_30, ↓r_X8_loseAllOn_33, ↓r_X8_loseAllOn_36, ↓r_X8_loseAllOn_39, ↓r_X8_loseAllOn_42, ↓r_X8_loseAllOn_43, ↓x0, ↓x4_2n, ↓x4_2i, ↓x4_2r, ↓x4_3n, ↓x4_3i, ↓x4_3r, ↓x1_3, ↓x32_3, ↓x2_0, ↓f8_3, ↓f7_8, ↓x1_1, ↓x32_1, ↓v8_2, ↓x7_2n, ↓x7_2i, ↓x7_2r, ↓x7_3n, ↓x7_3i, ↓x7_3r, ↓x33, ↓x1_2, ↓x48_0, ↓l_2, ↓l_3, ↓l_4, ↓l_5, ↓l_6, ↓l_7, ↓l_9, ↓l_10, ↓l_11, ↓l_12, ↓l_13, ↓l_15, ↓l_16, ↓l_r1, ↓l_r2, ↓l_w1, ↓l_w2, and_self, and_true, true_and, implies_true, true_implies, Int.reduceEq, Int.reduceLE, Int.reduceLT, not_true_eq_false, not_false_eq_true, false_implies, RTf_eq, e8]
    refine ⟨fun q => by omega, fun _ => ⟨fun q => ?_, fun q => ?_⟩⟩
    · rw [if_neg q, if_neg q] at ih; exact ih
    · rw [if_pos (by omega), if_pos (by omega)] at ih
      refine ck_v (c_lose ⟨by omega, by omega⟩) (by omega) (by simp) ?_
      simp +contextual (disch := first | omega | exact Nat.le_of_ble_eq_true rfl | assumption) only [↓r_X8_loseAllOn_0, ↓r_X8_loseAllOn_1, ↓r_X8_loseAllOn_2, ↓r_X8_loseAllOn_3, ↓r_X8_loseAllOn_4, ↓r_X8_loseAllOn_5, ↓r_X8_loseAllOn_7, ↓r_X8_loseAllOn_10, ↓r_X8_loseAllOn_11, ↓r_X8_loseAllOn_14, ↓r_X8_loseAllOn_15, ↓r_X8_loseAllOn_16, ↓r_X8_loseAllOn_19, ↓r_X8_loseAllOn_20, ↓r_X8_loseAllOn_23, ↓r_X8_loseAllOn_24, ↓r_X8_loseAllOn_25, ↓r_X8_loseAllOn_28, ↓r_X8_loseAllOn_29, ↓r_X8_loseAllOn_30, ↓r_X8_loseAllOn_33, ↓r_X8_loseAllOn_36, ↓r_X8_loseAllOn_39, ↓r_X8_loseAllOn_42, ↓r_X8_loseAllOn_43, ↓x0, ↓x4_2n, ↓x4_2i, ↓x4_2r, ↓x4_3n, ↓x4_3i, ↓x4_3r, ↓x1_3, ↓x32_3, ↓x2_0, ↓f8_3, ↓f7_8, ↓x1_1, ↓x32_1, ↓v8_2, ↓x7_2n, ↓x7_2i, ↓x7_2r, ↓x7_3n, ↓x7_3i, ↓x7_3r, ↓x33, ↓x1_2, ↓x48_0, ↓l_2, ↓l_3, ↓l_4, ↓l_5, ↓l_6, ↓l_7, ↓l_9, ↓l_10, ↓l_11, ↓l_12, ↓l_13, ↓l_15, ↓l_16, ↓l_r1, ↓l_r2, ↓l_w1, ↓l_w2, and_self, and_true, true_and, implies_true, true_implies, Int.reduceEq, Int.reduceLE, Int.reduceLT, not_true_eq_false, not_false_eq_true, false_implies, RTf_eq]
      exact ih
theorem c_loseAllOn {l : Int} (hl : rg l) (h8 : ∀ k, 0 ≤ k → k < 12 → rg (M (209 + 3 * k) 8)) : Ctr E 4 75 [vr 0, vi l] (toAH S M) (some (vi (laC M l 12))) (toAH S (laM M l 12)) := by
  refine Ctr_f mi_X8_loseAllOn mo_X8_loseAllOn (Nat.le_of_ble_eq_true rfl) ⟨Nat.le_refl _, Nat.le_refl _⟩ (fun g lm => ?_)
  rw [show entL mi_X8_loseAllOn.2.2.1 [vr 0, vi l] = [some (vr 0), some (vi l), none, none] from rfl]
  refine e_X8_loseAllOn 400 (lfok E (by omega)) ?_
  simp +contextual (disch := first | omega | exact Nat.le_of_ble_eq_true rfl | assumption) only [↓r_X8_loseAllOn_0, ↓r_X8_loseAllOn_1, ↓r_X8_loseAllOn_2, ↓r_X8_loseAllOn_3, ↓r_X8_loseAllOn_4, ↓r_X8_loseAllOn_5, ↓r_X8_loseAllOn_7, ↓r_X8_loseAllOn_10, ↓r_X8_loseAllOn_11, ↓r_X8_loseAllOn_14, ↓r_X8_loseAllOn_15, ↓r_X8_loseAllOn_16, ↓r_X8_loseAllOn_19, ↓r_X8_loseAllOn_20, ↓r_X8_loseAllOn_23, ↓r_X8_loseAllOn_24, ↓r_X8_loseAllOn_25, ↓r_X8_loseAllOn_28, ↓r_X8_loseAllOn_29, ↓r_X8_loseAllOn_30, ↓r_X8_loseAllOn_33, ↓r_X8_loseAllOn_36, ↓r_X8_loseAllOn_39, ↓r_X8_loseAllOn_42, ↓r_X8_loseAllOn_43, ↓x0, ↓x4_2n, ↓x4_2i, ↓x4_2r, ↓x4_3n, ↓x4_3i, ↓x4_3r, ↓x1_3, ↓x32_3, ↓x2_0, ↓f8_3, ↓f7_8, ↓x1_1, ↓x32_1, ↓v8_2, ↓x7_2n, ↓x7_2i, ↓x7_2r, ↓x7_3n, ↓x7_3i, ↓x7_3r, ↓x33, ↓x1_2, ↓x48_0, ↓l_2, ↓l_3, ↓l_4, ↓l_5, ↓l_6, ↓l_7, ↓l_9, ↓l_10, ↓l_11, ↓l_12, ↓l_13, ↓l_15, ↓l_16, ↓l_r1, ↓l_r2, ↓l_w1, ↓l_w2, and_self, and_true, true_and, implies_true, true_implies, Int.reduceEq, Int.reduceLE, Int.reduceLT, not_true_eq_false, not_false_eq_true, false_implies, RTf_eq]
  exact l_loseAllOn hl h8 ⟨rfl, rfl⟩ 0 (by omega)
end
