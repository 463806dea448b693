/-! ===== picking, in the model ===== -/
/-- what of the model's memory the walking needs -/
def MW (M : Mem) : Prop :=
  (∀ k, 0 ≤ k → k < 12 → M 258 k = 0 ∨ M 258 k = 1) ∧
  (∀ k, 0 ≤ k → k < 12 → M 262 k = 0 ∨ M 262 k = 1) ∧
  (∀ k, 0 ≤ k → k < 12 → rg (M 263 k)) ∧
  (∀ z, 0 ≤ z → z < 64 → M 253 z = -9 ∨ (0 ≤ M 253 z ∧ M 253 z < 16)) ∧
  (∀ z, 0 ≤ z → z < 512 → 0 ≤ M 254 z ∧ M 254 z ≤ 1000) ∧
  (∀ k, 0 ≤ k → k < 12 → 0 ≤ M 267 k ∧ M 267 k ≤ 8) ∧
  (∀ z, 0 ≤ z → z < 96 → 0 ≤ M 268 z ∧ M 268 z ≤ 7) ∧
  (∀ k, 0 ≤ k → k < 12 → 0 ≤ M 259 k ∧ M 259 k ≤ 2) ∧
  (∀ k, 0 ≤ k → k < 12 → 0 ≤ M 261 k ∧ M 261 k ≤ 7)
def wt9 (M : Mem) (w i : Int) : Vec := fun k => if M 259 w < 1 then M 254 (8 * (8 * i + M 261 w) + k) else M 254 (8 * (8 * i + M 261 w) + k) / (1 + cnt (onB9 M (M 253 (8 * i + k)) 0) 12)
theorem L_rg {x : Int} (h : x = -9 ∨ (0 ≤ x ∧ x < 16)) : rg x := ⟨by omega, by omega⟩
theorem div_rng {x n : Int} (h1 : 0 ≤ x) (h2 : x ≤ 1000) (h3 : 0 ≤ n) : 0 ≤ x / (1 + n) ∧ x / (1 + n) ≤ 1000 := by
  refine ⟨Int.ediv_nonneg h1 (by omega), ?_⟩
  have := Int.ediv_le_self (1 + n) h1
  omega
theorem wt9_rng {M : Mem} {w i k : Int} (hW : MW M) (hw : 0 ≤ w ∧ w < 12) (hi : 0 ≤ i ∧ i < 8) (hk : 0 ≤ k ∧ k < 8) : 0 ≤ wt9 M w i k ∧ wt9 M w i k ≤ 1000 := by
  obtain ⟨h3, h4, h8, hL, hS, hn, hv, hkd, ha⟩ := hW
  have a1 := ha w hw.1 hw.2
  have s1 := hS (8 * (8 * i + M 261 w) + k) (by omega) (by omega)
  unfold wt9
  split
  · exact s1
  · exact div_rng s1.1 s1.2 (cnt_rng _ 12).1
section
variable {E : ET} {S : SCR} {M : Mem}
theorem c_weight9 {w i k : Int} (hW : MW M) (hw : 0 ≤ w ∧ w < 12) (hi : 0 ≤ i ∧ i < 8) (hk : 0 ≤ k ∧ k < 8) : Ctr E 3 122 [vr 248, vi w, vi i, vi k] (toAH S M) (some (vi (wt9 M w i k))) (toAH S M) := by
  obtain ⟨h3, h4, h8, hL, hS, hn, hv, hkd, ha⟩ := hW
  have a1 := ha w hw.1 hw.2
  have a2 := hkd w hw.1 hw.2
  have s1 := hS (8 * (8 * i + M 261 w) + k) (by omega) (by omega)
  have l1 := L_rg (hL (8 * i + k) (by omega) (by omega))
  have hc := c_onIt (E := E) (S := S) (M := M) (l := M 253 (8 * i + k)) (z := 0) l1 (Or.inl rfl) h3 h8 h4
  have cr := cnt_rng (onB9 M (M 253 (8 * i + k)) 0) 12
  obtain ⟨n, en⟩ : ∃ n, n = cnt (onB9 M (M 253 (8 * i + k)) 0) 12 := ⟨_, rfl⟩
  have ew : wt9 M w i k = if M 259 w < 1 then M 254 (8 * (8 * i + M 261 w) + k) else M 254 (8 * (8 * i + M 261 w) + k) / (1 + n) := by rw [en]; rfl
  rw [← en] at hc cr
  obtain ⟨A, hA⟩ : ∃ A, A = wt9 M w i k := ⟨_, rfl⟩
  rw [← hA] at ew ⊢
  refine Ctr_f mi_X9_weight mo_X9_weight (Nat.le_of_ble_eq_true rfl) ⟨Nat.le_refl _, Nat.le_refl _⟩ (fun g lm => ?_)
  rw [show entL mi_X9_weight.2.2.1 [vr 248, vi w, vi i, vi k] = [some (vr 248), some (vi w), some (vi i), some (vi k), none] from rfl]
  refine e_X9_weight 400 (lfok E (by omega)) ?_
  simp +contextual (disch := first | omega | exact Nat.le_of_ble_eq_true rfl | assumption) only [↓r_X9_weight_0, ↓r_X9_weight_1, ↓r_X9_weight_4, ↓r_X9_weight_5, ↓r_X9_weight_6, ↓r_X9_weight_9, ↓r_X9_weight_10, ↓r_X9_weight_11, ↓r_X9_weight_14, ↓r_X9_weight_15, ↓r_X9_weight_16, ↓r_X9_weight_17, ↓r_X9_weight_19, ↓r_X9_weight_20, ↓r_X9_weight_23, ↓r_X9_weight_24, ↓r_X9_weight_25, ↓r_X9_weight_26, ↓r_X9_weight_29, ↓r_X9_weight_31, ↓r_X9_weight_32, ↓r_X9_weight_33, ↓r_X9_weight_34, ↓r_X9_weight_37, ↓r_X9_weight_39, ↓r_X9_weight_40, ↓r_X9_weight_41, ↓r_X9_weight_42, ↓r_X9_weight_43, ↓r_X9_weight_44, ↓r_X9_weight_45, ↓r_X9_weight_48, ↓r_X9_weight_49, ↓r_X9_weight_50, ↓r_X9_weight_53, ↓r_X9_weight_55, ↓x2_0, ↓f9_5, ↓x1_2, ↓f9_20, ↓x1_1, ↓lf_X9_rowOf, ↓x1_3, ↓x8, ↓x4_4n, ↓x4_4i, ↓x4_4r, ↓f9_18, ↓x0, ↓x32_2, ↓x1_4, ↓f9_4, ↓x10, ↓v9_3, ↓x11, ↓x33, ↓x48_0, ↓l_249, ↓l_250, ↓l_251, ↓l_252, ↓l_253, ↓l_254, ↓l_255, ↓l_256, ↓l_257, ↓l_258, ↓l_259, ↓l_260, ↓l_261, ↓l_262, ↓l_263, ↓l_264, ↓l_265, ↓l_266, ↓l_267, ↓l_268, ↓l_269, ↓l_270, ↓l_271, ↓l_272, ↓l_273, ↓l_274, and_self, and_true, true_and, implies_true, true_implies, Int.reduceEq, Int.reduceLE, Int.reduceLT, not_true_eq_false, not_false_eq_true, false_implies, RTf_eq]
  refine ⟨fun c => ?_, fun c => ?_⟩
  · rw [ew, if_pos c]
  · rw [if_neg c] at ew
    refine ck_r hc (by omega) (by simp) ?_
    simp +contextual (disch := first | omega | exact Nat.le_of_ble_eq_true rfl | assumption) only [↓r_X9_weight_0, ↓r_X9_weight_1, ↓r_X9_weight_4, ↓r_X9_weight_5, ↓r_X9_weight_6, ↓r_X9_weight_9, ↓r_X9_weight_10, ↓r_X9_weight_11, ↓r_X9_weight_14, ↓r_X9_weight_15, ↓r_X9_weight_16, ↓r_X9_weight_17, ↓r_X9_weight_19, ↓r_X9_weight_20, ↓r_X9_weight_23, ↓r_X9_weight_24, ↓r_X9_weight_25, ↓r_X9_weight_26, ↓r_X9_weight_29, ↓r_X9_weight_31, ↓r_X9_weight_32, ↓r_X9_weight_33, ↓r_X9_weight_34, ↓r_X9_weight_37, ↓r_X9_weight_39, ↓r_X9_weight_40, ↓r_X9_weight_41, ↓r_X9_weight_42, ↓r_X9_weight_43, ↓r_X9_weight_44, ↓r_X9_weight_45, ↓r_X9_weight_48, ↓r_X9_weight_49, ↓r_X9_weight_50, ↓r_X9_weight_53, ↓r_X9_weight_55, ↓x2_0, ↓f9_5, ↓x1_2, ↓f9_20, ↓x1_1, ↓lf_X9_rowOf, ↓x1_3, ↓x8, ↓x4_4n, ↓x4_4i, ↓x4_4r, ↓f9_18, ↓x0, ↓x32_2, ↓x1_4, ↓f9_4, ↓x10, ↓v9_3, ↓x11, ↓x33, ↓x48_0, ↓l_249, ↓l_250, ↓l_251, ↓l_252, ↓l_253, ↓l_254, ↓l_255, ↓l_256, ↓l_257, ↓l_258, ↓l_259, ↓l_260, ↓l_261, ↓l_262, ↓l_263, ↓l_264, ↓l_265, ↓l_266, ↓l_267, ↓l_268, ↓l_269, ↓l_270, ↓l_271, ↓l_272, ↓l_273, ↓l_274, and_self, and_true, true_and, implies_true, true_implies, Int.reduceEq, Int.reduceLE, Int.reduceLT, not_true_eq_false, not_false_eq_true, false_implies, RTf_eq]
    rw [ew]
theorem c_mayPick {w i k z : Int} (hW : MW M) (hw : 0 ≤ w ∧ w < 12) (hi : 0 ≤ i ∧ i < 8) (hk : 0 ≤ k ∧ k < 8) (hz : z = 0 ∨ z = 1) : Ctr E 3 123 [vr 248, vi w, vi i, vi k, vi z] (toAH S M) (some (vi (b2 (nbm M i k = true ∧ (z = 0 ∨ fi (fun j => decide (M 268 (8 * w + j) = k)) 0 (M 267 w).toNat = -9))))) (toAH S M) := by
  obtain ⟨h3, h4, h8, hL, hS, hn, hv, hkd, ha⟩ := hW
  have n1 := hn w hw.1 hw.2
  have l1 := L_rg (hL (8 * i + k) (by omega) (by omega))
  have hc := c_placeIn (E := E) (S := S) (M := M) (w := w) (nd := k) (n := (M 267 w).toNat) hw (by omega) (by omega) ⟨by omega, by omega⟩ (fun j j1 j2 => by have := hv (8 * w + j) (by omega) (by omega); exact ⟨by omega, by omega⟩)
  obtain ⟨q, eq⟩ : ∃ q, q = fi (fun j => decide (M 268 (8 * w + j) = k)) 0 (M 267 w).toNat := ⟨_, rfl⟩
  have hg := fi_rng (p := fun j => decide (M 268 (8 * w + j) = k)) (M 267 w).toNat 0 (by omega)
  rw [← eq] at hc hg ⊢
  obtain ⟨A, hA⟩ : ∃ A, A = b2 (nbm M i k = true ∧ (z = 0 ∨ q = -9)) := ⟨_, rfl⟩
  have en : nbm M i k = decide (¬ M 253 (8 * i + k) = -9) := rfl
  rw [← hA]
  refine Ctr_f mi_X9_mayPick mo_X9_mayPick (Nat.le_of_ble_eq_true rfl) ⟨Nat.le_refl _, Nat.le_refl _⟩ (fun g lm => ?_)
  rw [show entL mi_X9_mayPick.2.2.1 [vr 248, vi w, vi i, vi k, vi z] = [some (vr 248), some (vi w), some (vi i), some (vi k), some (vi z)] from rfl]
  refine e_X9_mayPick 400 (lfok E (by omega)) ?_
  simp +contextual (disch := first | omega | exact Nat.le_of_ble_eq_true rfl | assumption) only [↓r_X9_mayPick_0, ↓r_X9_mayPick_1, ↓r_X9_mayPick_2, ↓r_X9_mayPick_3, ↓r_X9_mayPick_6, ↓r_X9_mayPick_9, ↓r_X9_mayPick_11, ↓r_X9_mayPick_14, ↓r_X9_mayPick_15, ↓r_X9_mayPick_16, ↓r_X9_mayPick_17, ↓r_X9_mayPick_20, ↓r_X9_mayPick_22, ↓r_X9_mayPick_25, ↓r_X9_mayPick_26, ↓r_X9_mayPick_29, ↓r_X9_mayPick_30, ↓x2_0, ↓x1_2, ↓x1_3, ↓lf_X9_isNext, ↓x31_0, ↓x31b0, ↓x1_4, ↓x1_1, ↓v9_3, ↓x0, ↓x32_1, ↓x33, ↓x48_1, and_self, and_true, true_and, implies_true, true_implies, Int.reduceEq, Int.reduceLE, Int.reduceLT, not_true_eq_false, not_false_eq_true, false_implies, RTf_eq]
  refine ⟨fun c => ⟨by simp, ?_⟩, fun c => ⟨fun c2 => ⟨by simp, ?_⟩, fun c2 => ?_⟩⟩
  · rw [hA, en]; simp [b2]; exact fun f => absurd f c
  · rw [hA, en]; simp [b2, c, c2]
  · refine ck_r hc (by omega) (by simp) ?_
    simp +contextual (disch := first | omega | exact Nat.le_of_ble_eq_true rfl | assumption) only [↓r_X9_mayPick_0, ↓r_X9_mayPick_1, ↓r_X9_mayPick_2, ↓r_X9_mayPick_3, ↓r_X9_mayPick_6, ↓r_X9_mayPick_9, ↓r_X9_mayPick_11, ↓r_X9_mayPick_14, ↓r_X9_mayPick_15, ↓r_X9_mayPick_16, ↓r_X9_mayPick_17, ↓r_X9_mayPick_20, ↓r_X9_mayPick_22, ↓r_X9_mayPick_25, ↓r_X9_mayPick_26, ↓r_X9_mayPick_29, ↓r_X9_mayPick_30, ↓x2_0, ↓x1_2, ↓x1_3, ↓lf_X9_isNext, ↓x31_0, ↓x31b0, ↓x1_4, ↓x1_1, ↓v9_3, ↓x0, ↓x32_1, ↓x33, ↓x48_1, and_self, and_true, true_and, implies_true, true_implies, Int.reduceEq, Int.reduceLE, Int.reduceLT, not_true_eq_false, not_false_eq_true, false_implies, RTf_eq]
    refine ⟨fun c3 => ⟨by simp, ?_⟩, fun c3 => ⟨by simp, ?_⟩⟩
    · rw [hA, en]; simp [b2, c, c2, c3]
    · rw [hA, en]; simp [b2, c, c2, c3]
end
