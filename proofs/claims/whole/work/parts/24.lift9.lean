/-! ===== lifting a row, in the model ===== -/
theorem upv_comm {v : Vec} {a b x y : Int} (h : ¬ a = b) : upv (upv v a x) b y = upv (upv v b y) a x := by
  funext k
  unfold upv
  by_cases h1 : k = a
  · subst h1
    simp [h]
  · simp [h1]
section
variable {E : ET} {S : SCR} {M : Mem}
theorem rg9 {row : Int} {v : Vec} (hrg : ∀ k, 0 ≤ k → k < 8 → rg (v k)) : ∀ k, 0 ≤ k → k < 8 → rg (putv M 254 row v 254 (row + k)) := fun k a b => by rw [putv_at a b]; exact hrg k a b
theorem cg9 {m : Set8} {c row : Int} {v : Vec} : ∀ k : Int, 0 ≤ k → k < 8 → m k = m k ∧ (m k = true → getv (putv M c row v) c row k = v k) := fun k h1 h2 => ⟨rfl, fun _ => getv_putv h1 h2⟩
theorem l_lift9 {g : GT} {lm : Nat × Nat} {RT : RTy} {i row fl : Int} {m : Set8} (em : m = nbm M i) (hi : 0 ≤ i ∧ i < 8) (hrow : 0 ≤ row ∧ row + 8 ≤ 512) (hM : ∀ z, 0 ≤ z → z < 64 → rg (M 253 z)) (ef : fl = M 248 6) (hf : 0 ≤ fl ∧ fl ≤ 100) :
    ∀ (n : Nat) (v : Vec) (u4 u5 : Option AV), dfv m fl v < (n : Int) → RV m v → (∀ k, 0 ≤ k → k < 8 → rg (v k)) → (u4 = none ∨ ∃ z, u4 = some (vi z)) → (u5 = none ∨ ∃ z, u5 = some (vi z)) → RT none (toAH S (putv M 254 row (liF m fl v))) →
    G E g mi_X9_lift 3 lm RT 7 [some (vr 248), some (vi i), some (vi row), some (vi (loF m v fl 8)), u4, u5] [] (toAH S (putv M 254 row v)) := by
  intro n
  induction n with
  | zero => intro v u4 u5 h; have := dfv_nonneg (m := m) (fl := fl) (v := v); omega
  | succ n ih =>
    intro v u4 u5 hdf hv hrg hu4 hu5 hr
    have h253 : ∀ (v : Vec) z, putv M 254 row v 253 z = M 253 z := fun v z => putv_ne (by omega)
    have hM' : ∀ (v : Vec), ∀ z, 0 ≤ z → z < 64 → rg (putv M 254 row v 253 z) := fun v z a b => by rw [h253]; exact hM z a b
    have en : ∀ (v : Vec), nbm (putv M 254 row v) i = m := fun v => by rw [nbm_congr (h253 v), em]
    have e6 : ∀ (v : Vec), putv M 254 row v 248 6 = fl := fun v => by rw [putv_ne (by omega), ef]
    have egr := grF_congr (m := m) (m' := m) (v := getv (putv M 254 row v) 254 row) (v' := v) 8 cg9
    have hlo := loF_rng (m := m) (v := v) (fl := fl) 8 (by omega)
    refine q_X9_lift_7 400 (lfok E (by omega)) ?_
    simp +contextual (disch := first | omega | exact Nat.le_of_ble_eq_true rfl | assumption) only [↓r_X9_lift_0, ↓r_X9_lift_1, ↓r_X9_lift_2, ↓r_X9_lift_3, ↓r_X9_lift_6, ↓r_X9_lift_7, ↓r_X9_lift_8, ↓r_X9_lift_10, ↓r_X9_lift_13, ↓r_X9_lift_14, ↓r_X9_lift_15, ↓r_X9_lift_16, ↓r_X9_lift_19, ↓r_X9_lift_21, ↓r_X9_lift_22, ↓r_X9_lift_25, ↓r_X9_lift_26, ↓r_X9_lift_29, ↓r_X9_lift_30, ↓r_X9_lift_31, ↓r_X9_lift_32, ↓r_X9_lift_33, ↓r_X9_lift_34, ↓r_X9_lift_36, ↓r_X9_lift_37, ↓r_X9_lift_40, ↓r_X9_lift_41, ↓r_X9_lift_42, ↓r_X9_lift_43, ↓r_X9_lift_44, ↓r_X9_lift_47, ↓r_X9_lift_48, ↓r_X9_lift_49, ↓r_X9_lift_52, ↓r_X9_lift_53, ↓r_X9_lift_55, ↓r_X9_lift_56, ↓r_X9_lift_57, ↓r_X9_lift_58, ↓r_X9_lift_60, ↓r_X9_lift_61, ↓r_X9_lift_62, ↓r_X9_lift_63, ↓r_X9_lift_64, ↓r_X9_lift_65, ↓r_X9_lift_68, ↓r_X9_lift_69, ↓r_X9_lift_72, ↓x2_0, ↓x1_1, ↓x1_2, ↓v9_3, ↓x4_3n, ↓x4_3i, ↓x4_3r, ↓x1_3, ↓x0, ↓x32_0, ↓x4_4n, ↓x4_4i, ↓x4_4r, ↓f9_6, ↓f9_5, ↓x8, ↓x9, ↓x4_5n, ↓x4_5i, ↓x4_5r, ↓x1_4, ↓x29, ↓x1_5, ↓x33, ↓x48_4, ↓l_249, ↓s_249, ↓l_250, ↓s_250, ↓l_251, ↓s_251, ↓l_252, ↓s_252, ↓l_253, ↓s_253, ↓l_254, ↓s_254, ↓l_255, ↓s_255, ↓l_256, ↓s_256, ↓l_257, ↓s_257, ↓l_258, ↓s_258, ↓l_259, ↓s_259, ↓l_260, ↓s_260, ↓l_261, ↓s_261, ↓l_262, ↓s_262, ↓l_263, ↓s_263, ↓l_264, ↓s_264, ↓l_265, ↓s_265, ↓l_266, ↓s_266, ↓l_267, ↓s_267, ↓l_268, ↓s_268, ↓l_269, ↓s_269, ↓l_270, ↓s_270, ↓l_271, ↓s_271, ↓l_272, ↓s_272, ↓l_273, ↓s_273, ↓l_274, ↓s_274, and_self, and_true, true_and, implies_true, true_implies, Int.reduceEq, Int.reduceLE, Int.reduceLT, not_true_eq_false, not_false_eq_true, false_implies, RTf_eq]
    refine ⟨fun q => ?_, fun q => ?_⟩
    · rw [liF_end q] at hr
      exact hr
    · have h1 := lst_ok hf hv q
      refine ck_r (c_greatest9 hi hrow (hM' v) (rg9 hrg)) (by omega) (by simp) ?_
      rw [en, egr]
      have hg := h1.2.2.2.2.2.1
      have hl := h1.2.2.2.2.1
      have e1 : putv M 254 row v 254 (row + loF m v fl 8) = v (loF m v fl 8) := putv_at hl.1 hl.2
      have e2 : putv M 254 row (upv v (loF m v fl 8) fl) 254 (row + grF m v 8) = v (grF m v 8) := by rw [putv_at hg.1 hg.2, upv_ne h1.2.2.2.1]
      have e3 := e6 v
      have hlst : lst m fl v = upv (upv v (loF m v fl 8) fl) (grF m v 8) (v (grF m v 8) - (fl - v (loF m v fl 8))) := by unfold lst; exact upv_comm h1.2.2.2.1
      have hrg2 : ∀ k, 0 ≤ k → k < 8 → rg (lst m fl v k) := fun k a b => by
        unfold lst upv
        split
        · omega
        · split
          · have := h1.2.2.2.2.2.2.1
            have := h1.2.2.2.2.2.2.2.1
            omega
          · exact hrg k a b
      have elo := loF_congr (m := m) (m' := m) (v := getv (putv M 254 row (lst m fl v)) 254 row) (v' := lst m fl v) (fl := fl) 8 (by omega) cg9
      rw [liF_step hf hv q] at hr
      rcases hu4 with rfl | ⟨z4, rfl⟩ <;> rcases hu5 with rfl | ⟨z5, rfl⟩
      all_goals
        simp +contextual (disch := first | omega | exact Nat.le_of_ble_eq_true rfl | assumption) only [↓r_X9_lift_0, ↓r_X9_lift_1, ↓r_X9_lift_2, ↓r_X9_lift_3, ↓r_X9_lift_6, ↓r_X9_lift_7, ↓r_X9_lift_8, ↓r_X9_lift_10, ↓r_X9_lift_13, ↓r_X9_lift_14, ↓r_X9_lift_15, ↓r_X9_lift_16, ↓r_X9_lift_19, ↓r_X9_lift_21, ↓r_X9_lift_22, ↓r_X9_lift_25, ↓r_X9_lift_26, ↓r_X9_lift_29, ↓r_X9_lift_30, ↓r_X9_lift_31, ↓r_X9_lift_32, ↓r_X9_lift_33, ↓r_X9_lift_34, ↓r_X9_lift_36, ↓r_X9_lift_37, ↓r_X9_lift_40, ↓r_X9_lift_41, ↓r_X9_lift_42, ↓r_X9_lift_43, ↓r_X9_lift_44, ↓r_X9_lift_47, ↓r_X9_lift_48, ↓r_X9_lift_49, ↓r_X9_lift_52, ↓r_X9_lift_53, ↓r_X9_lift_55, ↓r_X9_lift_56, ↓r_X9_lift_57, ↓r_X9_lift_58, ↓r_X9_lift_60, ↓r_X9_lift_61, ↓r_X9_lift_62, ↓r_X9_lift_63, ↓r_X9_lift_64, ↓r_X9_lift_65, ↓r_X9_lift_68, ↓r_X9_lift_69, ↓r_X9_lift_72, ↓x2_0, ↓x1_1, ↓x1_2, ↓v9_3, ↓x4_3n, ↓x4_3i, ↓x4_3r, ↓x1_3, ↓x0, ↓x32_0, ↓x4_4n, ↓x4_4i, ↓x4_4r, ↓f9_6, ↓f9_5, ↓x8, ↓x9, ↓x4_5n, ↓x4_5i, ↓x4_5r, ↓x1_4, ↓x29, ↓x1_5, ↓x33, ↓x48_4, ↓l_249, ↓s_249, ↓l_250, ↓s_250, ↓l_251, ↓s_251, ↓l_252, ↓s_252, ↓l_253, ↓s_253, ↓l_254, ↓s_254, ↓l_255, ↓s_255, ↓l_256, ↓s_256, ↓l_257, ↓s_257, ↓l_258, ↓s_258, ↓l_259, ↓s_259, ↓l_260, ↓s_260, ↓l_261, ↓s_261, ↓l_262, ↓s_262, ↓l_263, ↓s_263, ↓l_264, ↓s_264, ↓l_265, ↓s_265, ↓l_266, ↓s_266, ↓l_267, ↓s_267, ↓l_268, ↓s_268, ↓l_269, ↓s_269, ↓l_270, ↓s_270, ↓l_271, ↓s_271, ↓l_272, ↓s_272, ↓l_273, ↓s_273, ↓l_274, ↓s_274, and_self, and_true, true_and, implies_true, true_implies, Int.reduceEq, Int.reduceLE, Int.reduceLT, not_true_eq_false, not_false_eq_true, false_implies, RTf_eq, e3, e1, up2_putv hl.1 hl.2, e2]
        rw [up2_putv hg.1 hg.2, ← hlst]
        refine ck_r (c_lowest hi hrow (hM' _) (rg9 hrg2) (by rw [e6]; omega)) (by omega) (by simp) ?_
        rw [en, e6, elo]
        simp +contextual (disch := first | omega | exact Nat.le_of_ble_eq_true rfl | assumption) only [↓r_X9_lift_0, ↓r_X9_lift_1, ↓r_X9_lift_2, ↓r_X9_lift_3, ↓r_X9_lift_6, ↓r_X9_lift_7, ↓r_X9_lift_8, ↓r_X9_lift_10, ↓r_X9_lift_13, ↓r_X9_lift_14, ↓r_X9_lift_15, ↓r_X9_lift_16, ↓r_X9_lift_19, ↓r_X9_lift_21, ↓r_X9_lift_22, ↓r_X9_lift_25, ↓r_X9_lift_26, ↓r_X9_lift_29, ↓r_X9_lift_30, ↓r_X9_lift_31, ↓r_X9_lift_32, ↓r_X9_lift_33, ↓r_X9_lift_34, ↓r_X9_lift_36, ↓r_X9_lift_37, ↓r_X9_lift_40, ↓r_X9_lift_41, ↓r_X9_lift_42, ↓r_X9_lift_43, ↓r_X9_lift_44, ↓r_X9_lift_47, ↓r_X9_lift_48, ↓r_X9_lift_49, ↓r_X9_lift_52, ↓r_X9_lift_53, ↓r_X9_lift_55, ↓r_X9_lift_56, ↓r_X9_lift_57, ↓r_X9_lift_58, ↓r_X9_lift_60, ↓r_X9_lift_61, ↓r_X9_lift_62, ↓r_X9_lift_63, ↓r_X9_lift_64, ↓r_X9_lift_65, ↓r_X9_lift_68, ↓r_X9_lift_69, ↓r_X9_lift_72, ↓x2_0, ↓x1_1, ↓x1_2, ↓v9_3, ↓x4_3n, ↓x4_3i, ↓x4_3r, ↓x1_3, ↓x0, ↓x32_0, ↓x4_4n, ↓x4_4i, ↓x4_4r, ↓f9_6, ↓f9_5, ↓x8, ↓x9, ↓x4_5n, ↓x4_5i, ↓x4_5r, ↓x1_4, ↓x29, ↓x1_5, ↓x33, ↓x48_4, ↓l_249, ↓s_249, ↓l_250, ↓s_250, ↓l_251, ↓s_251, ↓l_252, ↓s_252, ↓l_253, ↓s_253, ↓l_254, ↓s_254, ↓l_255, ↓s_255, ↓l_256, ↓s_256, ↓l_257, ↓s_257, ↓l_258, ↓s_258, ↓l_259, ↓s_259, ↓l_260, ↓s_260, ↓l_261, ↓s_261, ↓l_262, ↓s_262, ↓l_263, ↓s_263, ↓l_264, ↓s_264, ↓l_265, ↓s_265, ↓l_266, ↓s_266, ↓l_267, ↓s_267, ↓l_268, ↓s_268, ↓l_269, ↓s_269, ↓l_270, ↓s_270, ↓l_271, ↓s_271, ↓l_272, ↓s_272, ↓l_273, ↓s_273, ↓l_274, ↓s_274, and_self, and_true, true_and, implies_true, true_implies, Int.reduceEq, Int.reduceLE, Int.reduceLT, not_true_eq_false, not_false_eq_true, false_implies, RTf_eq]
        exact ih (lst m fl v) _ _ (by omega) h1.1 hrg2 (Or.inr ⟨_, rfl⟩) (Or.inr ⟨_, rfl⟩) hr
theorem c_lift9 {i row fl : Int} (hi : 0 ≤ i ∧ i < 8) (hrow : 0 ≤ row ∧ row + 8 ≤ 512) (hM : ∀ z, 0 ≤ z → z < 64 → rg (M 253 z)) (ef : fl = M 248 6) (hf : 0 ≤ fl ∧ fl ≤ 100) (hv : RV (nbm M i) (getv M 254 row)) (hrg : ∀ k, 0 ≤ k → k < 8 → rg (M 254 (row + k))) : Ctr E 3 112 [vr 248, vi i, vi row] (toAH S M) none (toAH S (putv M 254 row (liF (nbm M i) fl (getv M 254 row)))) := by
  refine Ctr_f mi_X9_lift mo_X9_lift (Nat.le_of_ble_eq_true rfl) ⟨Nat.le_refl _, Nat.le_refl _⟩ (fun g lm => ?_)
  rw [show entL mi_X9_lift.2.2.1 [vr 248, vi i, vi row] = [some (vr 248), some (vi i), some (vi row), none, none, none] from rfl]
  refine e_X9_lift 400 (lfok E (by omega)) ?_
  simp +contextual (disch := first | omega | exact Nat.le_of_ble_eq_true rfl | assumption) only [↓r_X9_lift_0, ↓r_X9_lift_1, ↓r_X9_lift_2, ↓r_X9_lift_3, ↓r_X9_lift_6, ↓r_X9_lift_7, ↓r_X9_lift_8, ↓r_X9_lift_10, ↓r_X9_lift_13, ↓r_X9_lift_14, ↓r_X9_lift_15, ↓r_X9_lift_16, ↓r_X9_lift_19, ↓r_X9_lift_21, ↓r_X9_lift_22, ↓r_X9_lift_25, ↓r_X9_lift_26, ↓r_X9_lift_29, ↓r_X9_lift_30, ↓r_X9_lift_31, ↓r_X9_lift_32, ↓r_X9_lift_33, ↓r_X9_lift_34, ↓r_X9_lift_36, ↓r_X9_lift_37, ↓r_X9_lift_40, ↓r_X9_lift_41, ↓r_X9_lift_42, ↓r_X9_lift_43, ↓r_X9_lift_44, ↓r_X9_lift_47, ↓r_X9_lift_48, ↓r_X9_lift_49, ↓r_X9_lift_52, ↓r_X9_lift_53, ↓r_X9_lift_55, ↓r_X9_lift_56, ↓r_X9_lift_57, ↓r_X9_lift_58, ↓r_X9_lift_60, ↓r_X9_lift_61, ↓r_X9_lift_62, ↓r_X9_lift_63, ↓r_X9_lift_64, ↓r_X9_lift_65, ↓r_X9_lift_68, ↓r_X9_lift_69, ↓r_X9_lift_72, ↓x2_0, ↓x1_1, ↓x1_2, ↓v9_3, ↓x4_3n, ↓x4_3i, ↓x4_3r, ↓x1_3, ↓x0, ↓x32_0, ↓x4_4n, ↓x4_4i, ↓x4_4r, ↓f9_6, ↓f9_5, ↓x8, ↓x9, ↓x4_5n, ↓x4_5i, ↓x4_5r, ↓x1_4, ↓x29, ↓x1_5, ↓x33, ↓x48_4, ↓l_249, ↓s_249, ↓l_250, ↓s_250, ↓l_251, ↓s_251, ↓l_252, ↓s_252, ↓l_253, ↓s_253, ↓l_254, ↓s_254, ↓l_255, ↓s_255, ↓l_256, ↓s_256, ↓l_257, ↓s_257, ↓l_258, ↓s_258, ↓l_259, ↓s_259, ↓l_260, ↓s_260, ↓l_261, ↓s_261, ↓l_262, ↓s_262, ↓l_263, ↓s_263, ↓l_264, ↓s_264, ↓l_265, ↓s_265, ↓l_266, ↓s_266, ↓l_267, ↓s_267, ↓l_268, ↓s_268, ↓l_269, ↓s_269, ↓l_270, ↓s_270, ↓l_271, ↓s_271, ↓l_272, ↓s_272, ↓l_273, ↓s_273, ↓l_274, ↓s_274, and_self, and_true, true_and, implies_true, true_implies, Int.reduceEq, Int.reduceLE, Int.reduceLT, not_true_eq_false, not_false_eq_true, false_implies, RTf_eq]
  refine ck_r (c_lowest hi hrow hM hrg (by omega)) (by omega) (by simp) ?_
  simp +contextual (disch := first | omega | exact Nat.le_of_ble_eq_true rfl | assumption) only [↓r_X9_lift_0, ↓r_X9_lift_1, ↓r_X9_lift_2, ↓r_X9_lift_3, ↓r_X9_lift_6, ↓r_X9_lift_7, ↓r_X9_lift_8, ↓r_X9_lift_10, ↓r_X9_lift_13, ↓r_X9_lift_14, ↓r_X9_lift_15, ↓r_X9_lift_16, ↓r_X9_lift_19, ↓r_X9_lift_21, ↓r_X9_lift_22, ↓r_X9_lift_25, ↓r_X9_lift_26, ↓r_X9_lift_29, ↓r_X9_lift_30, ↓r_X9_lift_31, ↓r_X9_lift_32, ↓r_X9_lift_33, ↓r_X9_lift_34, ↓r_X9_lift_36, ↓r_X9_lift_37, ↓r_X9_lift_40, ↓r_X9_lift_41, ↓r_X9_lift_42, ↓r_X9_lift_43, ↓r_X9_lift_44, ↓r_X9_lift_47, ↓r_X9_lift_48, ↓r_X9_lift_49, ↓r_X9_lift_52, ↓r_X9_lift_53, ↓r_X9_lift_55, ↓r_X9_lift_56, ↓r_X9_lift_57, ↓r_X9_lift_58, ↓r_X9_lift_60, ↓r_X9_lift_61, ↓r_X9_lift_62, ↓r_X9_lift_63, ↓r_X9_lift_64, ↓r_X9_lift_65, ↓r_X9_lift_68, ↓r_X9_lift_69, ↓r_X9_lift_72, ↓x2_0, ↓x1_1, ↓x1_2, ↓v9_3, ↓x4_3n, ↓x4_3i, ↓x4_3r, ↓x1_3, ↓x0, ↓x32_0, ↓x4_4n, ↓x4_4i, ↓x4_4r, ↓f9_6, ↓f9_5, ↓x8, ↓x9, ↓x4_5n, ↓x4_5i, ↓x4_5r, ↓x1_4, ↓x29, ↓x1_5, ↓x33, ↓x48_4, ↓l_249, ↓s_249, ↓l_250, ↓s_250, ↓l_251, ↓s_251, ↓l_252, ↓s_252, ↓l_253, ↓s_253, ↓l_254, ↓s_254, ↓l_255, ↓s_255, ↓l_256, ↓s_256, ↓l_257, ↓s_257, ↓l_258, ↓s_258, ↓l_259, ↓s_259, ↓l_260, ↓s_260, ↓l_261, ↓s_261, ↓l_262, ↓s_262, ↓l_263, ↓s_263, ↓l_264, ↓s_264, ↓l_265, ↓s_265, ↓l_266, ↓s_266, ↓l_267, ↓s_267, ↓l_268, ↓s_268, ↓l_269, ↓s_269, ↓l_270, ↓s_270, ↓l_271, ↓s_271, ↓l_272, ↓s_272, ↓l_273, ↓s_273, ↓l_274, ↓s_274, and_self, and_true, true_and, implies_true, true_implies, Int.reduceEq, Int.reduceLE, Int.reduceLT, not_true_eq_false, not_false_eq_true, false_implies, RTf_eq]
  have h2 := dfv_le hf hv
  have := l_lift9 (E := E) (S := S) (M := M) (g := g) (lm := lm) (RT := RTf none (toAH S (putv M 254 row (liF (nbm M i) fl (getv M 254 row))))) rfl hi hrow hM ef hf 1000 (getv M 254 row) none none (by omega) hv hrg (Or.inl rfl) (Or.inl rfl) ⟨rfl, rfl⟩
  rw [putv_getv, ef] at this
  rw [ef]
  exact this
end
