/-! ===== cut, in the class ===== -/
section
variable {E : ET} {S : SCR} {M : Mem}
theorem laM_low {l c z : Int} (h0 : ¬ c = 0) (hc : c < 209) : ∀ k : Nat, laM M l k c z = M c z := by
  intro k
  induction k with
  | zero => rfl
  | succ k ih =>
    unfold laM
    split
    · rw [up2_other (by omega), up2_other (by omega), up2_other (by omega), ih]
    · exact ih
theorem paM_at {l a b : Int} (ea : M 2 l = a) (eb : M 3 l = b) (hab : ¬ a = b) : (paM M l 2 l = a ∧ paM M l 3 l = b) ∧ paM M l 5 a = ian (M 5 a) (ixo (isl 1 b) (-1)) ∧ paM M l 5 b = ian (M 5 b) (ixo (isl 1 a) (-1)) := by
  unfold paM
  rw [ea, eb]
  refine ⟨⟨?_, ?_⟩, ?_, ?_⟩
  · rw [up2_other (by omega), up2_other (by omega), up2_other (by omega), up2_other (by omega), ea]
  · rw [up2_other (by omega), up2_other (by omega), up2_other (by omega), up2_other (by omega), eb]
  · rw [up2_other (by omega), up2_other (by omega)]; exact up2_same
  · rw [up2_other (by omega)]; exact up2_same
/-- what cut of the class leaves, a and b the nodes of the link -/
def ctM (M : Mem) (l a b : Int) : Mem := srM (srM (paM (laM M l 12) l) a (ian (M 5 a) (ixo (isl 1 b) (-1))) 8) b (ian (M 5 b) (ixo (isl 1 a) (-1))) 8
theorem c_cut8 {l : Int} (hl : rg l) (h4 : 0 ≤ l → l ≤ 15 → rg (M 4 l)) (hn : 0 ≤ l → l ≤ 15 → 0 < M 4 l → (0 ≤ M 2 l ∧ M 2 l < 8) ∧ (0 ≤ M 3 l ∧ M 3 l < 8) ∧ ¬ M 2 l = M 3 l) (h8 : ∀ k, 0 ≤ k → k < 12 → rg (M (209 + 3 * k) 8)) (h5 : ∀ i j, 0 ≤ i → i < 8 → 0 ≤ j → j < 8 → 0 ≤ ian (M 5 i) (ixo (isl 1 j) (-1)) ∧ ian (M 5 i) (ixo (isl 1 j) (-1)) < 256) : Ctr E 6 45 [vr 0, vi l] (toAH S M) (some (vi (if (0 ≤ l ∧ l ≤ 15) ∧ 0 < M 4 l then laC M l 12 else -1))) (toAH S (if (0 ≤ l ∧ l ≤ 15) ∧ 0 < M 4 l then ctM M l (M 2 l) (M 3 l) else M)) := by
  refine Ctr_f mi_X8_cut mo_X8_cut (Nat.le_of_ble_eq_true rfl) ⟨Nat.le_refl _, Nat.le_refl _⟩ (fun g lm => ?_)
  rw [show entL mi_X8_cut.2.2.1 [vr 0, vi l] = [some (vr 0), some (vi l), none] from rfl]
  refine e_X8_cut 400 (lfok E (by omega)) ?_
  by_cases h : (0 ≤ l ∧ l ≤ 15) ∧ 0 < M 4 l
  · rw [if_pos h, if_pos h]
    obtain ⟨n1, n2, n3⟩ := hn h.1.1 h.1.2 h.2
    have a1 : b2 ((0 ≤ l ∧ l ≤ 15) ∧ 0 < M 4 l) = 1 := by simp [b2, h.1, h.2]
    have hL := c_loseAllOn (E := E) (S := S) hl h8
    obtain ⟨a, ea⟩ : ∃ a, M 2 l = a := ⟨_, rfl⟩
    obtain ⟨b, eb⟩ : ∃ b, M 3 l = b := ⟨_, rfl⟩
    rw [ea] at n1 n3 ⊢
    rw [eb] at n2 n3 ⊢
    unfold ctM
    have f2 : laM M l 12 2 l = a := by rw [laM_low (by omega) (by omega), ea]
    have f3 : laM M l 12 3 l = b := by rw [laM_low (by omega) (by omega), eb]
    have f5 : ∀ z, laM M l 12 5 z = M 5 z := fun z => laM_low (by omega) (by omega) 12
    obtain ⟨N, eN⟩ : ∃ N, N = laM M l 12 := ⟨_, rfl⟩
    rw [← eN] at hL f2 f3 ⊢
    have hP := c_part (E := E) (S := S) (M := N) (l := l) (by omega) (by omega) (by omega) (by omega)
    have hat := paM_at f2 f3 n3
    rw [eN, f5, f5, ← eN] at hat
    obtain ⟨P, eP⟩ : ∃ P, P = paM N l := ⟨_, rfl⟩
    rw [← eP] at hP hat ⊢
    have hS1 := c_startRowsAnew (E := E) (S := S) (M := P) (i := a) n1 (by rw [hat.2.1]; exact h5 a b (by omega) (by omega) (by omega) (by omega))
    rw [hat.2.1] at hS1
    have g3 : ∀ s, srM P a s 8 3 l = b := fun s => by rw [srM_low n1.1 (by omega)]; exact hat.1.2
    have g5 : ∀ s, srM P a s 8 5 b = ian (M 5 b) (ixo (isl 1 a) (-1)) := fun s => by rw [srM_low n1.1 (by omega)]; exact hat.2.2
    have hS2 := c_startRowsAnew (E := E) (S := S) (M := srM P a (ian (M 5 a) (ixo (isl 1 b) (-1))) 8) (i := b) n2 (by rw [g5]; exact h5 b a (by omega) (by omega) (by omega) (by omega))
    rw [g5] at hS2
    have p2 := hat.1.1
    simp +contextual (disch := first | omega | exact Nat.le_of_ble_eq_true rfl | assumption) only [↓r_X8_cut_0, ↓r_X8_cut_1, ↓r_X8_cut_4, ↓r_X8_cut_5, ↓r_X8_cut_8, ↓r_X8_cut_11, ↓r_X8_cut_12, ↓r_X8_cut_13, ↓r_X8_cut_14, ↓r_X8_cut_15, ↓r_X8_cut_18, ↓r_X8_cut_19, ↓r_X8_cut_20, ↓r_X8_cut_23, ↓r_X8_cut_24, ↓r_X8_cut_27, ↓r_X8_cut_28, ↓r_X8_cut_29, ↓r_X8_cut_32, ↓r_X8_cut_35, ↓r_X8_cut_36, ↓r_X8_cut_37, ↓r_X8_cut_40, ↓r_X8_cut_41, ↓r_X8_cut_42, ↓r_X8_cut_45, ↓r_X8_cut_48, ↓r_X8_cut_49, ↓r_X8_cut_50, ↓r_X8_cut_53, ↓r_X8_cut_54, ↓x2_0, ↓f8_0, ↓x1_1, ↓lf_X3_has, ↓x31_1, ↓x31b1, ↓x0, ↓x48_0, ↓v8_2, ↓x4_2n, ↓x4_2i, ↓x4_2r, ↓v3_2, ↓f3_0, ↓f3_1, ↓x1_2, ↓l_2, ↓l_3, ↓l_4, ↓l_5, ↓l_6, ↓l_7, ↓l_9, ↓l_10, ↓l_11, ↓l_12, ↓l_13, ↓l_15, ↓l_16, ↓l_r1, ↓l_r2, ↓l_w1, ↓l_w2, and_self, and_true, true_and, implies_true, true_implies, Int.reduceEq, Int.reduceLE, Int.reduceLT, not_true_eq_false, not_false_eq_true, false_implies, RTf_eq, a1]
    refine ck_r hL (by omega) (by simp) ?_
    simp +contextual (disch := first | omega | exact Nat.le_of_ble_eq_true rfl | assumption) only [↓r_X8_cut_0, ↓r_X8_cut_1, ↓r_X8_cut_4, ↓r_X8_cut_5, ↓r_X8_cut_8, ↓r_X8_cut_11, ↓r_X8_cut_12, ↓r_X8_cut_13, ↓r_X8_cut_14, ↓r_X8_cut_15, ↓r_X8_cut_18, ↓r_X8_cut_19, ↓r_X8_cut_20, ↓r_X8_cut_23, ↓r_X8_cut_24, ↓r_X8_cut_27, ↓r_X8_cut_28, ↓r_X8_cut_29, ↓r_X8_cut_32, ↓r_X8_cut_35, ↓r_X8_cut_36, ↓r_X8_cut_37, ↓r_X8_cut_40, ↓r_X8_cut_41, ↓r_X8_cut_42, ↓r_X8_cut_45, ↓r_X8_cut_48, ↓r_X8_cut_49, ↓r_X8_cut_50, ↓r_X8_cut_53, ↓r_X8_cut_54, ↓x2_0, ↓f8_0, ↓x1_1, ↓lf_X3_has, ↓x31_1, ↓x31b1, ↓x0, ↓x48_0, ↓v8_2, ↓x4_2n, ↓x4_2i, ↓x4_2r, ↓v3_2, ↓f3_0, ↓f3_1, ↓x1_2, ↓l_2, ↓l_3, ↓l_4, ↓l_5, ↓l_6, ↓l_7, ↓l_9, ↓l_10, ↓l_11, ↓l_12, ↓l_13, ↓l_15, ↓l_16, ↓l_r1, ↓l_r2, ↓l_w1, ↓l_w2, and_self, and_true, true_and, implies_true, true_implies, Int.reduceEq, Int.reduceLE, Int.reduceLT, not_true_eq_false, not_false_eq_true, false_implies, RTf_eq, a1]
    refine ck_v hP (by omega) (by simp) ?_
    simp +contextual (disch := first | omega | exact Nat.le_of_ble_eq_true rfl | assumption) only [↓r_X8_cut_0, ↓r_X8_cut_1, ↓r_X8_cut_4, ↓r_X8_cut_5, ↓r_X8_cut_8, ↓r_X8_cut_11, ↓r_X8_cut_12, ↓r_X8_cut_13, ↓r_X8_cut_14, ↓r_X8_cut_15, ↓r_X8_cut_18, ↓r_X8_cut_19, ↓r_X8_cut_20, ↓r_X8_cut_23, ↓r_X8_cut_24, ↓r_X8_cut_27, ↓r_X8_cut_28, ↓r_X8_cut_29, ↓r_X8_cut_32, ↓r_X8_cut_35, ↓r_X8_cut_36, ↓r_X8_cut_37, ↓r_X8_cut_40, ↓r_X8_cut_41, ↓r_X8_cut_42, ↓r_X8_cut_45, ↓r_X8_cut_48, ↓r_X8_cut_49, ↓r_X8_cut_50, ↓r_X8_cut_53, ↓r_X8_cut_54, ↓x2_0, ↓f8_0, ↓x1_1, ↓lf_X3_has, ↓x31_1, ↓x31b1, ↓x0, ↓x48_0, ↓v8_2, ↓x4_2n, ↓x4_2i, ↓x4_2r, ↓v3_2, ↓f3_0, ↓f3_1, ↓x1_2, ↓l_2, ↓l_3, ↓l_4, ↓l_5, ↓l_6, ↓l_7, ↓l_9, ↓l_10, ↓l_11, ↓l_12, ↓l_13, ↓l_15, ↓l_16, ↓l_r1, ↓l_r2, ↓l_w1, ↓l_w2, and_self, and_true, true_and, implies_true, true_implies, Int.reduceEq, Int.reduceLE, Int.reduceLT, not_true_eq_false, not_false_eq_true, false_implies, RTf_eq, a1, p2]
    refine ck_v hS1 (by omega) (by simp) ?_
    simp +contextual (disch := first | omega | exact Nat.le_of_ble_eq_true rfl | assumption) only [↓r_X8_cut_0, ↓r_X8_cut_1, ↓r_X8_cut_4, ↓r_X8_cut_5, ↓r_X8_cut_8, ↓r_X8_cut_11, ↓r_X8_cut_12, ↓r_X8_cut_13, ↓r_X8_cut_14, ↓r_X8_cut_15, ↓r_X8_cut_18, ↓r_X8_cut_19, ↓r_X8_cut_20, ↓r_X8_cut_23, ↓r_X8_cut_24, ↓r_X8_cut_27, ↓r_X8_cut_28, ↓r_X8_cut_29, ↓r_X8_cut_32, ↓r_X8_cut_35, ↓r_X8_cut_36, ↓r_X8_cut_37, ↓r_X8_cut_40, ↓r_X8_cut_41, ↓r_X8_cut_42, ↓r_X8_cut_45, ↓r_X8_cut_48, ↓r_X8_cut_49, ↓r_X8_cut_50, ↓r_X8_cut_53, ↓r_X8_cut_54, ↓x2_0, ↓f8_0, ↓x1_1, ↓lf_X3_has, ↓x31_1, ↓x31b1, ↓x0, ↓x48_0, ↓v8_2, ↓x4_2n, ↓x4_2i, ↓x4_2r, ↓v3_2, ↓f3_0, ↓f3_1, ↓x1_2, ↓l_2, ↓l_3, ↓l_4, ↓l_5, ↓l_6, ↓l_7, ↓l_9, ↓l_10, ↓l_11, ↓l_12, ↓l_13, ↓l_15, ↓l_16, ↓l_r1, ↓l_r2, ↓l_w1, ↓l_w2, and_self, and_true, true_and, implies_true, true_implies, Int.reduceEq, Int.reduceLE, Int.reduceLT, not_true_eq_false, not_false_eq_true, false_implies, RTf_eq, a1, g3]
    refine ck_v hS2 (by omega) (by simp) ?_
    simp +contextual (disch := first | omega | exact Nat.le_of_ble_eq_true rfl | assumption) only [↓r_X8_cut_0, ↓r_X8_cut_1, ↓r_X8_cut_4, ↓r_X8_cut_5, ↓r_X8_cut_8, ↓r_X8_cut_11, ↓r_X8_cut_12, ↓r_X8_cut_13, ↓r_X8_cut_14, ↓r_X8_cut_15, ↓r_X8_cut_18, ↓r_X8_cut_19, ↓r_X8_cut_20, ↓r_X8_cut_23, ↓r_X8_cut_24, ↓r_X8_cut_27, ↓r_X8_cut_28, ↓r_X8_cut_29, ↓r_X8_cut_32, ↓r_X8_cut_35, ↓r_X8_cut_36, ↓r_X8_cut_37, ↓r_X8_cut_40, ↓r_X8_cut_41, ↓r_X8_cut_42, ↓r_X8_cut_45, ↓r_X8_cut_48, ↓r_X8_cut_49, ↓r_X8_cut_50, ↓r_X8_cut_53, ↓r_X8_cut_54, ↓x2_0, ↓f8_0, ↓x1_1, ↓lf_X3_has, ↓x31_1, ↓x31b1, ↓x0, ↓x48_0, ↓v8_2, ↓x4_2n, ↓x4_2i, ↓x4_2r, ↓v3_2, ↓f3_0, ↓f3_1, ↓x1_2, ↓l_2, ↓l_3, ↓l_4, ↓l_5, ↓l_6, ↓l_7, ↓l_9, ↓l_10, ↓l_11, ↓l_12, ↓l_13, ↓l_15, ↓l_16, ↓l_r1, ↓l_r2, ↓l_w1, ↓l_w2, and_self, and_true, true_and, implies_true, true_implies, Int.reduceEq, Int.reduceLE, Int.reduceLT, not_true_eq_false, not_false_eq_true, false_implies, RTf_eq, a1]
  · rw [if_neg h, if_neg h]
    simp +contextual (disch := first | omega | exact Nat.le_of_ble_eq_true rfl | assumption) only [↓r_X8_cut_0, ↓r_X8_cut_1, ↓r_X8_cut_4, ↓r_X8_cut_5, ↓r_X8_cut_8, ↓r_X8_cut_11, ↓r_X8_cut_12, ↓r_X8_cut_13, ↓r_X8_cut_14, ↓r_X8_cut_15, ↓r_X8_cut_18, ↓r_X8_cut_19, ↓r_X8_cut_20, ↓r_X8_cut_23, ↓r_X8_cut_24, ↓r_X8_cut_27, ↓r_X8_cut_28, ↓r_X8_cut_29, ↓r_X8_cut_32, ↓r_X8_cut_35, ↓r_X8_cut_36, ↓r_X8_cut_37, ↓r_X8_cut_40, ↓r_X8_cut_41, ↓r_X8_cut_42, ↓r_X8_cut_45, ↓r_X8_cut_48, ↓r_X8_cut_49, ↓r_X8_cut_50, ↓r_X8_cut_53, ↓r_X8_cut_54, ↓x2_0, ↓f8_0, ↓x1_1, ↓lf_X3_has, ↓x31_1, ↓x31b1, ↓x0, ↓x48_0, ↓v8_2, ↓x4_2n, ↓x4_2i, ↓x4_2r, ↓v3_2, ↓f3_0, ↓f3_1, ↓x1_2, ↓l_2, ↓l_3, ↓l_4, ↓l_5, ↓l_6, ↓l_7, ↓l_9, ↓l_10, ↓l_11, ↓l_12, ↓l_13, ↓l_15, ↓l_16, ↓l_r1, ↓l_r2, ↓l_w1, ↓l_w2, and_self, and_true, true_and, implies_true, true_implies, Int.reduceEq, Int.reduceLE, Int.reduceLT, not_true_eq_false, not_false_eq_true, false_implies, RTf_eq]
    exact fun f => absurd f h
end
