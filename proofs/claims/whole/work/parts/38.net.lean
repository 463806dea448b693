/-! ===== joining and parting two nodes; lines of the class's own calls that touch nothing else ===== -/
section
variable {E : ET} {S : SCR} {M : Mem}
def joM (M : Mem) (l a b dl : Int) : Mem := up2 (up2 (up2 (up2 (up2 (up2 M 2 l (min a b)) 3 l (max a b)) 4 l dl) 5 a (ior (M 5 a) (isl 1 b))) 5 b (ior (M 5 b) (isl 1 a))) 1 5 (M 1 5 + 1)
theorem c_join {l a b dl : Int} (hl : 0 ≤ l ∧ l < 16) (ha : 0 ≤ a ∧ a < 8) (hb : 0 ≤ b ∧ b < 8) (hab : ¬ a = b) : Ctr E 2 11 [vr 1, vi l, vi a, vi b, vi dl] (toAH S M) none (toAH S (joM M l a b dl)) := by
  obtain ⟨N, hN⟩ : ∃ N, N = up2 (up2 (up2 M 2 l (min a b)) 3 l (max a b)) 4 l dl := ⟨_, rfl⟩
  have e1 : N 5 a = M 5 a := by rw [hN, up2_other (by omega), up2_other (by omega), up2_other (by omega)]
  have e2 : up2 N 5 a (ior (M 5 a) (isl 1 b)) 5 b = M 5 b := by rw [up2_other (by omega), hN, up2_other (by omega), up2_other (by omega), up2_other (by omega)]
  have e3 : up2 (up2 N 5 a (ior (M 5 a) (isl 1 b))) 5 b (ior (M 5 b) (isl 1 a)) 1 5 = M 1 5 := by rw [up2_other (by omega), up2_other (by omega), hN, up2_other (by omega), up2_other (by omega), up2_other (by omega)]
  unfold joM
  rw [← hN]
  refine Ctr_f mi_X3_join mo_X3_join (Nat.le_of_ble_eq_true rfl) ⟨Nat.le_refl _, Nat.le_refl _⟩ (fun g lm => ?_)
  rw [show entL mi_X3_join.2.2.1 [vr 1, vi l, vi a, vi b, vi dl] = [some (vr 1), some (vi l), some (vi a), some (vi b), some (vi dl)] from rfl]
  refine e_X3_join 400 (lfok E (by omega)) ?_
  simp +contextual (disch := first | omega | exact Nat.le_of_ble_eq_true rfl | assumption) only [↓r_X3_join_0, ↓r_X3_join_1, ↓r_X3_join_4, ↓r_X3_join_5, ↓r_X3_join_6, ↓r_X3_join_7, ↓r_X3_join_10, ↓r_X3_join_11, ↓r_X3_join_12, ↓r_X3_join_15, ↓r_X3_join_16, ↓r_X3_join_17, ↓r_X3_join_18, ↓r_X3_join_21, ↓r_X3_join_22, ↓r_X3_join_23, ↓r_X3_join_26, ↓r_X3_join_27, ↓r_X3_join_29, ↓r_X3_join_30, ↓r_X3_join_31, ↓r_X3_join_34, ↓r_X3_join_35, ↓r_X3_join_36, ↓r_X3_join_37, ↓r_X3_join_38, ↓r_X3_join_39, ↓r_X3_join_40, ↓r_X3_join_41, ↓r_X3_join_42, ↓r_X3_join_43, ↓r_X3_join_46, ↓r_X3_join_47, ↓r_X3_join_48, ↓r_X3_join_49, ↓r_X3_join_50, ↓r_X3_join_51, ↓r_X3_join_52, ↓r_X3_join_53, ↓r_X3_join_54, ↓r_X3_join_55, ↓r_X3_join_56, ↓r_X3_join_59, ↓r_X3_join_60, ↓r_X3_join_61, ↓r_X3_join_64, ↓x2_0, ↓f3_0, ↓x1_1, ↓x1_2, ↓x1_3, ↓lf_J9_min_7cf53, ↓f3_1, ↓lf_J9_max_7cf53, ↓f3_2, ↓x1_4, ↓f3_3, ↓x29, ↓x0, ↓x16, ↓x14, ↓x28i, ↓x28r, ↓f3_5, ↓x8, ↓p3_5, ↓x48_4, ↓l_2, ↓s_2, ↓l_3, ↓s_3, ↓l_4, ↓s_4, ↓l_5, ↓s_5, ↓l_6, ↓s_6, ↓l_7, ↓l_9, ↓s_9, ↓l_10, ↓s_10, ↓l_11, ↓s_11, ↓l_12, ↓l_13, ↓l_15, ↓s_15, ↓l_16, ↓s_16, ↓l_r1, ↓s_r1, ↓l_r2, ↓s_r2, ↓l_w1, ↓s_w1, ↓l_w2, ↓s_w2, and_self, and_true, true_and, implies_true, true_implies, Int.reduceEq, Int.reduceLE, Int.reduceLT, not_true_eq_false, not_false_eq_true, false_implies, RTf_eq, ← hN, e1, e2, e3]
def paM (M : Mem) (l : Int) : Mem := up2 (up2 (up2 (up2 M 4 l 0) 5 (M 2 l) (ian (M 5 (M 2 l)) (ixo (isl 1 (M 3 l)) (-1)))) 5 (M 3 l) (ian (M 5 (M 3 l)) (ixo (isl 1 (M 2 l)) (-1)))) 1 5 (M 1 5 - 1)
theorem c_part {l : Int} (hl : 0 ≤ l ∧ l < 16) (ha : 0 ≤ M 2 l ∧ M 2 l < 8) (hb : 0 ≤ M 3 l ∧ M 3 l < 8) (hab : ¬ M 2 l = M 3 l) : Ctr E 2 12 [vr 1, vi l] (toAH S M) none (toAH S (paM M l)) := by
  unfold paM
  refine Ctr_f mi_X3_part mo_X3_part (Nat.le_of_ble_eq_true rfl) ⟨Nat.le_refl _, Nat.le_refl _⟩ (fun g lm => ?_)
  rw [show entL mi_X3_part.2.2.1 [vr 1, vi l] = [some (vr 1), some (vi l), none, none] from rfl]
  refine e_X3_part 400 (lfok E (by omega)) ?_
  obtain ⟨a, ea⟩ : ∃ a, a = M 2 l := ⟨_, rfl⟩
  obtain ⟨b, eb⟩ : ∃ b, b = M 3 l := ⟨_, rfl⟩
  rw [← ea, ← eb] at *
  have e1 : up2 M 4 l 0 5 a = M 5 a := up2_other (by omega)
  have e2 : up2 (up2 M 4 l 0) 5 a (ian (M 5 a) (ixo (isl 1 b) (-1))) 5 b = M 5 b := by rw [up2_other (by omega), up2_other (by omega)]
  have e3 : up2 (up2 (up2 M 4 l 0) 5 a (ian (M 5 a) (ixo (isl 1 b) (-1)))) 5 b (ian (M 5 b) (ixo (isl 1 a) (-1))) 1 5 = M 1 5 := by rw [up2_other (by omega), up2_other (by omega), up2_other (by omega)]
  simp +contextual (disch := first | omega | exact Nat.le_of_ble_eq_true rfl | assumption) only [↓r_X3_part_0, ↓r_X3_part_1, ↓r_X3_part_4, ↓r_X3_part_5, ↓r_X3_part_6, ↓r_X3_part_7, ↓r_X3_part_8, ↓r_X3_part_11, ↓r_X3_part_12, ↓r_X3_part_13, ↓r_X3_part_14, ↓r_X3_part_15, ↓r_X3_part_18, ↓r_X3_part_19, ↓r_X3_part_20, ↓r_X3_part_21, ↓r_X3_part_22, ↓r_X3_part_25, ↓r_X3_part_26, ↓r_X3_part_27, ↓r_X3_part_28, ↓r_X3_part_29, ↓r_X3_part_30, ↓r_X3_part_31, ↓r_X3_part_32, ↓r_X3_part_33, ↓r_X3_part_34, ↓r_X3_part_35, ↓r_X3_part_36, ↓r_X3_part_39, ↓r_X3_part_40, ↓r_X3_part_41, ↓r_X3_part_42, ↓r_X3_part_43, ↓r_X3_part_44, ↓r_X3_part_45, ↓r_X3_part_46, ↓r_X3_part_47, ↓r_X3_part_48, ↓r_X3_part_49, ↓r_X3_part_50, ↓r_X3_part_51, ↓r_X3_part_54, ↓r_X3_part_55, ↓r_X3_part_56, ↓r_X3_part_59, ↓x2_0, ↓f3_0, ↓x1_1, ↓x4_2n, ↓x4_2i, ↓x4_2r, ↓f3_1, ↓x4_3n, ↓x4_3i, ↓x4_3r, ↓f3_2, ↓x0, ↓f3_3, ↓x1_2, ↓x29, ↓x1_3, ↓x16, ↓x15, ↓x13, ↓x28i, ↓x28r, ↓f3_5, ↓x9, ↓p3_5, ↓x48_4, ↓l_2, ↓s_2, ↓l_3, ↓s_3, ↓l_4, ↓s_4, ↓l_5, ↓s_5, ↓l_6, ↓s_6, ↓l_7, ↓l_9, ↓s_9, ↓l_10, ↓s_10, ↓l_11, ↓s_11, ↓l_12, ↓l_13, ↓l_15, ↓s_15, ↓l_16, ↓s_16, ↓l_r1, ↓s_r1, ↓l_r2, ↓s_r2, ↓l_w1, ↓s_w1, ↓l_w2, ↓s_w2, and_self, and_true, true_and, implies_true, true_implies, Int.reduceEq, Int.reduceLE, Int.reduceLT, not_true_eq_false, not_false_eq_true, false_implies, RTf_eq, ← ea, ← eb, e1, e2, e3]
end
