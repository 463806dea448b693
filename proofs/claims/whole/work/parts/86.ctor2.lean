/-! ===== the small constructors ===== -/
section
variable {E : ET} {S : SCR} {T : Int → Option AC} {n sl : Nat} {c : Int}
def arr3 : Int → AC := fun j => if j < 3 then .inl (0, 16, fun _ => vi 0) else .inl (0, 8, fun _ => vi 0)
def arr6 : Int → AC := fun j => if j = 1 then .inl (0, 8, fun _ => vi 0) else .inl (2, 8, fun _ => vl 0)
theorem c_init5 (hc : T c = some (.inr (5, dfl 5))) (h0 : 0 ≤ c) (h1 : c < (n : Int)) : Ctr E 3 19 [vr c] (HH S n sl T) none (cHH S n (sl + 16) 2 arr8 T c 5 [vr (n : Int), vr ((n : Int) + 1), vi 0, vi 0, vi 0]) := by
  rw [cHH_0 (arr := arr8) hc]
  refine Ctr_of mi_X5_init mo_X5_init (Nat.le_of_ble_eq_true rfl) ⟨Nat.le_add_right n 2, Nat.le_add_right sl 16⟩ (fun g => ?_)
  rw [show entL mi_X5_init.2.2.1 [vr c] = [some (vr c)] from rfl]
  refine e_X5_init 400 (lfok E (by omega)) ?_
  obtain ⟨Z, hZ⟩ : ∃ Z, Z = (cHH S n (sl + 16) 2 arr8 T c 5 [vr (n : Int), vr ((n : Int) + 1), vi 0, vi 0, vi 0]) := ⟨_, rfl⟩
  have l1 : Z.1 = n + 2 := by rw [hZ]; rfl
  have l2 : Z.2.1 = sl + 16 := by rw [hZ]; rfl
  rw [← hZ]
  obtain ⟨lm, hlm⟩ : ∃ lm : Nat × Nat, lm = (Z.1, Z.2.1) := ⟨_, rfl⟩
  have l3 : lm.1 = n + 2 := by rw [hlm]; exact l1
  have l4 : lm.2 = sl + 16 := by rw [hlm]; exact l2
  rw [← hlm]
  have h_0 : arr8 (((0 : Nat)) : Int) = .inl (0, 8, fun _ => vi 0) := rfl
  have h_1 : arr8 (((0 + 1 : Nat)) : Int) = .inl (0, 8, fun _ => vi 0) := rfl
  have hD : ∀ k : Nat, True := fun _ => trivial
  simp +contextual (disch := first | omega | exact Nat.le_of_ble_eq_true rfl | assumption | exact hD _ | (simp [dfl]; done)) only [↓r_X5_init_0, ↓r_X5_init_1, ↓r_X5_init_4, ↓r_X5_init_5, ↓r_X5_init_7, ↓r_X5_init_9, ↓r_X5_init_12, ↓r_X5_init_13, ↓r_X5_init_15, ↓r_X5_init_17, ↓r_X5_init_20, ↓r_X5_init_21, ↓r_X5_init_22, ↓r_X5_init_25, ↓r_X5_init_26, ↓r_X5_init_27, ↓r_X5_init_30, ↓r_X5_init_31, ↓r_X5_init_32, ↓r_X5_init_35, ↓x2_0, ↓x0, ↓p5_2, ↓p5_3, ↓p5_4, ↓x48_4, and_self, and_true, true_and, implies_true, true_implies, Int.reduceEq, Int.reduceLE, Int.reduceLT, not_true_eq_false, not_false_eq_true, false_implies, RTf_eq, ↓z47, ↓z42i, ↓z42b, ↓z42l, ↓z36i, ↓z36b, ↓z37i, ↓z37r]
  rw [hZ]
  rfl
theorem c_init7 (hc : T c = some (.inr (7, dfl 7))) (h0 : 0 ≤ c) (h1 : c < (n : Int)) : Ctr E 3 36 [vr c] (HH S n sl T) none (cHH S n (sl + 16) 2 arr8 T c 7 [vr (n : Int), vr ((n : Int) + 1), vi 0, vi 0, vi 0, vi 0, vi 0, vi 0, vi (-9), vi 0, vi 0, vi 0, vi 0]) := by
  rw [cHH_0 (arr := arr8) hc]
  refine Ctr_of mi_X7_init mo_X7_init (Nat.le_of_ble_eq_true rfl) ⟨Nat.le_add_right n 2, Nat.le_add_right sl 16⟩ (fun g => ?_)
  rw [show entL mi_X7_init.2.2.1 [vr c] = [some (vr c)] from rfl]
  refine e_X7_init 400 (lfok E (by omega)) ?_
  obtain ⟨Z, hZ⟩ : ∃ Z, Z = (cHH S n (sl + 16) 2 arr8 T c 7 [vr (n : Int), vr ((n : Int) + 1), vi 0, vi 0, vi 0, vi 0, vi 0, vi 0, vi (-9), vi 0, vi 0, vi 0, vi 0]) := ⟨_, rfl⟩
  have l1 : Z.1 = n + 2 := by rw [hZ]; rfl
  have l2 : Z.2.1 = sl + 16 := by rw [hZ]; rfl
  rw [← hZ]
  obtain ⟨lm, hlm⟩ : ∃ lm : Nat × Nat, lm = (Z.1, Z.2.1) := ⟨_, rfl⟩
  have l3 : lm.1 = n + 2 := by rw [hlm]; exact l1
  have l4 : lm.2 = sl + 16 := by rw [hlm]; exact l2
  rw [← hlm]
  have h_0 : arr8 (((0 : Nat)) : Int) = .inl (0, 8, fun _ => vi 0) := rfl
  have h_1 : arr8 (((0 + 1 : Nat)) : Int) = .inl (0, 8, fun _ => vi 0) := rfl
  have hD : ∀ k : Nat, True := fun _ => trivial
  simp +contextual (disch := first | omega | exact Nat.le_of_ble_eq_true rfl | assumption | exact hD _ | (simp [dfl]; done)) only [↓r_X7_init_0, ↓r_X7_init_1, ↓r_X7_init_4, ↓r_X7_init_5, ↓r_X7_init_7, ↓r_X7_init_9, ↓r_X7_init_12, ↓r_X7_init_13, ↓r_X7_init_15, ↓r_X7_init_17, ↓r_X7_init_20, ↓r_X7_init_21, ↓r_X7_init_22, ↓r_X7_init_25, ↓r_X7_init_26, ↓r_X7_init_27, ↓r_X7_init_30, ↓r_X7_init_31, ↓r_X7_init_32, ↓r_X7_init_35, ↓r_X7_init_36, ↓r_X7_init_37, ↓r_X7_init_40, ↓r_X7_init_41, ↓r_X7_init_42, ↓r_X7_init_45, ↓r_X7_init_46, ↓r_X7_init_47, ↓r_X7_init_50, ↓r_X7_init_51, ↓r_X7_init_53, ↓r_X7_init_56, ↓r_X7_init_57, ↓r_X7_init_58, ↓r_X7_init_61, ↓r_X7_init_62, ↓r_X7_init_63, ↓r_X7_init_66, ↓r_X7_init_67, ↓r_X7_init_68, ↓r_X7_init_71, ↓r_X7_init_72, ↓r_X7_init_73, ↓r_X7_init_76, ↓x2_0, ↓x0, ↓p7_2, ↓p7_3, ↓p7_4, ↓p7_5, ↓p7_6, ↓p7_7, ↓p7_8, ↓p7_9, ↓p7_10, ↓p7_11, ↓p7_12, ↓x48_4, and_self, and_true, true_and, implies_true, true_implies, Int.reduceEq, Int.reduceLE, Int.reduceLT, not_true_eq_false, not_false_eq_true, false_implies, RTf_eq, ↓z47, ↓z42i, ↓z42b, ↓z42l, ↓z36i, ↓z36b, ↓z37i, ↓z37r]
  rw [hZ]
  rfl
theorem c_init3 (hc : T c = some (.inr (3, dfl 3))) (h0 : 0 ≤ c) (h1 : c < (n : Int)) : Ctr E 3 6 [vr c] (HH S n sl T) none (cHH S n (sl + 64) 5 arr3 T c 3 [vr (n : Int), vr ((n : Int) + 1), vr ((n : Int) + 2), vr ((n : Int) + 3), vr ((n : Int) + 4), vi 0]) := by
  rw [cHH_0 (arr := arr3) hc]
  refine Ctr_of mi_X3_init mo_X3_init (Nat.le_of_ble_eq_true rfl) ⟨Nat.le_add_right n 5, Nat.le_add_right sl 64⟩ (fun g => ?_)
  rw [show entL mi_X3_init.2.2.1 [vr c] = [some (vr c)] from rfl]
  refine e_X3_init 400 (lfok E (by omega)) ?_
  obtain ⟨Z, hZ⟩ : ∃ Z, Z = (cHH S n (sl + 64) 5 arr3 T c 3 [vr (n : Int), vr ((n : Int) + 1), vr ((n : Int) + 2), vr ((n : Int) + 3), vr ((n : Int) + 4), vi 0]) := ⟨_, rfl⟩
  have l1 : Z.1 = n + 5 := by rw [hZ]; rfl
  have l2 : Z.2.1 = sl + 64 := by rw [hZ]; rfl
  rw [← hZ]
  obtain ⟨lm, hlm⟩ : ∃ lm : Nat × Nat, lm = (Z.1, Z.2.1) := ⟨_, rfl⟩
  have l3 : lm.1 = n + 5 := by rw [hlm]; exact l1
  have l4 : lm.2 = sl + 64 := by rw [hlm]; exact l2
  rw [← hlm]
  have h_0 : arr3 (((0 : Nat)) : Int) = .inl (0, 16, fun _ => vi 0) := rfl
  have h_1 : arr3 (((0 + 1 : Nat)) : Int) = .inl (0, 16, fun _ => vi 0) := rfl
  have h_2 : arr3 (((0 + 1 + 1 : Nat)) : Int) = .inl (0, 16, fun _ => vi 0) := rfl
  have h_3 : arr3 (((0 + 1 + 1 + 1 : Nat)) : Int) = .inl (0, 8, fun _ => vi 0) := rfl
  have h_4 : arr3 (((0 + 1 + 1 + 1 + 1 : Nat)) : Int) = .inl (0, 8, fun _ => vi 0) := rfl
  have hD : ∀ k : Nat, True := fun _ => trivial
  simp +contextual (disch := first | omega | exact Nat.le_of_ble_eq_true rfl | assumption | exact hD _ | (simp [dfl]; done)) only [↓r_X3_init_0, ↓r_X3_init_1, ↓r_X3_init_4, ↓r_X3_init_5, ↓r_X3_init_7, ↓r_X3_init_9, ↓r_X3_init_12, ↓r_X3_init_13, ↓r_X3_init_15, ↓r_X3_init_17, ↓r_X3_init_20, ↓r_X3_init_21, ↓r_X3_init_23, ↓r_X3_init_25, ↓r_X3_init_28, ↓r_X3_init_29, ↓r_X3_init_31, ↓r_X3_init_33, ↓r_X3_init_36, ↓r_X3_init_37, ↓r_X3_init_39, ↓r_X3_init_41, ↓r_X3_init_44, ↓r_X3_init_45, ↓r_X3_init_46, ↓r_X3_init_49, ↓x2_0, ↓x0, ↓p3_5, ↓x48_4, and_self, and_true, true_and, implies_true, true_implies, Int.reduceEq, Int.reduceLE, Int.reduceLT, not_true_eq_false, not_false_eq_true, false_implies, RTf_eq, ↓z47, ↓z42i, ↓z42b, ↓z42l, ↓z36i, ↓z36b, ↓z37i, ↓z37r]
  rw [hZ]
  rfl
theorem c_init6 (hc : T c = some (.inr (6, dfl 6))) (h0 : 0 ≤ c) (h1 : c < (n : Int)) : Ctr E 3 31 [vr c] (HH S n sl T) none (cHH S n (sl + 24) 3 arr6 T c 6 [vr (n : Int), vr ((n : Int) + 1), vr ((n : Int) + 2)]) := by
  rw [cHH_0 (arr := arr6) hc]
  refine Ctr_of mi_X6_init mo_X6_init (Nat.le_of_ble_eq_true rfl) ⟨Nat.le_add_right n 3, Nat.le_add_right sl 24⟩ (fun g => ?_)
  rw [show entL mi_X6_init.2.2.1 [vr c] = [some (vr c)] from rfl]
  refine e_X6_init 400 (lfok E (by omega)) ?_
  obtain ⟨Z, hZ⟩ : ∃ Z, Z = (cHH S n (sl + 24) 3 arr6 T c 6 [vr (n : Int), vr ((n : Int) + 1), vr ((n : Int) + 2)]) := ⟨_, rfl⟩
  have l1 : Z.1 = n + 3 := by rw [hZ]; rfl
  have l2 : Z.2.1 = sl + 24 := by rw [hZ]; rfl
  rw [← hZ]
  obtain ⟨lm, hlm⟩ : ∃ lm : Nat × Nat, lm = (Z.1, Z.2.1) := ⟨_, rfl⟩
  have l3 : lm.1 = n + 3 := by rw [hlm]; exact l1
  have l4 : lm.2 = sl + 24 := by rw [hlm]; exact l2
  rw [← hlm]
  have h_0 : arr6 (((0 : Nat)) : Int) = .inl (2, 8, fun _ => vl 0) := rfl
  have h_1 : arr6 (((0 + 1 : Nat)) : Int) = .inl (0, 8, fun _ => vi 0) := rfl
  have h_2 : arr6 (((0 + 1 + 1 : Nat)) : Int) = .inl (2, 8, fun _ => vl 0) := rfl
  have hD : ∀ k : Nat, True := fun _ => trivial
  simp +contextual (disch := first | omega | exact Nat.le_of_ble_eq_true rfl | assumption | exact hD _ | (simp [dfl]; done)) only [↓r_X6_init_0, ↓r_X6_init_1, ↓r_X6_init_4, ↓r_X6_init_5, ↓r_X6_init_7, ↓r_X6_init_9, ↓r_X6_init_12, ↓r_X6_init_13, ↓r_X6_init_15, ↓r_X6_init_17, ↓r_X6_init_20, ↓r_X6_init_21, ↓r_X6_init_23, ↓r_X6_init_25, ↓r_X6_init_28, ↓x2_0, ↓x0, ↓x48_4, and_self, and_true, true_and, implies_true, true_implies, Int.reduceEq, Int.reduceLE, Int.reduceLT, not_true_eq_false, not_false_eq_true, false_implies, RTf_eq, ↓z47, ↓z42i, ↓z42b, ↓z42l, ↓z36i, ↓z36b, ↓z37i, ↓z37r]
  rw [hZ]
  rfl
theorem c_init0 (hc : T c = some (.inr (0, dfl 0))) (h0 : 0 ≤ c) (h1 : c < (n : Int)) : Ctr E 3 0 [vr c] (HH S n sl T) none (cHH S n (sl + 0) 0 arr8 T c 0 [vi 1, vi 0]) := by
  rw [cHH_0 (arr := arr8) hc]
  refine Ctr_of mi_X0_init mo_X0_init (Nat.le_of_ble_eq_true rfl) ⟨Nat.le_add_right n 0, Nat.le_add_right sl 0⟩ (fun g => ?_)
  rw [show entL mi_X0_init.2.2.1 [vr c] = [some (vr c)] from rfl]
  refine e_X0_init 400 (lfok E (by omega)) ?_
  obtain ⟨Z, hZ⟩ : ∃ Z, Z = (cHH S n (sl + 0) 0 arr8 T c 0 [vi 1, vi 0]) := ⟨_, rfl⟩
  have l1 : Z.1 = n + 0 := by rw [hZ]; rfl
  have l2 : Z.2.1 = sl + 0 := by rw [hZ]; rfl
  rw [← hZ]
  obtain ⟨lm, hlm⟩ : ∃ lm : Nat × Nat, lm = (Z.1, Z.2.1) := ⟨_, rfl⟩
  have l3 : lm.1 = n + 0 := by rw [hlm]; exact l1
  have l4 : lm.2 = sl + 0 := by rw [hlm]; exact l2
  rw [← hlm]
  have hD : ∀ k : Nat, True := fun _ => trivial
  simp +contextual (disch := first | omega | exact Nat.le_of_ble_eq_true rfl | assumption | exact hD _ | (simp [dfl]; done)) only [↓r_X0_init_0, ↓r_X0_init_1, ↓r_X0_init_4, ↓r_X0_init_5, ↓r_X0_init_6, ↓r_X0_init_9, ↓r_X0_init_10, ↓r_X0_init_11, ↓r_X0_init_14, ↓x2_0, ↓x0, ↓p0_0, ↓p0_1, ↓x48_4, and_self, and_true, true_and, implies_true, true_implies, Int.reduceEq, Int.reduceLE, Int.reduceLT, not_true_eq_false, not_false_eq_true, false_implies, RTf_eq, ↓z47, ↓z42i, ↓z42b, ↓z42l, ↓z36i, ↓z36b, ↓z37i, ↓z37r]
  rw [hZ]
  rfl
theorem c_init4 {h : AH} {z : Int} : Ctr E 2 16 [vr z] h none h := by
  refine Ctr_f mi_X4_init mo_X4_init (Nat.le_of_ble_eq_true rfl) ⟨Nat.le_refl _, Nat.le_refl _⟩ (fun g lm => ?_)
  rw [show entL mi_X4_init.2.2.1 [vr z] = [some (vr z)] from rfl]
  refine e_X4_init 400 (lfok E (by omega)) ?_
  simp +contextual (disch := first | omega | exact Nat.le_of_ble_eq_true rfl | assumption) only [↓r_X4_init_0, ↓r_X4_init_1, ↓r_X4_init_4, ↓x2_0, ↓x48_4, and_self, and_true, true_and, implies_true, true_implies, Int.reduceEq, Int.reduceLE, Int.reduceLT, not_true_eq_false, not_false_eq_true, false_implies, RTf_eq, ↓z47]
theorem c_init2 {h : AH} {z : Int} : Ctr E 3 4 [vr z] h none h := by
  refine Ctr_f mi_X2_init mo_X2_init (Nat.le_of_ble_eq_true rfl) ⟨Nat.le_refl _, Nat.le_refl _⟩ (fun g lm => ?_)
  rw [show entL mi_X2_init.2.2.1 [vr z] = [some (vr z)] from rfl]
  refine e_X2_init 400 (lfok E (by omega)) ?_
  simp +contextual (disch := first | omega | exact Nat.le_of_ble_eq_true rfl | assumption) only [↓r_X2_init_0, ↓r_X2_init_1, ↓r_X2_init_4, ↓x2_0, ↓x48_4, and_self, and_true, true_and, implies_true, true_implies, Int.reduceEq, Int.reduceLE, Int.reduceLT, not_true_eq_false, not_false_eq_true, false_implies, RTf_eq, ↓k53_1]
  refine ⟨2, none, h, by omega, c_init4, ⟨Nat.le_refl _, Or.inl rfl, Nat.le_refl _, Or.inl rfl⟩, Nat.zero_le _, ?_⟩
  show run E g mi_X2_init 3 lm _ lfF pm_X2_init _ 4 _ [] h
  simp +contextual (disch := first | omega | exact Nat.le_of_ble_eq_true rfl | assumption) only [↓r_X2_init_0, ↓r_X2_init_1, ↓r_X2_init_4, ↓x2_0, ↓x48_4, and_self, and_true, true_and, implies_true, true_implies, Int.reduceEq, Int.reduceLE, Int.reduceLT, not_true_eq_false, not_false_eq_true, false_implies, RTf_eq]
theorem c_init1 {h : AH} {z : Int} : Ctr E 4 2 [vr z] h none h := by
  refine Ctr_f mi_X1_init mo_X1_init (Nat.le_of_ble_eq_true rfl) ⟨Nat.le_refl _, Nat.le_refl _⟩ (fun g lm => ?_)
  rw [show entL mi_X1_init.2.2.1 [vr z] = [some (vr z)] from rfl]
  refine e_X1_init 400 (lfok E (by omega)) ?_
  simp +contextual (disch := first | omega | exact Nat.le_of_ble_eq_true rfl | assumption) only [↓r_X1_init_0, ↓r_X1_init_1, ↓r_X1_init_4, ↓x2_0, ↓x48_4, and_self, and_true, true_and, implies_true, true_implies, Int.reduceEq, Int.reduceLE, Int.reduceLT, not_true_eq_false, not_false_eq_true, false_implies, RTf_eq, ↓k53_1]
  refine ⟨3, none, h, by omega, c_init2, ⟨Nat.le_refl _, Or.inl rfl, Nat.le_refl _, Or.inl rfl⟩, Nat.zero_le _, ?_⟩
  show run E g mi_X1_init 4 lm _ lfF pm_X1_init _ 4 _ [] h
  simp +contextual (disch := first | omega | exact Nat.le_of_ble_eq_true rfl | assumption) only [↓r_X1_init_0, ↓r_X1_init_1, ↓r_X1_init_4, ↓x2_0, ↓x48_4, and_self, and_true, true_and, implies_true, true_implies, Int.reduceEq, Int.reduceLE, Int.reduceLT, not_true_eq_false, not_false_eq_true, false_implies, RTf_eq]
end
