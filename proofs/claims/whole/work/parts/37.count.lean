/-! ===== counting walkers; the first free walker; the link between two nodes ===== -/
def cnt (p : Int → Bool) : Nat → Int
  | 0 => 0
  | k + 1 => if p (k : Int) = true then cnt p k + 1 else cnt p k
theorem cnt_congr {p q : Int → Bool} : ∀ n : Nat, (∀ k, 0 ≤ k → k < (n : Int) → p k = q k) → cnt p n = cnt q n := by
  intro n
  induction n with
  | zero => intro _; rfl
  | succ n ih =>
    intro h
    unfold cnt
    rw [ih (fun k h1 h2 => h k h1 (by omega)), h n (by omega) (by omega)]
theorem cnt_rng (p : Int → Bool) : ∀ n : Nat, 0 ≤ cnt p n ∧ cnt p n ≤ (n : Int) := by
  intro n
  induction n with
  | zero => exact ⟨by show (0 : Int) ≤ 0; omega, by show (0 : Int) ≤ 0; omega⟩
  | succ n ih =>
    unfold cnt
    split <;> omega
section
variable {E : ET} {S : SCR} {M : Mem}
def onB (M : Mem) (l z : Int) : Int → Bool := fun k => decide (M (209 + 3 * k) 8 = l ∧ M (209 + 3 * k) 4 = z)
theorem l_countOn {g : GT} {lm : Nat × Nat} {RT : RTy} {l z : Int} (hl : rg l) (hz : z = 0 ∨ z = 1) (h8 : ∀ k, 0 ≤ k → k < 12 → rg (M (209 + 3 * k) 8)) (h4 : ∀ k, 0 ≤ k → k < 12 → M (209 + 3 * k) 4 = 0 ∨ M (209 + 3 * k) 4 = 1) (hr : RT (some (vi (cnt (onB M l z) 12))) (toAH S M)) :
    ∀ k : Nat, k ≤ 12 → G E g mi_X8_countOn 2 lm RT 5 [some (vr 0), some (vi l), some (vi z), some (vi (cnt (onB M l z) k)), some (vi (k : Int))] [] (toAH S M) := by
  refine down ?_ ?_
  · refine q_X8_countOn_5 400 (lfok E (by omega)) ?_
    simp +contextual (disch := first | omega | exact Nat.le_of_ble_eq_true rfl | assumption) only [↓r_X8_countOn_0, ↓r_X8_countOn_1, ↓r_X8_countOn_2, ↓r_X8_countOn_3, ↓r_X8_countOn_5, ↓r_X8_countOn_7, ↓r_X8_countOn_9, ↓r_X8_countOn_12, ↓r_X8_countOn_13, ↓r_X8_countOn_16, ↓r_X8_countOn_18, ↓r_X8_countOn_19, ↓r_X8_countOn_22, ↓r_X8_countOn_23, ↓r_X8_countOn_26, ↓r_X8_countOn_27, ↓r_X8_countOn_30, ↓r_X8_countOn_32, ↓r_X8_countOn_33, ↓r_X8_countOn_36, ↓r_X8_countOn_37, ↓r_X8_countOn_40, ↓r_X8_countOn_43, ↓r_X8_countOn_46, ↓r_X8_countOn_49, ↓r_X8_countOn_50, ↓x0, ↓x4_3n, ↓x4_3i, ↓x4_3r, ↓x4_4n, ↓x4_4i, ↓x4_4r, ↓x1_4, ↓x32_3, ↓x2_0, ↓f8_3, ↓f7_8, ↓x1_1, ↓x32_1, ↓f7_4, ↓x1_2, ↓x7_3n, ↓x7_3i, ↓x7_3r, ↓x7_4n, ↓x7_4i, ↓x7_4r, ↓x33, ↓x1_3, ↓x48_0, ↓l_2, ↓l_3, ↓l_4, ↓l_5, ↓l_6, ↓l_7, ↓l_9, ↓l_10, ↓l_11, ↓l_12, ↓l_13, ↓l_15, ↓l_16, ↓l_r1, ↓l_r2, ↓l_w1, ↓l_w2, and_self, and_true, true_and, implies_true, true_implies, Int.reduceEq, Int.reduceLE, Int.reduceLT, not_true_eq_false, not_false_eq_true, false_implies, RTf_eq]
    exact ⟨fun _ => hr, fun q => absurd (by omega) q⟩
  · intro k hk ih
    have a8 := h8 k (by omega) (by omega)
    have a4 := h4 k (by omega) (by omega)
    have e : cnt (onB M l z) (k + 1) = if decide (M (209 + 3 * (k : Int)) 8 = l ∧ M (209 + 3 * (k : Int)) 4 = z) = true then cnt (onB M l z) k + 1 else cnt (onB M l z) k := rfl
    rw [e] at ih
    refine q_X8_countOn_5 400 (lfok E (by omega)) ?_
    simp +contextual (disch := first | omega | exact Nat.le_of_ble_eq_true rfl | assumption) only [↓r_X8_countOn_0, ↓r_X8_countOn_1, ↓r_X8_countOn_2, ↓r_X8_countOn_3, ↓r_X8_countOn_5, ↓r_X8_countOn_7, ↓r_X8_countOn_9, ↓r_X8_countOn_12, ↓r_X8_countOn_13, ↓r_X8_countOn_16, ↓r_X8_countOn_18, ↓r_X8_countOn_19, ↓r_X8_countOn_22, ↓r_X8_countOn_23, ↓r_X8_countOn_26, ↓r_X8_countOn_27, ↓r_X8_countOn_30, ↓r_X8_countOn_32, ↓r_X8_countOn_33, ↓r_X8_countOn_36, ↓r_X8_countOn_37, ↓r_X8_countOn_40, ↓r_X8_countOn_43, ↓r_X8_countOn_46, ↓r_X8_countOn_49, ↓r_X8_countOn_50, ↓x0, ↓x4_3n, ↓x4_3i, ↓x4_3r, ↓x4_4n, ↓x4_4i, ↓x4_4r, ↓x1_4, ↓x32_3, ↓x2_0, ↓f8_3, ↓f7_8, ↓x1_1, ↓x32_1, ↓f7_4, ↓x1_2, ↓x7_3n, ↓x7_3i, ↓x7_3r, ↓x7_4n, ↓x7_4i, ↓x7_4r, ↓x33, ↓x1_3, ↓x48_0, ↓l_2, ↓l_3, ↓l_4, ↓l_5, ↓l_6, ↓l_7, ↓l_9, ↓l_10, ↓l_11, ↓l_12, ↓l_13, ↓l_15, ↓l_16, ↓l_r1, ↓l_r2, ↓l_w1, ↓l_w2, and_self, and_true, true_and, implies_true, true_implies, Int.reduceEq, Int.reduceLE, Int.reduceLT, not_true_eq_false, not_false_eq_true, false_implies, RTf_eq]
    refine ⟨fun q => by omega, fun _ => ⟨fun q => ?_, fun q => ⟨fun q2 => ?_, fun q2 => ?_⟩⟩⟩
    · rw [if_neg (fun c => q (of_decide_eq_true c).1)] at ih; exact ih
    · rw [if_neg (fun c => q2 (of_decide_eq_true c).2)] at ih; exact ih
    · rw [if_pos (decide_eq_true ⟨by omega, by omega⟩)] at ih; exact ih
theorem c_countOn {l z : Int} (hl : rg l) (hz : z = 0 ∨ z = 1) (h8 : ∀ k, 0 ≤ k → k < 12 → rg (M (209 + 3 * k) 8)) (h4 : ∀ k, 0 ≤ k → k < 12 → M (209 + 3 * k) 4 = 0 ∨ M (209 + 3 * k) 4 = 1) : Ctr E 2 74 [vr 0, vi l, vi z] (toAH S M) (some (vi (cnt (onB M l z) 12))) (toAH S M) := by
  refine Ctr_f mi_X8_countOn mo_X8_countOn (Nat.le_of_ble_eq_true rfl) ⟨Nat.le_refl _, Nat.le_refl _⟩ (fun g lm => ?_)
  rw [show entL mi_X8_countOn.2.2.1 [vr 0, vi l, vi z] = [some (vr 0), some (vi l), some (vi z), none, none] from rfl]
  refine e_X8_countOn 400 (lfok E (by omega)) ?_
  simp +contextual (disch := first | omega | exact Nat.le_of_ble_eq_true rfl | assumption) only [↓r_X8_countOn_0, ↓r_X8_countOn_1, ↓r_X8_countOn_2, ↓r_X8_countOn_3, ↓r_X8_countOn_5, ↓r_X8_countOn_7, ↓r_X8_countOn_9, ↓r_X8_countOn_12, ↓r_X8_countOn_13, ↓r_X8_countOn_16, ↓r_X8_countOn_18, ↓r_X8_countOn_19, ↓r_X8_countOn_22, ↓r_X8_countOn_23, ↓r_X8_countOn_26, ↓r_X8_countOn_27, ↓r_X8_countOn_30, ↓r_X8_countOn_32, ↓r_X8_countOn_33, ↓r_X8_countOn_36, ↓r_X8_countOn_37, ↓r_X8_countOn_40, ↓r_X8_countOn_43, ↓r_X8_countOn_46, ↓r_X8_countOn_49, ↓r_X8_countOn_50, ↓x0, ↓x4_3n, ↓x4_3i, ↓x4_3r, ↓x4_4n, ↓x4_4i, ↓x4_4r, ↓x1_4, ↓x32_3, ↓x2_0, ↓f8_3, ↓f7_8, ↓x1_1, ↓x32_1, ↓f7_4, ↓x1_2, ↓x7_3n, ↓x7_3i, ↓x7_3r, ↓x7_4n, ↓x7_4i, ↓x7_4r, ↓x33, ↓x1_3, ↓x48_0, ↓l_2, ↓l_3, ↓l_4, ↓l_5, ↓l_6, ↓l_7, ↓l_9, ↓l_10, ↓l_11, ↓l_12, ↓l_13, ↓l_15, ↓l_16, ↓l_r1, ↓l_r2, ↓l_w1, ↓l_w2, and_self, and_true, true_and, implies_true, true_implies, Int.reduceEq, Int.reduceLE, Int.reduceLT, not_true_eq_false, not_false_eq_true, false_implies, RTf_eq]
  exact l_countOn hl hz h8 h4 ⟨rfl, rfl⟩ 0 (by omega)
def wkB (M : Mem) (z : Int) : Int → Bool := fun k => decide (M (209 + 3 * k) 3 = 1 ∧ M (209 + 3 * k) 4 = z)
theorem l_countWalkers {g : GT} {lm : Nat × Nat} {RT : RTy} {z : Int} (hz : z = 0 ∨ z = 1) (h3 : ∀ k, 0 ≤ k → k < 12 → M (209 + 3 * k) 3 = 0 ∨ M (209 + 3 * k) 3 = 1) (h4 : ∀ k, 0 ≤ k → k < 12 → M (209 + 3 * k) 4 = 0 ∨ M (209 + 3 * k) 4 = 1) (hr : RT (some (vi (cnt (wkB M z) 12))) (toAH S M)) :
    ∀ k : Nat, k ≤ 12 → G E g mi_X8_countWalkers 2 lm RT 4 [some (vr 0), some (vi z), some (vi (cnt (wkB M z) k)), some (vi (k : Int))] [] (toAH S M) := by
  refine down ?_ ?_
  · refine q_X8_countWalkers_4 400 (lfok E (by omega)) ?_
    simp +contextual (disch := first | omega | exact Nat.le_of_ble_eq_true rfl | assumption) only [↓r_X8_countWalkers_0, ↓r_X8_countWalkers_1, ↓r_X8_countWalkers_2, ↓r_X8_countWalkers_3, ↓r_X8_countWalkers_4, ↓r_X8_countWalkers_5, ↓r_X8_countWalkers_7, ↓r_X8_countWalkers_10, ↓r_X8_countWalkers_11, ↓r_X8_countWalkers_14, ↓r_X8_countWalkers_15, ↓r_X8_countWalkers_16, ↓r_X8_countWalkers_19, ↓r_X8_countWalkers_22, ↓r_X8_countWalkers_23, ↓r_X8_countWalkers_26, ↓r_X8_countWalkers_27, ↓r_X8_countWalkers_28, ↓r_X8_countWalkers_31, ↓r_X8_countWalkers_32, ↓r_X8_countWalkers_35, ↓r_X8_countWalkers_38, ↓r_X8_countWalkers_41, ↓r_X8_countWalkers_44, ↓r_X8_countWalkers_45, ↓x0, ↓x4_2n, ↓x4_2i, ↓x4_2r, ↓x4_3n, ↓x4_3i, ↓x4_3r, ↓x1_3, ↓x32_3, ↓x2_0, ↓f8_3, ↓f7_3, ↓x31_0, ↓x31b0, ↓f7_4, ↓x1_1, ↓x32_1, ↓x7_2n, ↓x7_2i, ↓x7_2r, ↓x7_3n, ↓x7_3i, ↓x7_3r, ↓x33, ↓x1_2, ↓x48_0, ↓l_2, ↓l_3, ↓l_4, ↓l_5, ↓l_6, ↓l_7, ↓l_9, ↓l_10, ↓l_11, ↓l_12, ↓l_13, ↓l_15, ↓l_16, ↓l_r1, ↓l_r2, ↓l_w1, ↓l_w2, and_self, and_true, true_and, implies_true, true_implies, Int.reduceEq, Int.reduceLE, Int.reduceLT, not_true_eq_false, not_false_eq_true, false_implies, RTf_eq]
    exact ⟨fun _ => hr, fun q => absurd (by omega) q⟩
  · intro k hk ih
    have a3 := h3 k (by omega) (by omega)
    have a4 := h4 k (by omega) (by omega)
    have e : cnt (wkB M z) (k + 1) = if decide (M (209 + 3 * (k : Int)) 3 = 1 ∧ M (209 + 3 * (k : Int)) 4 = z) = true then cnt (wkB M z) k + 1 else cnt (wkB M z) k := rfl
    rw [e] at ih
    refine q_X8_countWalkers_4 400 (lfok E (by omega)) ?_
    simp +contextual (disch := first | omega | exact Nat.le_of_ble_eq_true rfl | assumption) only [↓r_X8_countWalkers_0, ↓r_X8_countWalkers_1, ↓r_X8_countWalkers_2, ↓r_X8_countWalkers_3, ↓r_X8_countWalkers_4, ↓r_X8_countWalkers_5, ↓r_X8_countWalkers_7, ↓r_X8_countWalkers_10, ↓r_X8_countWalkers_11, ↓r_X8_countWalkers_14, ↓r_X8_countWalkers_15, ↓r_X8_countWalkers_16, ↓r_X8_countWalkers_19, ↓r_X8_countWalkers_22, ↓r_X8_countWalkers_23, ↓r_X8_countWalkers_26, ↓r_X8_countWalkers_27, ↓r_X8_countWalkers_28, ↓r_X8_countWalkers_31, ↓r_X8_countWalkers_32, ↓r_X8_countWalkers_35, ↓r_X8_countWalkers_38, ↓r_X8_countWalkers_41, ↓r_X8_countWalkers_44, ↓r_X8_countWalkers_45, ↓x0, ↓x4_2n, ↓x4_2i, ↓x4_2r, ↓x4_3n, ↓x4_3i, ↓x4_3r, ↓x1_3, ↓x32_3, ↓x2_0, ↓f8_3, ↓f7_3, ↓x31_0, ↓x31b0, ↓f7_4, ↓x1_1, ↓x32_1, ↓x7_2n, ↓x7_2i, ↓x7_2r, ↓x7_3n, ↓x7_3i, ↓x7_3r, ↓x33, ↓x1_2, ↓x48_0, ↓l_2, ↓l_3, ↓l_4, ↓l_5, ↓l_6, ↓l_7, ↓l_9, ↓l_10, ↓l_11, ↓l_12, ↓l_13, ↓l_15, ↓l_16, ↓l_r1, ↓l_r2, ↓l_w1, ↓l_w2, and_self, and_true, true_and, implies_true, true_implies, Int.reduceEq, Int.reduceLE, Int.reduceLT, not_true_eq_false, not_false_eq_true, false_implies, RTf_eq]
    refine ⟨fun q => by omega, fun _ => ⟨fun q => ?_, fun q => ⟨fun q2 => ?_, fun q2 => ?_⟩⟩⟩
    · rw [if_neg (fun c => by have := (of_decide_eq_true c).1; omega)] at ih; exact ih
    · rw [if_neg (fun c => q2 (of_decide_eq_true c).2)] at ih; exact ih
    · rw [if_pos (decide_eq_true ⟨by omega, by omega⟩)] at ih; exact ih
theorem c_countWalkers {z : Int} (hz : z = 0 ∨ z = 1) (h3 : ∀ k, 0 ≤ k → k < 12 → M (209 + 3 * k) 3 = 0 ∨ M (209 + 3 * k) 3 = 1) (h4 : ∀ k, 0 ≤ k → k < 12 → M (209 + 3 * k) 4 = 0 ∨ M (209 + 3 * k) 4 = 1) : Ctr E 2 73 [vr 0, vi z] (toAH S M) (some (vi (cnt (wkB M z) 12))) (toAH S M) := by
  refine Ctr_f mi_X8_countWalkers mo_X8_countWalkers (Nat.le_of_ble_eq_true rfl) ⟨Nat.le_refl _, Nat.le_refl _⟩ (fun g lm => ?_)
  rw [show entL mi_X8_countWalkers.2.2.1 [vr 0, vi z] = [some (vr 0), some (vi z), none, none] from rfl]
  refine e_X8_countWalkers 400 (lfok E (by omega)) ?_
  simp +contextual (disch := first | omega | exact Nat.le_of_ble_eq_true rfl | assumption) only [↓r_X8_countWalkers_0, ↓r_X8_countWalkers_1, ↓r_X8_countWalkers_2, ↓r_X8_countWalkers_3, ↓r_X8_countWalkers_4, ↓r_X8_countWalkers_5, ↓r_X8_countWalkers_7, ↓r_X8_countWalkers_10, ↓r_X8_countWalkers_11, ↓r_X8_countWalkers_14, ↓r_X8_countWalkers_15, ↓r_X8_countWalkers_16, ↓r_X8_countWalkers_19, ↓r_X8_countWalkers_22, ↓r_X8_countWalkers_23, ↓r_X8_countWalkers_26, ↓r_X8_countWalkers_27, ↓r_X8_countWalkers_28, ↓r_X8_countWalkers_31, ↓r_X8_countWalkers_32, ↓r_X8_countWalkers_35, ↓r_X8_countWalkers_38, ↓r_X8_countWalkers_41, ↓r_X8_countWalkers_44, ↓r_X8_countWalkers_45, ↓x0, ↓x4_2n, ↓x4_2i, ↓x4_2r, ↓x4_3n, ↓x4_3i, ↓x4_3r, ↓x1_3, ↓x32_3, ↓x2_0, ↓f8_3, ↓f7_3, ↓x31_0, ↓x31b0, ↓f7_4, ↓x1_1, ↓x32_1, ↓x7_2n, ↓x7_2i, ↓x7_2r, ↓x7_3n, ↓x7_3i, ↓x7_3r, ↓x33, ↓x1_2, ↓x48_0, ↓l_2, ↓l_3, ↓l_4, ↓l_5, ↓l_6, ↓l_7, ↓l_9, ↓l_10, ↓l_11, ↓l_12, ↓l_13, ↓l_15, ↓l_16, ↓l_r1, ↓l_r2, ↓l_w1, ↓l_w2, and_self, and_true, true_and, implies_true, true_implies, Int.reduceEq, Int.reduceLE, Int.reduceLT, not_true_eq_false, not_false_eq_true, false_implies, RTf_eq]
  exact l_countWalkers hz h3 h4 ⟨rfl, rfl⟩ 0 (by omega)
theorem l_freeWalker {g : GT} {lm : Nat × Nat} {RT : RTy} (h3 : ∀ k, 0 ≤ k → k < 12 → M (209 + 3 * k) 3 = 0 ∨ M (209 + 3 * k) 3 = 1) :
    ∀ (n : Nat) (k : Int), 0 ≤ k → k + n = 12 → RT (some (vi (fi (fun j => decide (M (209 + 3 * j) 3 = 0)) k n))) (toAH S M) → G E g mi_X8_freeWalker 2 lm RT 2 [some (vr 0), some (vi k)] [] (toAH S M) := by
  intro n
  induction n with
  | zero =>
    intro k h0 hk hr
    refine q_X8_freeWalker_2 400 (lfok E (by omega)) ?_
    simp +contextual (disch := first | omega | exact Nat.le_of_ble_eq_true rfl | assumption) only [↓r_X8_freeWalker_0, ↓r_X8_freeWalker_1, ↓r_X8_freeWalker_2, ↓r_X8_freeWalker_3, ↓r_X8_freeWalker_5, ↓r_X8_freeWalker_8, ↓r_X8_freeWalker_9, ↓r_X8_freeWalker_12, ↓r_X8_freeWalker_13, ↓r_X8_freeWalker_14, ↓r_X8_freeWalker_17, ↓r_X8_freeWalker_20, ↓r_X8_freeWalker_21, ↓r_X8_freeWalker_22, ↓r_X8_freeWalker_25, ↓r_X8_freeWalker_28, ↓r_X8_freeWalker_30, ↓x0, ↓x4_1n, ↓x4_1i, ↓x4_1r, ↓x1_1, ↓x32_3, ↓x2_0, ↓f8_3, ↓f7_3, ↓x31_1, ↓x31b1, ↓x48_0, ↓x7_1n, ↓x7_1i, ↓x7_1r, ↓x33, ↓l_2, ↓l_3, ↓l_4, ↓l_5, ↓l_6, ↓l_7, ↓l_9, ↓l_10, ↓l_11, ↓l_12, ↓l_13, ↓l_15, ↓l_16, ↓l_r1, ↓l_r2, ↓l_w1, ↓l_w2, and_self, and_true, true_and, implies_true, true_implies, Int.reduceEq, Int.reduceLE, Int.reduceLT, not_true_eq_false, not_false_eq_true, false_implies, RTf_eq]
    exact ⟨fun _ => hr, fun q => absurd (by omega) q⟩
  | succ n ih =>
    intro k h0 hk hr
    have h1 := h3 k (by omega) (by omega)
    have e : fi (fun j => decide (M (209 + 3 * j) 3 = 0)) k (n + 1) = if decide (M (209 + 3 * k) 3 = 0) = true then k else fi (fun j => decide (M (209 + 3 * j) 3 = 0)) (k + 1) n := rfl
    rw [e] at hr
    refine q_X8_freeWalker_2 400 (lfok E (by omega)) ?_
    simp +contextual (disch := first | omega | exact Nat.le_of_ble_eq_true rfl | assumption) only [↓r_X8_freeWalker_0, ↓r_X8_freeWalker_1, ↓r_X8_freeWalker_2, ↓r_X8_freeWalker_3, ↓r_X8_freeWalker_5, ↓r_X8_freeWalker_8, ↓r_X8_freeWalker_9, ↓r_X8_freeWalker_12, ↓r_X8_freeWalker_13, ↓r_X8_freeWalker_14, ↓r_X8_freeWalker_17, ↓r_X8_freeWalker_20, ↓r_X8_freeWalker_21, ↓r_X8_freeWalker_22, ↓r_X8_freeWalker_25, ↓r_X8_freeWalker_28, ↓r_X8_freeWalker_30, ↓x0, ↓x4_1n, ↓x4_1i, ↓x4_1r, ↓x1_1, ↓x32_3, ↓x2_0, ↓f8_3, ↓f7_3, ↓x31_1, ↓x31b1, ↓x48_0, ↓x7_1n, ↓x7_1i, ↓x7_1r, ↓x33, ↓l_2, ↓l_3, ↓l_4, ↓l_5, ↓l_6, ↓l_7, ↓l_9, ↓l_10, ↓l_11, ↓l_12, ↓l_13, ↓l_15, ↓l_16, ↓l_r1, ↓l_r2, ↓l_w1, ↓l_w2, and_self, and_true, true_and, implies_true, true_implies, Int.reduceEq, Int.reduceLE, Int.reduceLT, not_true_eq_false, not_false_eq_true, false_implies, RTf_eq]
    refine ⟨fun q => by omega, fun _ => ⟨fun q => ?_, fun q => ?_⟩⟩
    · rw [if_neg (by simpa using q)] at hr
      exact ih (k + 1) (by omega) (by omega) hr
    · rw [if_pos (by simpa using q)] at hr
      exact hr
theorem c_freeWalker (h3 : ∀ k, 0 ≤ k → k < 12 → M (209 + 3 * k) 3 = 0 ∨ M (209 + 3 * k) 3 = 1) : Ctr E 2 72 [vr 0] (toAH S M) (some (vi (fi (fun j => decide (M (209 + 3 * j) 3 = 0)) 0 12))) (toAH S M) := by
  refine Ctr_f mi_X8_freeWalker mo_X8_freeWalker (Nat.le_of_ble_eq_true rfl) ⟨Nat.le_refl _, Nat.le_refl _⟩ (fun g lm => ?_)
  rw [show entL mi_X8_freeWalker.2.2.1 [vr 0] = [some (vr 0), none] from rfl]
  refine e_X8_freeWalker 400 (lfok E (by omega)) ?_
  simp +contextual (disch := first | omega | exact Nat.le_of_ble_eq_true rfl | assumption) only [↓r_X8_freeWalker_0, ↓r_X8_freeWalker_1, ↓r_X8_freeWalker_2, ↓r_X8_freeWalker_3, ↓r_X8_freeWalker_5, ↓r_X8_freeWalker_8, ↓r_X8_freeWalker_9, ↓r_X8_freeWalker_12, ↓r_X8_freeWalker_13, ↓r_X8_freeWalker_14, ↓r_X8_freeWalker_17, ↓r_X8_freeWalker_20, ↓r_X8_freeWalker_21, ↓r_X8_freeWalker_22, ↓r_X8_freeWalker_25, ↓r_X8_freeWalker_28, ↓r_X8_freeWalker_30, ↓x0, ↓x4_1n, ↓x4_1i, ↓x4_1r, ↓x1_1, ↓x32_3, ↓x2_0, ↓f8_3, ↓f7_3, ↓x31_1, ↓x31b1, ↓x48_0, ↓x7_1n, ↓x7_1i, ↓x7_1r, ↓x33, ↓l_2, ↓l_3, ↓l_4, ↓l_5, ↓l_6, ↓l_7, ↓l_9, ↓l_10, ↓l_11, ↓l_12, ↓l_13, ↓l_15, ↓l_16, ↓l_r1, ↓l_r2, ↓l_w1, ↓l_w2, and_self, and_true, true_and, implies_true, true_implies, Int.reduceEq, Int.reduceLE, Int.reduceLT, not_true_eq_false, not_false_eq_true, false_implies, RTf_eq]
  exact l_freeWalker h3 12 0 (by omega) (by omega) ⟨rfl, rfl⟩
def onB9 (M : Mem) (l z : Int) : Int → Bool := fun k => decide (M 258 k = 1 ∧ M 263 k = l ∧ M 262 k = z)
theorem l_onIt {g : GT} {lm : Nat × Nat} {RT : RTy} {l z : Int} (hl : rg l) (hz : z = 0 ∨ z = 1) (h3 : ∀ k, 0 ≤ k → k < 12 → M 258 k = 0 ∨ M 258 k = 1) (h8 : ∀ k, 0 ≤ k → k < 12 → rg (M 263 k)) (h4 : ∀ k, 0 ≤ k → k < 12 → M 262 k = 0 ∨ M 262 k = 1) (hr : RT (some (vi (cnt (onB9 M l z) 12))) (toAH S M)) :
    ∀ k : Nat, k ≤ 12 → G E g mi_X9_onIt 2 lm RT 5 [some (vr 248), some (vi l), some (vi z), some (vi (cnt (onB9 M l z) k)), some (vi (k : Int))] [] (toAH S M) := by
  refine down ?_ ?_
  · refine q_X9_onIt_5 400 (lfok E (by omega)) ?_
    simp +contextual (disch := first | omega | exact Nat.le_of_ble_eq_true rfl | assumption) only [↓r_X9_onIt_0, ↓r_X9_onIt_1, ↓r_X9_onIt_2, ↓r_X9_onIt_3, ↓r_X9_onIt_5, ↓r_X9_onIt_7, ↓r_X9_onIt_9, ↓r_X9_onIt_12, ↓r_X9_onIt_13, ↓r_X9_onIt_14, ↓r_X9_onIt_17, ↓r_X9_onIt_19, ↓r_X9_onIt_20, ↓r_X9_onIt_23, ↓r_X9_onIt_24, ↓r_X9_onIt_27, ↓r_X9_onIt_29, ↓r_X9_onIt_30, ↓r_X9_onIt_31, ↓r_X9_onIt_34, ↓r_X9_onIt_35, ↓r_X9_onIt_38, ↓r_X9_onIt_40, ↓r_X9_onIt_41, ↓r_X9_onIt_42, ↓r_X9_onIt_45, ↓r_X9_onIt_46, ↓r_X9_onIt_49, ↓r_X9_onIt_50, ↓r_X9_onIt_51, ↓r_X9_onIt_52, ↓r_X9_onIt_55, ↓r_X9_onIt_58, ↓r_X9_onIt_59, ↓x0, ↓x4_3n, ↓x4_3i, ↓x4_3r, ↓x4_4n, ↓x4_4i, ↓x4_4r, ↓x1_4, ↓x32_3, ↓x1_3, ↓x2_0, ↓f9_17, ↓x31_0, ↓x31b0, ↓f9_22, ↓x1_1, ↓x32_1, ↓f9_21, ↓x1_2, ↓x33, ↓x8, ↓x7_4n, ↓x7_4i, ↓x7_4r, ↓x48_0, ↓l_249, ↓l_250, ↓l_251, ↓l_252, ↓l_253, ↓l_254, ↓l_255, ↓l_256, ↓l_257, ↓l_258, ↓l_259, ↓l_260, ↓l_261, ↓l_262, ↓l_263, ↓l_264, ↓l_265, ↓l_266, ↓l_267, ↓l_268, ↓l_269, ↓l_270, ↓l_271, ↓l_272, ↓l_273, ↓l_274, and_self, and_true, true_and, implies_true, true_implies, Int.reduceEq, Int.reduceLE, Int.reduceLT, not_true_eq_false, not_false_eq_true, false_implies, RTf_eq]
    exact ⟨fun _ => hr, fun q => absurd (by omega) q⟩
  · intro k hk ih
    have a3 := h3 k (by omega) (by omega)
    have a8 := h8 k (by omega) (by omega)
    have a4 := h4 k (by omega) (by omega)
    have e : cnt (onB9 M l z) (k + 1) = if decide (M 258 (k : Int) = 1 ∧ M 263 (k : Int) = l ∧ M 262 (k : Int) = z) = true then cnt (onB9 M l z) k + 1 else cnt (onB9 M l z) k := rfl
    rw [e] at ih
    refine q_X9_onIt_5 400 (lfok E (by omega)) ?_
    simp +contextual (disch := first | omega | exact Nat.le_of_ble_eq_true rfl | assumption) only [↓r_X9_onIt_0, ↓r_X9_onIt_1, ↓r_X9_onIt_2, ↓r_X9_onIt_3, ↓r_X9_onIt_5, ↓r_X9_onIt_7, ↓r_X9_onIt_9, ↓r_X9_onIt_12, ↓r_X9_onIt_13, ↓r_X9_onIt_14, ↓r_X9_onIt_17, ↓r_X9_onIt_19, ↓r_X9_onIt_20, ↓r_X9_onIt_23, ↓r_X9_onIt_24, ↓r_X9_onIt_27, ↓r_X9_onIt_29, ↓r_X9_onIt_30, ↓r_X9_onIt_31, ↓r_X9_onIt_34, ↓r_X9_onIt_35, ↓r_X9_onIt_38, ↓r_X9_onIt_40, ↓r_X9_onIt_41, ↓r_X9_onIt_42, ↓r_X9_onIt_45, ↓r_X9_onIt_46, ↓r_X9_onIt_49, ↓r_X9_onIt_50, ↓r_X9_onIt_51, ↓r_X9_onIt_52, ↓r_X9_onIt_55, ↓r_X9_onIt_58, ↓r_X9_onIt_59, ↓x0, ↓x4_3n, ↓x4_3i, ↓x4_3r, ↓x4_4n, ↓x4_4i, ↓x4_4r, ↓x1_4, ↓x32_3, ↓x1_3, ↓x2_0, ↓f9_17, ↓x31_0, ↓x31b0, ↓f9_22, ↓x1_1, ↓x32_1, ↓f9_21, ↓x1_2, ↓x33, ↓x8, ↓x7_4n, ↓x7_4i, ↓x7_4r, ↓x48_0, ↓l_249, ↓l_250, ↓l_251, ↓l_252, ↓l_253, ↓l_254, ↓l_255, ↓l_256, ↓l_257, ↓l_258, ↓l_259, ↓l_260, ↓l_261, ↓l_262, ↓l_263, ↓l_264, ↓l_265, ↓l_266, ↓l_267, ↓l_268, ↓l_269, ↓l_270, ↓l_271, ↓l_272, ↓l_273, ↓l_274, and_self, and_true, true_and, implies_true, true_implies, Int.reduceEq, Int.reduceLE, Int.reduceLT, not_true_eq_false, not_false_eq_true, false_implies, RTf_eq, Int.add_zero]
    refine ⟨fun q => by omega, fun _ => ⟨fun q => ?_, fun q => ⟨fun q2 => ?_, fun q2 => ⟨fun q3 => ?_, fun q3 => ?_⟩⟩⟩⟩
    · rw [if_neg (fun c => by have := (of_decide_eq_true c).1; omega)] at ih; exact ih
    · rw [if_neg (fun c => q2 (of_decide_eq_true c).2.1)] at ih; exact ih
    · rw [if_neg (fun c => q3 (of_decide_eq_true c).2.2)] at ih; exact ih
    · rw [if_pos (decide_eq_true ⟨by omega, by omega, by omega⟩)] at ih; exact ih
theorem c_onIt {l z : Int} (hl : rg l) (hz : z = 0 ∨ z = 1) (h3 : ∀ k, 0 ≤ k → k < 12 → M 258 k = 0 ∨ M 258 k = 1) (h8 : ∀ k, 0 ≤ k → k < 12 → rg (M 263 k)) (h4 : ∀ k, 0 ≤ k → k < 12 → M 262 k = 0 ∨ M 262 k = 1) : Ctr E 2 103 [vr 248, vi l, vi z] (toAH S M) (some (vi (cnt (onB9 M l z) 12))) (toAH S M) := by
  refine Ctr_f mi_X9_onIt mo_X9_onIt (Nat.le_of_ble_eq_true rfl) ⟨Nat.le_refl _, Nat.le_refl _⟩ (fun g lm => ?_)
  rw [show entL mi_X9_onIt.2.2.1 [vr 248, vi l, vi z] = [some (vr 248), some (vi l), some (vi z), none, none] from rfl]
  refine e_X9_onIt 400 (lfok E (by omega)) ?_
  simp +contextual (disch := first | omega | exact Nat.le_of_ble_eq_true rfl | assumption) only [↓r_X9_onIt_0, ↓r_X9_onIt_1, ↓r_X9_onIt_2, ↓r_X9_onIt_3, ↓r_X9_onIt_5, ↓r_X9_onIt_7, ↓r_X9_onIt_9, ↓r_X9_onIt_12, ↓r_X9_onIt_13, ↓r_X9_onIt_14, ↓r_X9_onIt_17, ↓r_X9_onIt_19, ↓r_X9_onIt_20, ↓r_X9_onIt_23, ↓r_X9_onIt_24, ↓r_X9_onIt_27, ↓r_X9_onIt_29, ↓r_X9_onIt_30, ↓r_X9_onIt_31, ↓r_X9_onIt_34, ↓r_X9_onIt_35, ↓r_X9_onIt_38, ↓r_X9_onIt_40, ↓r_X9_onIt_41, ↓r_X9_onIt_42, ↓r_X9_onIt_45, ↓r_X9_onIt_46, ↓r_X9_onIt_49, ↓r_X9_onIt_50, ↓r_X9_onIt_51, ↓r_X9_onIt_52, ↓r_X9_onIt_55, ↓r_X9_onIt_58, ↓r_X9_onIt_59, ↓x0, ↓x4_3n, ↓x4_3i, ↓x4_3r, ↓x4_4n, ↓x4_4i, ↓x4_4r, ↓x1_4, ↓x32_3, ↓x1_3, ↓x2_0, ↓f9_17, ↓x31_0, ↓x31b0, ↓f9_22, ↓x1_1, ↓x32_1, ↓f9_21, ↓x1_2, ↓x33, ↓x8, ↓x7_4n, ↓x7_4i, ↓x7_4r, ↓x48_0, ↓l_249, ↓l_250, ↓l_251, ↓l_252, ↓l_253, ↓l_254, ↓l_255, ↓l_256, ↓l_257, ↓l_258, ↓l_259, ↓l_260, ↓l_261, ↓l_262, ↓l_263, ↓l_264, ↓l_265, ↓l_266, ↓l_267, ↓l_268, ↓l_269, ↓l_270, ↓l_271, ↓l_272, ↓l_273, ↓l_274, and_self, and_true, true_and, implies_true, true_implies, Int.reduceEq, Int.reduceLE, Int.reduceLT, not_true_eq_false, not_false_eq_true, false_implies, RTf_eq]
  exact l_onIt hl hz h3 h8 h4 ⟨rfl, rfl⟩ 0 (by omega)
def wkB9 (M : Mem) (z : Int) : Int → Bool := fun k => decide (M 258 k = 1 ∧ (z = 0 ∨ M 262 k = 0))
theorem l_manyWalkers {g : GT} {lm : Nat × Nat} {RT : RTy} {z : Int} (hz : z = 0 ∨ z = 1) (h3 : ∀ k, 0 ≤ k → k < 12 → M 258 k = 0 ∨ M 258 k = 1) (h4 : ∀ k, 0 ≤ k → k < 12 → M 262 k = 0 ∨ M 262 k = 1) (hr : RT (some (vi (cnt (wkB9 M z) 12))) (toAH S M)) :
    ∀ k : Nat, k ≤ 12 → G E g mi_X9_manyWalkers 2 lm RT 4 [some (vr 248), some (vi z), some (vi (cnt (wkB9 M z) k)), some (vi (k : Int))] [] (toAH S M) := by
  refine down ?_ ?_
  · refine q_X9_manyWalkers_4 400 (lfok E (by omega)) ?_
    simp +contextual (disch := first | omega | exact Nat.le_of_ble_eq_true rfl | assumption) only [↓r_X9_manyWalkers_0, ↓r_X9_manyWalkers_1, ↓r_X9_manyWalkers_2, ↓r_X9_manyWalkers_3, ↓r_X9_manyWalkers_4, ↓r_X9_manyWalkers_5, ↓r_X9_manyWalkers_7, ↓r_X9_manyWalkers_10, ↓r_X9_manyWalkers_11, ↓r_X9_manyWalkers_12, ↓r_X9_manyWalkers_15, ↓r_X9_manyWalkers_16, ↓r_X9_manyWalkers_17, ↓r_X9_manyWalkers_20, ↓r_X9_manyWalkers_21, ↓r_X9_manyWalkers_24, ↓r_X9_manyWalkers_25, ↓r_X9_manyWalkers_28, ↓r_X9_manyWalkers_29, ↓r_X9_manyWalkers_30, ↓r_X9_manyWalkers_33, ↓r_X9_manyWalkers_34, ↓r_X9_manyWalkers_37, ↓r_X9_manyWalkers_38, ↓r_X9_manyWalkers_39, ↓r_X9_manyWalkers_40, ↓r_X9_manyWalkers_43, ↓r_X9_manyWalkers_46, ↓r_X9_manyWalkers_47, ↓x0, ↓x4_2n, ↓x4_2i, ↓x4_2r, ↓x4_3n, ↓x4_3i, ↓x4_3r, ↓x1_3, ↓x32_3, ↓x1_2, ↓x2_0, ↓f9_17, ↓x31_0, ↓x31b0, ↓x1_1, ↓f9_21, ↓x31_1, ↓x31b1, ↓x33, ↓x8, ↓x7_3n, ↓x7_3i, ↓x7_3r, ↓x48_0, ↓l_249, ↓l_250, ↓l_251, ↓l_252, ↓l_253, ↓l_254, ↓l_255, ↓l_256, ↓l_257, ↓l_258, ↓l_259, ↓l_260, ↓l_261, ↓l_262, ↓l_263, ↓l_264, ↓l_265, ↓l_266, ↓l_267, ↓l_268, ↓l_269, ↓l_270, ↓l_271, ↓l_272, ↓l_273, ↓l_274, and_self, and_true, true_and, implies_true, true_implies, Int.reduceEq, Int.reduceLE, Int.reduceLT, not_true_eq_false, not_false_eq_true, false_implies, RTf_eq]
    exact ⟨fun _ => hr, fun q => absurd (by omega) q⟩
  · intro k hk ih
    have a3 := h3 k (by omega) (by omega)
    have a4 := h4 k (by omega) (by omega)
    have e : cnt (wkB9 M z) (k + 1) = if decide (M 258 (k : Int) = 1 ∧ (z = 0 ∨ M 262 (k : Int) = 0)) = true then cnt (wkB9 M z) k + 1 else cnt (wkB9 M z) k := rfl
    rw [e] at ih
    refine q_X9_manyWalkers_4 400 (lfok E (by omega)) ?_
    simp +contextual (disch := first | omega | exact Nat.le_of_ble_eq_true rfl | assumption) only [↓r_X9_manyWalkers_0, ↓r_X9_manyWalkers_1, ↓r_X9_manyWalkers_2, ↓r_X9_manyWalkers_3, ↓r_X9_manyWalkers_4, ↓r_X9_manyWalkers_5, ↓r_X9_manyWalkers_7, ↓r_X9_manyWalkers_10, ↓r_X9_manyWalkers_11, ↓r_X9_manyWalkers_12, ↓r_X9_manyWalkers_15, ↓r_X9_manyWalkers_16, ↓r_X9_manyWalkers_17, ↓r_X9_manyWalkers_20, ↓r_X9_manyWalkers_21, ↓r_X9_manyWalkers_24, ↓r_X9_manyWalkers_25, ↓r_X9_manyWalkers_28, ↓r_X9_manyWalkers_29, ↓r_X9_manyWalkers_30, ↓r_X9_manyWalkers_33, ↓r_X9_manyWalkers_34, ↓r_X9_manyWalkers_37, ↓r_X9_manyWalkers_38, ↓r_X9_manyWalkers_39, ↓r_X9_manyWalkers_40, ↓r_X9_manyWalkers_43, ↓r_X9_manyWalkers_46, ↓r_X9_manyWalkers_47, ↓x0, ↓x4_2n, ↓x4_2i, ↓x4_2r, ↓x4_3n, ↓x4_3i, ↓x4_3r, ↓x1_3, ↓x32_3, ↓x1_2, ↓x2_0, ↓f9_17, ↓x31_0, ↓x31b0, ↓x1_1, ↓f9_21, ↓x31_1, ↓x31b1, ↓x33, ↓x8, ↓x7_3n, ↓x7_3i, ↓x7_3r, ↓x48_0, ↓l_249, ↓l_250, ↓l_251, ↓l_252, ↓l_253, ↓l_254, ↓l_255, ↓l_256, ↓l_257, ↓l_258, ↓l_259, ↓l_260, ↓l_261, ↓l_262, ↓l_263, ↓l_264, ↓l_265, ↓l_266, ↓l_267, ↓l_268, ↓l_269, ↓l_270, ↓l_271, ↓l_272, ↓l_273, ↓l_274, and_self, and_true, true_and, implies_true, true_implies, Int.reduceEq, Int.reduceLE, Int.reduceLT, not_true_eq_false, not_false_eq_true, false_implies, RTf_eq, Int.add_zero]
    refine ⟨fun q => by omega, fun _ => ⟨fun q => ?_, fun q => ⟨fun q2 => ?_, fun q2 => ⟨fun q3 => ?_, fun q3 => ?_⟩⟩⟩⟩
    · rw [if_neg (fun c => by have := (of_decide_eq_true c).1; omega)] at ih; exact ih
    · subst q2
      rw [if_pos (decide_eq_true ⟨by omega, Or.inl rfl⟩)] at ih; exact ih
    · rw [if_neg (fun c => by have := (of_decide_eq_true c).2; omega)] at ih; exact ih
    · rw [if_pos (decide_eq_true ⟨by omega, Or.inr (by omega)⟩)] at ih; exact ih
theorem c_manyWalkers {z : Int} (hz : z = 0 ∨ z = 1) (h3 : ∀ k, 0 ≤ k → k < 12 → M 258 k = 0 ∨ M 258 k = 1) (h4 : ∀ k, 0 ≤ k → k < 12 → M 262 k = 0 ∨ M 262 k = 1) : Ctr E 2 143 [vr 248, vi z] (toAH S M) (some (vi (cnt (wkB9 M z) 12))) (toAH S M) := by
  refine Ctr_f mi_X9_manyWalkers mo_X9_manyWalkers (Nat.le_of_ble_eq_true rfl) ⟨Nat.le_refl _, Nat.le_refl _⟩ (fun g lm => ?_)
  rw [show entL mi_X9_manyWalkers.2.2.1 [vr 248, vi z] = [some (vr 248), some (vi z), none, none] from rfl]
  refine e_X9_manyWalkers 400 (lfok E (by omega)) ?_
  simp +contextual (disch := first | omega | exact Nat.le_of_ble_eq_true rfl | assumption) only [↓r_X9_manyWalkers_0, ↓r_X9_manyWalkers_1, ↓r_X9_manyWalkers_2, ↓r_X9_manyWalkers_3, ↓r_X9_manyWalkers_4, ↓r_X9_manyWalkers_5, ↓r_X9_manyWalkers_7, ↓r_X9_manyWalkers_10, ↓r_X9_manyWalkers_11, ↓r_X9_manyWalkers_12, ↓r_X9_manyWalkers_15, ↓r_X9_manyWalkers_16, ↓r_X9_manyWalkers_17, ↓r_X9_manyWalkers_20, ↓r_X9_manyWalkers_21, ↓r_X9_manyWalkers_24, ↓r_X9_manyWalkers_25, ↓r_X9_manyWalkers_28, ↓r_X9_manyWalkers_29, ↓r_X9_manyWalkers_30, ↓r_X9_manyWalkers_33, ↓r_X9_manyWalkers_34, ↓r_X9_manyWalkers_37, ↓r_X9_manyWalkers_38, ↓r_X9_manyWalkers_39, ↓r_X9_manyWalkers_40, ↓r_X9_manyWalkers_43, ↓r_X9_manyWalkers_46, ↓r_X9_manyWalkers_47, ↓x0, ↓x4_2n, ↓x4_2i, ↓x4_2r, ↓x4_3n, ↓x4_3i, ↓x4_3r, ↓x1_3, ↓x32_3, ↓x1_2, ↓x2_0, ↓f9_17, ↓x31_0, ↓x31b0, ↓x1_1, ↓f9_21, ↓x31_1, ↓x31b1, ↓x33, ↓x8, ↓x7_3n, ↓x7_3i, ↓x7_3r, ↓x48_0, ↓l_249, ↓l_250, ↓l_251, ↓l_252, ↓l_253, ↓l_254, ↓l_255, ↓l_256, ↓l_257, ↓l_258, ↓l_259, ↓l_260, ↓l_261, ↓l_262, ↓l_263, ↓l_264, ↓l_265, ↓l_266, ↓l_267, ↓l_268, ↓l_269, ↓l_270, ↓l_271, ↓l_272, ↓l_273, ↓l_274, and_self, and_true, true_and, implies_true, true_implies, Int.reduceEq, Int.reduceLE, Int.reduceLT, not_true_eq_false, not_false_eq_true, false_implies, RTf_eq]
  exact l_manyWalkers hz h3 h4 ⟨rfl, rfl⟩ 0 (by omega)
/-- the link between two nodes -/
def btB (M : Mem) (a b : Int) : Int → Bool := fun l => decide (0 < M 4 l ∧ M 2 l = a ∧ M 3 l = b)
theorem l_between {g : GT} {lm : Nat × Nat} {RT : RTy} {x y a b : Int} (ha : rg a) (hb : rg b) (h4 : ∀ k, 0 ≤ k → k < 16 → rg (M 4 k)) (h2 : ∀ k, 0 ≤ k → k < 16 → rg (M 2 k)) (h3 : ∀ k, 0 ≤ k → k < 16 → rg (M 3 k)) :
    ∀ (n : Nat) (k : Int), 0 ≤ k → k + n = 16 → RT (some (vi (fi (btB M a b) k n))) (toAH S M) → G E g mi_X3_between 2 lm RT 16 [some (vr 1), some (vi x), some (vi y), some (vi a), some (vi b), some (vi k)] [] (toAH S M) := by
  intro n
  induction n with
  | zero =>
    intro k h0 hk hr
    refine q_X3_between_16 400 (lfok E (by omega)) ?_
    simp +contextual (disch := first | omega | exact Nat.le_of_ble_eq_true rfl | assumption) only [↓r_X3_between_0, ↓r_X3_between_1, ↓r_X3_between_2, ↓r_X3_between_5, ↓r_X3_between_6, ↓r_X3_between_7, ↓r_X3_between_8, ↓r_X3_between_11, ↓r_X3_between_13, ↓r_X3_between_14, ↓r_X3_between_16, ↓r_X3_between_18, ↓r_X3_between_20, ↓r_X3_between_23, ↓r_X3_between_24, ↓r_X3_between_27, ↓r_X3_between_29, ↓r_X3_between_30, ↓r_X3_between_33, ↓r_X3_between_34, ↓r_X3_between_37, ↓r_X3_between_39, ↓r_X3_between_40, ↓r_X3_between_41, ↓r_X3_between_44, ↓r_X3_between_45, ↓r_X3_between_48, ↓r_X3_between_50, ↓r_X3_between_51, ↓r_X3_between_53, ↓r_X3_between_56, ↓r_X3_between_58, ↓r_X3_between_59, ↓r_X3_between_62, ↓r_X3_between_65, ↓r_X3_between_67, ↓x1_1, ↓x1_2, ↓lf_J9_min_7cf53, ↓x4_3n, ↓x4_3i, ↓x4_3r, ↓lf_J9_max_7cf53, ↓x4_4n, ↓x4_4i, ↓x4_4r, ↓x0, ↓x4_5n, ↓x4_5i, ↓x4_5r, ↓x1_5, ↓x32_3, ↓x2_0, ↓f3_2, ↓x31_5, ↓f3_0, ↓x1_3, ↓x32_1, ↓f3_1, ↓x1_4, ↓x48_0, ↓x7_5n, ↓x7_5i, ↓x7_5r, ↓x33, ↓l_2, ↓l_3, ↓l_4, ↓l_5, ↓l_6, ↓l_7, ↓l_9, ↓l_10, ↓l_11, ↓l_12, ↓l_13, ↓l_15, ↓l_16, ↓l_r1, ↓l_r2, ↓l_w1, ↓l_w2, and_self, and_true, true_and, implies_true, true_implies, Int.reduceEq, Int.reduceLE, Int.reduceLT, not_true_eq_false, not_false_eq_true, false_implies, RTf_eq]
    exact ⟨fun _ => hr, fun q => absurd (by omega) q⟩
  | succ n ih =>
    intro k h0 hk hr
    have a4 := h4 k (by omega) (by omega)
    have a2 := h2 k (by omega) (by omega)
    have a3 := h3 k (by omega) (by omega)
    have e : fi (btB M a b) k (n + 1) = if decide (0 < M 4 k ∧ M 2 k = a ∧ M 3 k = b) = true then k else fi (btB M a b) (k + 1) n := rfl
    rw [e] at hr
    refine q_X3_between_16 400 (lfok E (by omega)) ?_
    simp +contextual (disch := first | omega | exact Nat.le_of_ble_eq_true rfl | assumption) only [↓r_X3_between_0, ↓r_X3_between_1, ↓r_X3_between_2, ↓r_X3_between_5, ↓r_X3_between_6, ↓r_X3_between_7, ↓r_X3_between_8, ↓r_X3_between_11, ↓r_X3_between_13, ↓r_X3_between_14, ↓r_X3_between_16, ↓r_X3_between_18, ↓r_X3_between_20, ↓r_X3_between_23, ↓r_X3_between_24, ↓r_X3_between_27, ↓r_X3_between_29, ↓r_X3_between_30, ↓r_X3_between_33, ↓r_X3_between_34, ↓r_X3_between_37, ↓r_X3_between_39, ↓r_X3_between_40, ↓r_X3_between_41, ↓r_X3_between_44, ↓r_X3_between_45, ↓r_X3_between_48, ↓r_X3_between_50, ↓r_X3_between_51, ↓r_X3_between_53, ↓r_X3_between_56, ↓r_X3_between_58, ↓r_X3_between_59, ↓r_X3_between_62, ↓r_X3_between_65, ↓r_X3_between_67, ↓x1_1, ↓x1_2, ↓lf_J9_min_7cf53, ↓x4_3n, ↓x4_3i, ↓x4_3r, ↓lf_J9_max_7cf53, ↓x4_4n, ↓x4_4i, ↓x4_4r, ↓x0, ↓x4_5n, ↓x4_5i, ↓x4_5r, ↓x1_5, ↓x32_3, ↓x2_0, ↓f3_2, ↓x31_5, ↓f3_0, ↓x1_3, ↓x32_1, ↓f3_1, ↓x1_4, ↓x48_0, ↓x7_5n, ↓x7_5i, ↓x7_5r, ↓x33, ↓l_2, ↓l_3, ↓l_4, ↓l_5, ↓l_6, ↓l_7, ↓l_9, ↓l_10, ↓l_11, ↓l_12, ↓l_13, ↓l_15, ↓l_16, ↓l_r1, ↓l_r2, ↓l_w1, ↓l_w2, and_self, and_true, true_and, implies_true, true_implies, Int.reduceEq, Int.reduceLE, Int.reduceLT, not_true_eq_false, not_false_eq_true, false_implies, RTf_eq]
    refine ⟨fun q => by omega, fun _ => ⟨fun q => ?_, fun q => ⟨fun q2 => ?_, fun q2 => ⟨fun q3 => ?_, fun q3 => ?_⟩⟩⟩⟩
    · rw [if_neg (fun c => by have := (of_decide_eq_true c).1; omega)] at hr
      exact ih (k + 1) (by omega) (by omega) hr
    · rw [if_neg (fun c => q2 (of_decide_eq_true c).2.1)] at hr
      exact ih (k + 1) (by omega) (by omega) hr
    · rw [if_neg (fun c => q3 (of_decide_eq_true c).2.2)] at hr
      exact ih (k + 1) (by omega) (by omega) hr
    · rw [if_pos (decide_eq_true ⟨by omega, by omega, by omega⟩)] at hr; exact hr
theorem c_between {x y : Int} (hx : rg x) (hy : rg y) (h4 : ∀ k, 0 ≤ k → k < 16 → rg (M 4 k)) (h2 : ∀ k, 0 ≤ k → k < 16 → rg (M 2 k)) (h3 : ∀ k, 0 ≤ k → k < 16 → rg (M 3 k)) : Ctr E 2 9 [vr 1, vi x, vi y] (toAH S M) (some (vi (fi (btB M (min x y) (max x y)) 0 16))) (toAH S M) := by
  refine Ctr_f mi_X3_between mo_X3_between (Nat.le_of_ble_eq_true rfl) ⟨Nat.le_refl _, Nat.le_refl _⟩ (fun g lm => ?_)
  rw [show entL mi_X3_between.2.2.1 [vr 1, vi x, vi y] = [some (vr 1), some (vi x), some (vi y), none, none, none] from rfl]
  refine e_X3_between 400 (lfok E (by omega)) ?_
  simp +contextual (disch := first | omega | exact Nat.le_of_ble_eq_true rfl | assumption) only [↓r_X3_between_0, ↓r_X3_between_1, ↓r_X3_between_2, ↓r_X3_between_5, ↓r_X3_between_6, ↓r_X3_between_7, ↓r_X3_between_8, ↓r_X3_between_11, ↓r_X3_between_13, ↓r_X3_between_14, ↓r_X3_between_16, ↓r_X3_between_18, ↓r_X3_between_20, ↓r_X3_between_23, ↓r_X3_between_24, ↓r_X3_between_27, ↓r_X3_between_29, ↓r_X3_between_30, ↓r_X3_between_33, ↓r_X3_between_34, ↓r_X3_between_37, ↓r_X3_between_39, ↓r_X3_between_40, ↓r_X3_between_41, ↓r_X3_between_44, ↓r_X3_between_45, ↓r_X3_between_48, ↓r_X3_between_50, ↓r_X3_between_51, ↓r_X3_between_53, ↓r_X3_between_56, ↓r_X3_between_58, ↓r_X3_between_59, ↓r_X3_between_62, ↓r_X3_between_65, ↓r_X3_between_67, ↓x1_1, ↓x1_2, ↓lf_J9_min_7cf53, ↓x4_3n, ↓x4_3i, ↓x4_3r, ↓lf_J9_max_7cf53, ↓x4_4n, ↓x4_4i, ↓x4_4r, ↓x0, ↓x4_5n, ↓x4_5i, ↓x4_5r, ↓x1_5, ↓x32_3, ↓x2_0, ↓f3_2, ↓x31_5, ↓f3_0, ↓x1_3, ↓x32_1, ↓f3_1, ↓x1_4, ↓x48_0, ↓x7_5n, ↓x7_5i, ↓x7_5r, ↓x33, ↓l_2, ↓l_3, ↓l_4, ↓l_5, ↓l_6, ↓l_7, ↓l_9, ↓l_10, ↓l_11, ↓l_12, ↓l_13, ↓l_15, ↓l_16, ↓l_r1, ↓l_r2, ↓l_w1, ↓l_w2, and_self, and_true, true_and, implies_true, true_implies, Int.reduceEq, Int.reduceLE, Int.reduceLT, not_true_eq_false, not_false_eq_true, false_implies, RTf_eq]
  exact l_between ⟨by omega, by omega⟩ ⟨by omega, by omega⟩ h4 h2 h3 16 0 (by omega) (by omega) ⟨rfl, rfl⟩
theorem c_delayBetween {x y : Int} (hx : rg x) (hy : rg y) (h4 : ∀ k, 0 ≤ k → k < 16 → rg (M 4 k)) (h2 : ∀ k, 0 ≤ k → k < 16 → rg (M 2 k)) (h3 : ∀ k, 0 ≤ k → k < 16 → rg (M 3 k)) : Ctr E 3 10 [vr 1, vi x, vi y] (toAH S M) (some (vi (if fi (btB M (min x y) (max x y)) 0 16 = -9 then 0 else M 4 (fi (btB M (min x y) (max x y)) 0 16)))) (toAH S M) := by
  have hc := c_between (E := E) (S := S) hx hy h4 h2 h3
  have hg := fi_rng (p := btB M (min x y) (max x y)) 16 0 (by omega)
  obtain ⟨q, hq⟩ : ∃ q, q = fi (btB M (min x y) (max x y)) 0 16 := ⟨_, rfl⟩
  rw [← hq] at hc hg ⊢
  refine Ctr_f mi_X3_delayBetween mo_X3_delayBetween (Nat.le_of_ble_eq_true rfl) ⟨Nat.le_refl _, Nat.le_refl _⟩ (fun g lm => ?_)
  rw [show entL mi_X3_delayBetween.2.2.1 [vr 1, vi x, vi y] = [some (vr 1), some (vi x), some (vi y), none] from rfl]
  refine e_X3_delayBetween 400 (lfok E (by omega)) ?_
  simp +contextual (disch := first | omega | exact Nat.le_of_ble_eq_true rfl | assumption) only [↓r_X3_delayBetween_0, ↓r_X3_delayBetween_1, ↓r_X3_delayBetween_2, ↓r_X3_delayBetween_3, ↓r_X3_delayBetween_6, ↓r_X3_delayBetween_7, ↓r_X3_delayBetween_8, ↓r_X3_delayBetween_10, ↓r_X3_delayBetween_13, ↓r_X3_delayBetween_14, ↓r_X3_delayBetween_17, ↓r_X3_delayBetween_18, ↓r_X3_delayBetween_21, ↓r_X3_delayBetween_22, ↓r_X3_delayBetween_23, ↓x2_0, ↓x1_1, ↓x1_2, ↓v3_3, ↓x4_3n, ↓x4_3i, ↓x4_3r, ↓x1_3, ↓x0, ↓x32_1, ↓x33, ↓f3_2, ↓x48_0, ↓l_2, ↓l_3, ↓l_4, ↓l_5, ↓l_6, ↓l_7, ↓l_9, ↓l_10, ↓l_11, ↓l_12, ↓l_13, ↓l_15, ↓l_16, ↓l_r1, ↓l_r2, ↓l_w1, ↓l_w2, and_self, and_true, true_and, implies_true, true_implies, Int.reduceEq, Int.reduceLE, Int.reduceLT, not_true_eq_false, not_false_eq_true, false_implies, RTf_eq]
  refine ck_r hc (by omega) (by simp) ?_
  simp +contextual (disch := first | omega | exact Nat.le_of_ble_eq_true rfl | assumption) only [↓r_X3_delayBetween_0, ↓r_X3_delayBetween_1, ↓r_X3_delayBetween_2, ↓r_X3_delayBetween_3, ↓r_X3_delayBetween_6, ↓r_X3_delayBetween_7, ↓r_X3_delayBetween_8, ↓r_X3_delayBetween_10, ↓r_X3_delayBetween_13, ↓r_X3_delayBetween_14, ↓r_X3_delayBetween_17, ↓r_X3_delayBetween_18, ↓r_X3_delayBetween_21, ↓r_X3_delayBetween_22, ↓r_X3_delayBetween_23, ↓x2_0, ↓x1_1, ↓x1_2, ↓v3_3, ↓x4_3n, ↓x4_3i, ↓x4_3r, ↓x1_3, ↓x0, ↓x32_1, ↓x33, ↓f3_2, ↓x48_0, ↓l_2, ↓l_3, ↓l_4, ↓l_5, ↓l_6, ↓l_7, ↓l_9, ↓l_10, ↓l_11, ↓l_12, ↓l_13, ↓l_15, ↓l_16, ↓l_r1, ↓l_r2, ↓l_w1, ↓l_w2, and_self, and_true, true_and, implies_true, true_implies, Int.reduceEq, Int.reduceLE, Int.reduceLT, not_true_eq_false, not_false_eq_true, false_implies, RTf_eq]
  refine ⟨fun c => ?_, fun c => ?_⟩
  · rw [if_neg (fun f => f)]
  · rw [if_pos (by omega)]
end
