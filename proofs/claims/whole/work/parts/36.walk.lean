/-! ===== walkers: setting out, stopping, turning, what is remembered ===== -/
section
variable {E : ET} {S : SCR} {M : Mem}
theorem c_stop {w : Int} (hw : 0 ≤ w ∧ w < 12) : Ctr E 2 40 [vr (209 + 3 * w)] (toAH S M) none (toAH S (up2 (up2 M (209 + 3 * w) 3 0) (209 + 3 * w) 8 (-9))) := by
  refine Ctr_f mi_X7_stop mo_X7_stop (Nat.le_of_ble_eq_true rfl) ⟨Nat.le_refl _, Nat.le_refl _⟩ (fun g lm => ?_)
  rw [show entL mi_X7_stop.2.2.1 [vr (209 + 3 * w)] = [some (vr (209 + 3 * w))] from rfl]
  refine e_X7_stop 400 (lfok E (by omega)) ?_
  simp +contextual (disch := first | omega | exact Nat.le_of_ble_eq_true rfl | assumption) only [↓r_X7_stop_0, ↓r_X7_stop_1, ↓r_X7_stop_2, ↓r_X7_stop_5, ↓r_X7_stop_6, ↓r_X7_stop_8, ↓r_X7_stop_11, ↓x2_0, ↓x0, ↓p7_3, ↓p7_8, ↓x48_4, and_self, and_true, true_and, implies_true, true_implies, Int.reduceEq, Int.reduceLE, Int.reduceLT, not_true_eq_false, not_false_eq_true, false_implies, RTf_eq]
theorem c_turn {w : Int} (hw : 0 ≤ w ∧ w < 12) : Ctr E 2 41 [vr (209 + 3 * w)] (toAH S M) none (toAH S (up2 (up2 M (209 + 3 * w) 4 1) (209 + 3 * w) 12 (M (209 + 3 * w) 2 - 1))) := by
  have e : up2 M (209 + 3 * w) 4 1 (209 + 3 * w) 2 = M (209 + 3 * w) 2 := up2_other (by omega)
  refine Ctr_f mi_X7_turn mo_X7_turn (Nat.le_of_ble_eq_true rfl) ⟨Nat.le_refl _, Nat.le_refl _⟩ (fun g lm => ?_)
  rw [show entL mi_X7_turn.2.2.1 [vr (209 + 3 * w)] = [some (vr (209 + 3 * w))] from rfl]
  refine e_X7_turn 400 (lfok E (by omega)) ?_
  simp +contextual (disch := first | omega | exact Nat.le_of_ble_eq_true rfl | assumption) only [↓r_X7_turn_0, ↓r_X7_turn_1, ↓r_X7_turn_2, ↓r_X7_turn_5, ↓r_X7_turn_6, ↓r_X7_turn_7, ↓r_X7_turn_10, ↓r_X7_turn_11, ↓r_X7_turn_12, ↓r_X7_turn_15, ↓x2_0, ↓x0, ↓p7_4, ↓f7_2, ↓x9, ↓p7_12, ↓x48_4, and_self, and_true, true_and, implies_true, true_implies, Int.reduceEq, Int.reduceLE, Int.reduceLT, not_true_eq_false, not_false_eq_true, false_implies, RTf_eq, e]
theorem c_travel {w a b c : Int} (hw : 0 ≤ w ∧ w < 12) : Ctr E 2 42 [vr (209 + 3 * w), vi a, vi b, vi c] (toAH S M) none (toAH S (up2 (up2 (up2 M (209 + 3 * w) 8 a) (209 + 3 * w) 9 b) (209 + 3 * w) 10 c)) := by
  refine Ctr_f mi_X7_travel mo_X7_travel (Nat.le_of_ble_eq_true rfl) ⟨Nat.le_refl _, Nat.le_refl _⟩ (fun g lm => ?_)
  rw [show entL mi_X7_travel.2.2.1 [vr (209 + 3 * w), vi a, vi b, vi c] = [some (vr (209 + 3 * w)), some (vi a), some (vi b), some (vi c)] from rfl]
  refine e_X7_travel 400 (lfok E (by omega)) ?_
  simp +contextual (disch := first | omega | exact Nat.le_of_ble_eq_true rfl | assumption) only [↓r_X7_travel_0, ↓r_X7_travel_1, ↓r_X7_travel_2, ↓r_X7_travel_5, ↓r_X7_travel_6, ↓r_X7_travel_7, ↓r_X7_travel_10, ↓r_X7_travel_11, ↓r_X7_travel_12, ↓r_X7_travel_15, ↓x2_0, ↓x1_1, ↓p7_8, ↓x1_2, ↓p7_9, ↓x1_3, ↓p7_10, ↓x48_4, and_self, and_true, true_and, implies_true, true_implies, Int.reduceEq, Int.reduceLE, Int.reduceLT, not_true_eq_false, not_false_eq_true, false_implies, RTf_eq]
/-- what the class remembers, where the node stood at place q (-9: nowhere) -/
def rmX (M : Mem) (w nd t q : Int) : Mem := if q = -9 then (if M (209 + 3 * w) 2 < 8 then up2 (up2 (up2 M (210 + 3 * w) (M (209 + 3 * w) 2) nd) (211 + 3 * w) (M (209 + 3 * w) 2) t) (209 + 3 * w) 2 (M (209 + 3 * w) 2 + 1) else M) else up2 M (209 + 3 * w) 2 (q + 1)
theorem l_remember {g : GT} {lm : Nat × Nat} {RT : RTy} {w nd t : Int} (hw : 0 ≤ w ∧ w < 12) (hn : 0 ≤ M (209 + 3 * w) 2 ∧ M (209 + 3 * w) 2 ≤ 8) (hd : rg nd) (hv : ∀ k, 0 ≤ k → k < 8 → rg (M (210 + 3 * w) k)) :
    ∀ (n : Nat) (k : Int), 0 ≤ k → k + n = M (209 + 3 * w) 2 → RT none (toAH S (rmX M w nd t (fi (fun j => decide (M (210 + 3 * w) j = nd)) k n))) → G E g mi_X7_remember 2 lm RT 2 [some (vr (209 + 3 * w)), some (vi nd), some (vi t), some (vi k)] [] (toAH S M) := by
  intro n
  have e1 : up2 M (210 + 3 * w) (M (209 + 3 * w) 2) nd (209 + 3 * w) 2 = M (209 + 3 * w) 2 := up2_other (by omega)
  have e2 : up2 (up2 M (210 + 3 * w) (M (209 + 3 * w) 2) nd) (211 + 3 * w) (M (209 + 3 * w) 2) t (209 + 3 * w) 2 = M (209 + 3 * w) 2 := by rw [up2_other (by omega)]; exact e1
  induction n with
  | zero =>
    intro k h0 hk hr
    have e : rmX M w nd t (fi (fun j => decide (M (210 + 3 * w) j = nd)) k 0) = (if M (209 + 3 * w) 2 < 8 then up2 (up2 (up2 M (210 + 3 * w) (M (209 + 3 * w) 2) nd) (211 + 3 * w) (M (209 + 3 * w) 2) t) (209 + 3 * w) 2 (M (209 + 3 * w) 2 + 1) else M) := by
      rw [show fi (fun j => decide (M (210 + 3 * w) j = nd)) k 0 = -9 from rfl]
      unfold rmX
      rw [if_pos rfl]
    rw [e] at hr
    refine q_X7_remember_2 400 (lfok E (by omega)) ?_
    simp +contextual (disch := first | omega | exact Nat.le_of_ble_eq_true rfl | assumption) only [↓r_X7_remember_0, ↓r_X7_remember_1, ↓r_X7_remember_2, ↓r_X7_remember_3, ↓r_X7_remember_4, ↓r_X7_remember_7, ↓r_X7_remember_10, ↓r_X7_remember_11, ↓r_X7_remember_14, ↓r_X7_remember_15, ↓r_X7_remember_16, ↓r_X7_remember_17, ↓r_X7_remember_20, ↓r_X7_remember_21, ↓r_X7_remember_22, ↓r_X7_remember_23, ↓r_X7_remember_24, ↓r_X7_remember_27, ↓r_X7_remember_28, ↓r_X7_remember_31, ↓r_X7_remember_34, ↓r_X7_remember_35, ↓r_X7_remember_38, ↓r_X7_remember_40, ↓r_X7_remember_43, ↓r_X7_remember_44, ↓r_X7_remember_47, ↓r_X7_remember_48, ↓r_X7_remember_51, ↓r_X7_remember_52, ↓r_X7_remember_53, ↓r_X7_remember_54, ↓r_X7_remember_57, ↓r_X7_remember_58, ↓r_X7_remember_61, ↓r_X7_remember_62, ↓r_X7_remember_63, ↓r_X7_remember_64, ↓r_X7_remember_65, ↓r_X7_remember_68, ↓r_X7_remember_69, ↓r_X7_remember_70, ↓r_X7_remember_73, ↓x0, ↓x4_3n, ↓x4_3i, ↓x4_3r, ↓x1_3, ↓x2_0, ↓f7_2, ↓x32_3, ↓f7_0, ↓x1_1, ↓x32_1, ↓x8, ↓p7_2, ↓x48_4, ↓x7_3n, ↓x7_3i, ↓x7_3r, ↓x33, ↓f7_1, ↓x1_2, ↓x28i, ↓x28r, ↓l_2, ↓s_2, ↓l_3, ↓s_3, ↓l_4, ↓s_4, ↓l_5, ↓s_5, ↓l_6, ↓s_6, ↓l_7, ↓l_9, ↓s_9, ↓l_10, ↓s_10, ↓l_11, ↓s_11, ↓l_12, ↓l_13, ↓l_15, ↓s_15, ↓l_16, ↓s_16, ↓l_r1, ↓s_r1, ↓l_r2, ↓s_r2, ↓l_w1, ↓s_w1, ↓l_w2, ↓s_w2, and_self, and_true, true_and, implies_true, true_implies, Int.reduceEq, Int.reduceLE, Int.reduceLT, not_true_eq_false, not_false_eq_true, false_implies, RTf_eq, e1, e2]
    refine ⟨fun _ => ⟨fun q => ?_, fun q => ?_⟩, fun q => absurd (by omega) q⟩
    · rw [if_neg (by omega)] at hr; exact hr
    · rw [if_pos (by omega)] at hr; exact hr
  | succ n ih =>
    intro k h0 hk hr
    have h1 := hv k (by omega) (by omega)
    have e : fi (fun j => decide (M (210 + 3 * w) j = nd)) k (n + 1) = if decide (M (210 + 3 * w) k = nd) = true then k else fi (fun j => decide (M (210 + 3 * w) j = nd)) (k + 1) n := rfl
    rw [e] at hr
    refine q_X7_remember_2 400 (lfok E (by omega)) ?_
    simp +contextual (disch := first | omega | exact Nat.le_of_ble_eq_true rfl | assumption) only [↓r_X7_remember_0, ↓r_X7_remember_1, ↓r_X7_remember_2, ↓r_X7_remember_3, ↓r_X7_remember_4, ↓r_X7_remember_7, ↓r_X7_remember_10, ↓r_X7_remember_11, ↓r_X7_remember_14, ↓r_X7_remember_15, ↓r_X7_remember_16, ↓r_X7_remember_17, ↓r_X7_remember_20, ↓r_X7_remember_21, ↓r_X7_remember_22, ↓r_X7_remember_23, ↓r_X7_remember_24, ↓r_X7_remember_27, ↓r_X7_remember_28, ↓r_X7_remember_31, ↓r_X7_remember_34, ↓r_X7_remember_35, ↓r_X7_remember_38, ↓r_X7_remember_40, ↓r_X7_remember_43, ↓r_X7_remember_44, ↓r_X7_remember_47, ↓r_X7_remember_48, ↓r_X7_remember_51, ↓r_X7_remember_52, ↓r_X7_remember_53, ↓r_X7_remember_54, ↓r_X7_remember_57, ↓r_X7_remember_58, ↓r_X7_remember_61, ↓r_X7_remember_62, ↓r_X7_remember_63, ↓r_X7_remember_64, ↓r_X7_remember_65, ↓r_X7_remember_68, ↓r_X7_remember_69, ↓r_X7_remember_70, ↓r_X7_remember_73, ↓x0, ↓x4_3n, ↓x4_3i, ↓x4_3r, ↓x1_3, ↓x2_0, ↓f7_2, ↓x32_3, ↓f7_0, ↓x1_1, ↓x32_1, ↓x8, ↓p7_2, ↓x48_4, ↓x7_3n, ↓x7_3i, ↓x7_3r, ↓x33, ↓f7_1, ↓x1_2, ↓x28i, ↓x28r, ↓l_2, ↓s_2, ↓l_3, ↓s_3, ↓l_4, ↓s_4, ↓l_5, ↓s_5, ↓l_6, ↓s_6, ↓l_7, ↓l_9, ↓s_9, ↓l_10, ↓s_10, ↓l_11, ↓s_11, ↓l_12, ↓l_13, ↓l_15, ↓s_15, ↓l_16, ↓s_16, ↓l_r1, ↓s_r1, ↓l_r2, ↓s_r2, ↓l_w1, ↓s_w1, ↓l_w2, ↓s_w2, and_self, and_true, true_and, implies_true, true_implies, Int.reduceEq, Int.reduceLE, Int.reduceLT, not_true_eq_false, not_false_eq_true, false_implies, RTf_eq, e1, e2]
    refine ⟨fun q => by omega, fun _ => ⟨fun q => ?_, fun q => ?_⟩⟩
    · rw [if_neg (by simpa using q)] at hr
      exact ih (k + 1) (by omega) (by omega) hr
    · rw [if_pos (by simpa using q)] at hr
      unfold rmX at hr
      rw [if_neg (by omega)] at hr
      exact hr
theorem c_remember {w nd t : Int} {n : Nat} (hw : 0 ≤ w ∧ w < 12) (hn : M (209 + 3 * w) 2 = (n : Int)) (hn8 : n ≤ 8) (hd : rg nd) (hv : ∀ k, 0 ≤ k → k < 8 → rg (M (210 + 3 * w) k)) : Ctr E 2 38 [vr (209 + 3 * w), vi nd, vi t] (toAH S M) none (toAH S (rmX M w nd t (fi (fun j => decide (M (210 + 3 * w) j = nd)) 0 n))) := by
  refine Ctr_f mi_X7_remember mo_X7_remember (Nat.le_of_ble_eq_true rfl) ⟨Nat.le_refl _, Nat.le_refl _⟩ (fun g lm => ?_)
  rw [show entL mi_X7_remember.2.2.1 [vr (209 + 3 * w), vi nd, vi t] = [some (vr (209 + 3 * w)), some (vi nd), some (vi t), none] from rfl]
  refine e_X7_remember 400 (lfok E (by omega)) ?_
  simp +contextual (disch := first | omega | exact Nat.le_of_ble_eq_true rfl | assumption) only [↓r_X7_remember_0, ↓r_X7_remember_1, ↓r_X7_remember_2, ↓r_X7_remember_3, ↓r_X7_remember_4, ↓r_X7_remember_7, ↓r_X7_remember_10, ↓r_X7_remember_11, ↓r_X7_remember_14, ↓r_X7_remember_15, ↓r_X7_remember_16, ↓r_X7_remember_17, ↓r_X7_remember_20, ↓r_X7_remember_21, ↓r_X7_remember_22, ↓r_X7_remember_23, ↓r_X7_remember_24, ↓r_X7_remember_27, ↓r_X7_remember_28, ↓r_X7_remember_31, ↓r_X7_remember_34, ↓r_X7_remember_35, ↓r_X7_remember_38, ↓r_X7_remember_40, ↓r_X7_remember_43, ↓r_X7_remember_44, ↓r_X7_remember_47, ↓r_X7_remember_48, ↓r_X7_remember_51, ↓r_X7_remember_52, ↓r_X7_remember_53, ↓r_X7_remember_54, ↓r_X7_remember_57, ↓r_X7_remember_58, ↓r_X7_remember_61, ↓r_X7_remember_62, ↓r_X7_remember_63, ↓r_X7_remember_64, ↓r_X7_remember_65, ↓r_X7_remember_68, ↓r_X7_remember_69, ↓r_X7_remember_70, ↓r_X7_remember_73, ↓x0, ↓x4_3n, ↓x4_3i, ↓x4_3r, ↓x1_3, ↓x2_0, ↓f7_2, ↓x32_3, ↓f7_0, ↓x1_1, ↓x32_1, ↓x8, ↓p7_2, ↓x48_4, ↓x7_3n, ↓x7_3i, ↓x7_3r, ↓x33, ↓f7_1, ↓x1_2, ↓x28i, ↓x28r, ↓l_2, ↓s_2, ↓l_3, ↓s_3, ↓l_4, ↓s_4, ↓l_5, ↓s_5, ↓l_6, ↓s_6, ↓l_7, ↓l_9, ↓s_9, ↓l_10, ↓s_10, ↓l_11, ↓s_11, ↓l_12, ↓l_13, ↓l_15, ↓s_15, ↓l_16, ↓s_16, ↓l_r1, ↓s_r1, ↓l_r2, ↓s_r2, ↓l_w1, ↓s_w1, ↓l_w2, ↓s_w2, and_self, and_true, true_and, implies_true, true_implies, Int.reduceEq, Int.reduceLE, Int.reduceLT, not_true_eq_false, not_false_eq_true, false_implies, RTf_eq]
  exact l_remember hw (by omega) hd hv n 0 (by omega) (by omega) ⟨rfl, rfl⟩
theorem l_placeIn {g : GT} {lm : Nat × Nat} {RT : RTy} {w nd : Int} (hw : 0 ≤ w ∧ w < 12) (hn : 0 ≤ M 267 w ∧ M 267 w ≤ 8) (hd : rg nd) (hv : ∀ k, 0 ≤ k → k < 8 → rg (M 268 (8 * w + k))) :
    ∀ (n : Nat) (k : Int), 0 ≤ k → k + n = M 267 w → RT (some (vi (fi (fun j => decide (M 268 (8 * w + j) = nd)) k n))) (toAH S M) → G E g mi_X9_placeIn 2 lm RT 2 [some (vr 248), some (vi w), some (vi nd), some (vi k)] [] (toAH S M) := by
  intro n
  induction n with
  | zero =>
    intro k h0 hk hr
    refine q_X9_placeIn_2 400 (lfok E (by omega)) ?_
    simp +contextual (disch := first | omega | exact Nat.le_of_ble_eq_true rfl | assumption) only [↓r_X9_placeIn_0, ↓r_X9_placeIn_1, ↓r_X9_placeIn_2, ↓r_X9_placeIn_3, ↓r_X9_placeIn_4, ↓r_X9_placeIn_7, ↓r_X9_placeIn_8, ↓r_X9_placeIn_9, ↓r_X9_placeIn_12, ↓r_X9_placeIn_13, ↓r_X9_placeIn_16, ↓r_X9_placeIn_18, ↓r_X9_placeIn_19, ↓r_X9_placeIn_20, ↓r_X9_placeIn_21, ↓r_X9_placeIn_22, ↓r_X9_placeIn_23, ↓r_X9_placeIn_24, ↓r_X9_placeIn_27, ↓r_X9_placeIn_28, ↓r_X9_placeIn_29, ↓r_X9_placeIn_32, ↓r_X9_placeIn_35, ↓r_X9_placeIn_37, ↓x0, ↓x4_3n, ↓x4_3i, ↓x4_3r, ↓x1_3, ↓x2_0, ↓f9_26, ↓x1_1, ↓x32_3, ↓f9_27, ↓x10, ↓x8, ↓x1_2, ↓x32_1, ↓x48_0, ↓x7_3n, ↓x7_3i, ↓x7_3r, ↓x33, ↓l_249, ↓l_250, ↓l_251, ↓l_252, ↓l_253, ↓l_254, ↓l_255, ↓l_256, ↓l_257, ↓l_258, ↓l_259, ↓l_260, ↓l_261, ↓l_262, ↓l_263, ↓l_264, ↓l_265, ↓l_266, ↓l_267, ↓l_268, ↓l_269, ↓l_270, ↓l_271, ↓l_272, ↓l_273, ↓l_274, and_self, and_true, true_and, implies_true, true_implies, Int.reduceEq, Int.reduceLE, Int.reduceLT, not_true_eq_false, not_false_eq_true, false_implies, RTf_eq]
    exact ⟨fun _ => hr, fun q => absurd (by omega) q⟩
  | succ n ih =>
    intro k h0 hk hr
    have h1 := hv k (by omega) (by omega)
    have e : fi (fun j => decide (M 268 (8 * w + j) = nd)) k (n + 1) = if decide (M 268 (8 * w + k) = nd) = true then k else fi (fun j => decide (M 268 (8 * w + j) = nd)) (k + 1) n := rfl
    rw [e] at hr
    refine q_X9_placeIn_2 400 (lfok E (by omega)) ?_
    simp +contextual (disch := first | omega | exact Nat.le_of_ble_eq_true rfl | assumption) only [↓r_X9_placeIn_0, ↓r_X9_placeIn_1, ↓r_X9_placeIn_2, ↓r_X9_placeIn_3, ↓r_X9_placeIn_4, ↓r_X9_placeIn_7, ↓r_X9_placeIn_8, ↓r_X9_placeIn_9, ↓r_X9_placeIn_12, ↓r_X9_placeIn_13, ↓r_X9_placeIn_16, ↓r_X9_placeIn_18, ↓r_X9_placeIn_19, ↓r_X9_placeIn_20, ↓r_X9_placeIn_21, ↓r_X9_placeIn_22, ↓r_X9_placeIn_23, ↓r_X9_placeIn_24, ↓r_X9_placeIn_27, ↓r_X9_placeIn_28, ↓r_X9_placeIn_29, ↓r_X9_placeIn_32, ↓r_X9_placeIn_35, ↓r_X9_placeIn_37, ↓x0, ↓x4_3n, ↓x4_3i, ↓x4_3r, ↓x1_3, ↓x2_0, ↓f9_26, ↓x1_1, ↓x32_3, ↓f9_27, ↓x10, ↓x8, ↓x1_2, ↓x32_1, ↓x48_0, ↓x7_3n, ↓x7_3i, ↓x7_3r, ↓x33, ↓l_249, ↓l_250, ↓l_251, ↓l_252, ↓l_253, ↓l_254, ↓l_255, ↓l_256, ↓l_257, ↓l_258, ↓l_259, ↓l_260, ↓l_261, ↓l_262, ↓l_263, ↓l_264, ↓l_265, ↓l_266, ↓l_267, ↓l_268, ↓l_269, ↓l_270, ↓l_271, ↓l_272, ↓l_273, ↓l_274, and_self, and_true, true_and, implies_true, true_implies, Int.reduceEq, Int.reduceLE, Int.reduceLT, not_true_eq_false, not_false_eq_true, false_implies, RTf_eq]
    refine ⟨fun q => by omega, fun _ => ⟨fun q => ?_, fun q => ?_⟩⟩
    · rw [if_neg (by simpa using q)] at hr
      exact ih (k + 1) (by omega) (by omega) hr
    · rw [if_pos (by simpa using q)] at hr
      exact hr
theorem c_placeIn {w nd : Int} {n : Nat} (hw : 0 ≤ w ∧ w < 12) (hn : M 267 w = (n : Int)) (hn8 : n ≤ 8) (hd : rg nd) (hv : ∀ k, 0 ≤ k → k < 8 → rg (M 268 (8 * w + k))) : Ctr E 2 121 [vr 248, vi w, vi nd] (toAH S M) (some (vi (fi (fun j => decide (M 268 (8 * w + j) = nd)) 0 n))) (toAH S M) := by
  refine Ctr_f mi_X9_placeIn mo_X9_placeIn (Nat.le_of_ble_eq_true rfl) ⟨Nat.le_refl _, Nat.le_refl _⟩ (fun g lm => ?_)
  rw [show entL mi_X9_placeIn.2.2.1 [vr 248, vi w, vi nd] = [some (vr 248), some (vi w), some (vi nd), none] from rfl]
  refine e_X9_placeIn 400 (lfok E (by omega)) ?_
  simp +contextual (disch := first | omega | exact Nat.le_of_ble_eq_true rfl | assumption) only [↓r_X9_placeIn_0, ↓r_X9_placeIn_1, ↓r_X9_placeIn_2, ↓r_X9_placeIn_3, ↓r_X9_placeIn_4, ↓r_X9_placeIn_7, ↓r_X9_placeIn_8, ↓r_X9_placeIn_9, ↓r_X9_placeIn_12, ↓r_X9_placeIn_13, ↓r_X9_placeIn_16, ↓r_X9_placeIn_18, ↓r_X9_placeIn_19, ↓r_X9_placeIn_20, ↓r_X9_placeIn_21, ↓r_X9_placeIn_22, ↓r_X9_placeIn_23, ↓r_X9_placeIn_24, ↓r_X9_placeIn_27, ↓r_X9_placeIn_28, ↓r_X9_placeIn_29, ↓r_X9_placeIn_32, ↓r_X9_placeIn_35, ↓r_X9_placeIn_37, ↓x0, ↓x4_3n, ↓x4_3i, ↓x4_3r, ↓x1_3, ↓x2_0, ↓f9_26, ↓x1_1, ↓x32_3, ↓f9_27, ↓x10, ↓x8, ↓x1_2, ↓x32_1, ↓x48_0, ↓x7_3n, ↓x7_3i, ↓x7_3r, ↓x33, ↓l_249, ↓l_250, ↓l_251, ↓l_252, ↓l_253, ↓l_254, ↓l_255, ↓l_256, ↓l_257, ↓l_258, ↓l_259, ↓l_260, ↓l_261, ↓l_262, ↓l_263, ↓l_264, ↓l_265, ↓l_266, ↓l_267, ↓l_268, ↓l_269, ↓l_270, ↓l_271, ↓l_272, ↓l_273, ↓l_274, and_self, and_true, true_and, implies_true, true_implies, Int.reduceEq, Int.reduceLE, Int.reduceLT, not_true_eq_false, not_false_eq_true, false_implies, RTf_eq]
  exact l_placeIn hw (by omega) hd hv n 0 (by omega) (by omega) ⟨rfl, rfl⟩
/-- what the model remembers -/
def rmY (M : Mem) (w nd q : Int) : Mem := if q = -9 then up2 (up2 (up2 M 268 (8 * w + M 267 w) nd) 269 (8 * w + M 267 w) (M 248 12)) 267 w (M 267 w + 1) else up2 M 267 w (q + 1)
theorem c_remembers {w nd : Int} {n : Nat} (hw : 0 ≤ w ∧ w < 12) (hn : M 267 w = (n : Int)) (hn8 : n ≤ 8) (hd : rg nd) (hv : ∀ k, 0 ≤ k → k < 8 → rg (M 268 (8 * w + k))) (hp : fi (fun j => decide (M 268 (8 * w + j) = nd)) 0 n = -9 → n < 8) : Ctr E 3 127 [vr 248, vi w, vi nd] (toAH S M) none (toAH S (rmY M w nd (fi (fun j => decide (M 268 (8 * w + j) = nd)) 0 n))) := by
  have hc := c_placeIn (E := E) (S := S) hw hn hn8 hd hv
  have hg := fi_rng (p := fun j => decide (M 268 (8 * w + j) = nd)) n 0 (by omega)
  obtain ⟨q, hq⟩ : ∃ q, q = fi (fun j => decide (M 268 (8 * w + j) = nd)) 0 n := ⟨_, rfl⟩
  rw [← hq] at hc hg hp ⊢
  have e1 : up2 M 268 (8 * w + M 267 w) nd 267 w = M 267 w := up2_other (by omega)
  have e3 : up2 M 268 (8 * w + M 267 w) nd 248 12 = M 248 12 := up2_other (by omega)
  have e2 : up2 (up2 M 268 (8 * w + M 267 w) nd) 269 (8 * w + M 267 w) (M 248 12) 267 w = M 267 w := by rw [up2_other (by omega)]; exact e1
  refine Ctr_f mi_X9_remembers mo_X9_remembers (Nat.le_of_ble_eq_true rfl) ⟨Nat.le_refl _, Nat.le_refl _⟩ (fun g lm => ?_)
  rw [show entL mi_X9_remembers.2.2.1 [vr 248, vi w, vi nd] = [some (vr 248), some (vi w), some (vi nd), none] from rfl]
  refine e_X9_remembers 400 (lfok E (by omega)) ?_
  simp +contextual (disch := first | omega | exact Nat.le_of_ble_eq_true rfl | assumption) only [↓r_X9_remembers_0, ↓r_X9_remembers_1, ↓r_X9_remembers_2, ↓r_X9_remembers_3, ↓r_X9_remembers_6, ↓r_X9_remembers_7, ↓r_X9_remembers_8, ↓r_X9_remembers_10, ↓r_X9_remembers_13, ↓r_X9_remembers_14, ↓r_X9_remembers_17, ↓r_X9_remembers_18, ↓r_X9_remembers_19, ↓r_X9_remembers_20, ↓r_X9_remembers_21, ↓r_X9_remembers_22, ↓r_X9_remembers_23, ↓r_X9_remembers_24, ↓r_X9_remembers_27, ↓r_X9_remembers_29, ↓r_X9_remembers_30, ↓r_X9_remembers_31, ↓r_X9_remembers_32, ↓r_X9_remembers_35, ↓r_X9_remembers_36, ↓r_X9_remembers_37, ↓r_X9_remembers_38, ↓r_X9_remembers_39, ↓r_X9_remembers_40, ↓r_X9_remembers_41, ↓r_X9_remembers_44, ↓r_X9_remembers_46, ↓r_X9_remembers_47, ↓r_X9_remembers_48, ↓r_X9_remembers_49, ↓r_X9_remembers_52, ↓r_X9_remembers_53, ↓r_X9_remembers_54, ↓r_X9_remembers_55, ↓r_X9_remembers_56, ↓r_X9_remembers_59, ↓r_X9_remembers_60, ↓r_X9_remembers_61, ↓r_X9_remembers_64, ↓r_X9_remembers_65, ↓r_X9_remembers_66, ↓r_X9_remembers_67, ↓r_X9_remembers_68, ↓r_X9_remembers_69, ↓r_X9_remembers_70, ↓x2_0, ↓x1_1, ↓x1_2, ↓v9_3, ↓x4_3n, ↓x4_3i, ↓x4_3r, ↓x1_3, ↓x0, ↓x32_0, ↓f9_26, ↓x8, ↓x48_4, ↓f9_27, ↓x10, ↓f9_28, ↓f9_12, ↓x29, ↓l_249, ↓s_249, ↓l_250, ↓s_250, ↓l_251, ↓s_251, ↓l_252, ↓s_252, ↓l_253, ↓s_253, ↓l_254, ↓s_254, ↓l_255, ↓s_255, ↓l_256, ↓s_256, ↓l_257, ↓s_257, ↓l_258, ↓s_258, ↓l_259, ↓s_259, ↓l_260, ↓s_260, ↓l_261, ↓s_261, ↓l_262, ↓s_262, ↓l_263, ↓s_263, ↓l_264, ↓s_264, ↓l_265, ↓s_265, ↓l_266, ↓s_266, ↓l_267, ↓s_267, ↓l_268, ↓s_268, ↓l_269, ↓s_269, ↓l_270, ↓s_270, ↓l_271, ↓s_271, ↓l_272, ↓s_272, ↓l_273, ↓s_273, ↓l_274, ↓s_274, and_self, and_true, true_and, implies_true, true_implies, Int.reduceEq, Int.reduceLE, Int.reduceLT, not_true_eq_false, not_false_eq_true, false_implies, RTf_eq, e1, e2, e3]
  refine ck_r hc (by omega) (by simp) ?_
  simp +contextual (disch := first | omega | exact Nat.le_of_ble_eq_true rfl | assumption) only [↓r_X9_remembers_0, ↓r_X9_remembers_1, ↓r_X9_remembers_2, ↓r_X9_remembers_3, ↓r_X9_remembers_6, ↓r_X9_remembers_7, ↓r_X9_remembers_8, ↓r_X9_remembers_10, ↓r_X9_remembers_13, ↓r_X9_remembers_14, ↓r_X9_remembers_17, ↓r_X9_remembers_18, ↓r_X9_remembers_19, ↓r_X9_remembers_20, ↓r_X9_remembers_21, ↓r_X9_remembers_22, ↓r_X9_remembers_23, ↓r_X9_remembers_24, ↓r_X9_remembers_27, ↓r_X9_remembers_29, ↓r_X9_remembers_30, ↓r_X9_remembers_31, ↓r_X9_remembers_32, ↓r_X9_remembers_35, ↓r_X9_remembers_36, ↓r_X9_remembers_37, ↓r_X9_remembers_38, ↓r_X9_remembers_39, ↓r_X9_remembers_40, ↓r_X9_remembers_41, ↓r_X9_remembers_44, ↓r_X9_remembers_46, ↓r_X9_remembers_47, ↓r_X9_remembers_48, ↓r_X9_remembers_49, ↓r_X9_remembers_52, ↓r_X9_remembers_53, ↓r_X9_remembers_54, ↓r_X9_remembers_55, ↓r_X9_remembers_56, ↓r_X9_remembers_59, ↓r_X9_remembers_60, ↓r_X9_remembers_61, ↓r_X9_remembers_64, ↓r_X9_remembers_65, ↓r_X9_remembers_66, ↓r_X9_remembers_67, ↓r_X9_remembers_68, ↓r_X9_remembers_69, ↓r_X9_remembers_70, ↓x2_0, ↓x1_1, ↓x1_2, ↓v9_3, ↓x4_3n, ↓x4_3i, ↓x4_3r, ↓x1_3, ↓x0, ↓x32_0, ↓f9_26, ↓x8, ↓x48_4, ↓f9_27, ↓x10, ↓f9_28, ↓f9_12, ↓x29, ↓l_249, ↓s_249, ↓l_250, ↓s_250, ↓l_251, ↓s_251, ↓l_252, ↓s_252, ↓l_253, ↓s_253, ↓l_254, ↓s_254, ↓l_255, ↓s_255, ↓l_256, ↓s_256, ↓l_257, ↓s_257, ↓l_258, ↓s_258, ↓l_259, ↓s_259, ↓l_260, ↓s_260, ↓l_261, ↓s_261, ↓l_262, ↓s_262, ↓l_263, ↓s_263, ↓l_264, ↓s_264, ↓l_265, ↓s_265, ↓l_266, ↓s_266, ↓l_267, ↓s_267, ↓l_268, ↓s_268, ↓l_269, ↓s_269, ↓l_270, ↓s_270, ↓l_271, ↓s_271, ↓l_272, ↓s_272, ↓l_273, ↓s_273, ↓l_274, ↓s_274, and_self, and_true, true_and, implies_true, true_implies, Int.reduceEq, Int.reduceLE, Int.reduceLT, not_true_eq_false, not_false_eq_true, false_implies, RTf_eq, e1, e2, e3]
  refine ⟨fun q1 => ?_, fun q1 => ?_⟩
  · unfold rmY; rw [if_pos rfl]
  · unfold rmY; rw [if_neg q1]
/-- what the class's walker is after it set out, before it remembers -/
def soM (M : Mem) (w kd st am : Int) : Mem := up2 (up2 (up2 (up2 (up2 (up2 (up2 (up2 M (209 + 3 * w) 3 1) (209 + 3 * w) 4 0) (209 + 3 * w) 5 kd) (209 + 3 * w) 6 st) (209 + 3 * w) 7 am) (209 + 3 * w) 8 (-9)) (209 + 3 * w) 11 0) (209 + 3 * w) 2 0
theorem c_setOut {w kd st am t : Int} (hw : 0 ≤ w ∧ w < 12) (hs : rg st) (hv : ∀ k, 0 ≤ k → k < 8 → rg (M (210 + 3 * w) k)) : Ctr E 3 37 [vr (209 + 3 * w), vi kd, vi st, vi am, vi t] (toAH S M) none (toAH S (rmX (soM M w kd st am) w st t (-9))) := by
  have h2 : soM M w kd st am (209 + 3 * w) 2 = ((0 : Nat) : Int) := up2_same
  have hc := c_remember (E := E) (S := S) (M := soM M w kd st am) (w := w) (nd := st) (t := t) (n := 0) hw h2 (by omega) hs (fun k a b => by
    unfold soM
    rw [up2_other (by omega), up2_other (by omega), up2_other (by omega), up2_other (by omega), up2_other (by omega), up2_other (by omega), up2_other (by omega), up2_other (by omega)]
    exact hv k a b)
  rw [show fi (fun j => decide (soM M w kd st am (210 + 3 * w) j = st)) 0 0 = -9 from rfl] at hc
  refine Ctr_f mi_X7_setOut mo_X7_setOut (Nat.le_of_ble_eq_true rfl) ⟨Nat.le_refl _, Nat.le_refl _⟩ (fun g lm => ?_)
  rw [show entL mi_X7_setOut.2.2.1 [vr (209 + 3 * w), vi kd, vi st, vi am, vi t] = [some (vr (209 + 3 * w)), some (vi kd), some (vi st), some (vi am), some (vi t)] from rfl]
  refine e_X7_setOut 400 (lfok E (by omega)) ?_
  simp +contextual (disch := first | omega | exact Nat.le_of_ble_eq_true rfl | assumption) only [↓r_X7_setOut_0, ↓r_X7_setOut_1, ↓r_X7_setOut_2, ↓r_X7_setOut_5, ↓r_X7_setOut_6, ↓r_X7_setOut_7, ↓r_X7_setOut_10, ↓r_X7_setOut_11, ↓r_X7_setOut_12, ↓r_X7_setOut_15, ↓r_X7_setOut_16, ↓r_X7_setOut_17, ↓r_X7_setOut_20, ↓r_X7_setOut_21, ↓r_X7_setOut_22, ↓r_X7_setOut_25, ↓r_X7_setOut_26, ↓r_X7_setOut_28, ↓r_X7_setOut_31, ↓r_X7_setOut_32, ↓r_X7_setOut_33, ↓r_X7_setOut_36, ↓r_X7_setOut_37, ↓r_X7_setOut_38, ↓r_X7_setOut_41, ↓r_X7_setOut_42, ↓r_X7_setOut_43, ↓r_X7_setOut_45, ↓r_X7_setOut_48, ↓x2_0, ↓x0, ↓p7_3, ↓p7_4, ↓x1_1, ↓p7_5, ↓x1_2, ↓p7_6, ↓x1_3, ↓p7_7, ↓p7_8, ↓p7_11, ↓p7_2, ↓x1_4, ↓v7_3, ↓x48_4, and_self, and_true, true_and, implies_true, true_implies, Int.reduceEq, Int.reduceLE, Int.reduceLT, not_true_eq_false, not_false_eq_true, false_implies, RTf_eq]
  refine ck_v hc (by omega) (by simp) ?_
  simp +contextual (disch := first | omega | exact Nat.le_of_ble_eq_true rfl | assumption) only [↓r_X7_setOut_0, ↓r_X7_setOut_1, ↓r_X7_setOut_2, ↓r_X7_setOut_5, ↓r_X7_setOut_6, ↓r_X7_setOut_7, ↓r_X7_setOut_10, ↓r_X7_setOut_11, ↓r_X7_setOut_12, ↓r_X7_setOut_15, ↓r_X7_setOut_16, ↓r_X7_setOut_17, ↓r_X7_setOut_20, ↓r_X7_setOut_21, ↓r_X7_setOut_22, ↓r_X7_setOut_25, ↓r_X7_setOut_26, ↓r_X7_setOut_28, ↓r_X7_setOut_31, ↓r_X7_setOut_32, ↓r_X7_setOut_33, ↓r_X7_setOut_36, ↓r_X7_setOut_37, ↓r_X7_setOut_38, ↓r_X7_setOut_41, ↓r_X7_setOut_42, ↓r_X7_setOut_43, ↓r_X7_setOut_45, ↓r_X7_setOut_48, ↓x2_0, ↓x0, ↓p7_3, ↓p7_4, ↓x1_1, ↓p7_5, ↓x1_2, ↓p7_6, ↓x1_3, ↓p7_7, ↓p7_8, ↓p7_11, ↓p7_2, ↓x1_4, ↓v7_3, ↓x48_4, and_self, and_true, true_and, implies_true, true_implies, Int.reduceEq, Int.reduceLE, Int.reduceLT, not_true_eq_false, not_false_eq_true, false_implies, RTf_eq]
end
