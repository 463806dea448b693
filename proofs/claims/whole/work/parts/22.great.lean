/-! ===== the greatest of a row, the least neighbour below the floor ===== -/
def grF (m : Set8) (v : Vec) : Nat → Int
  | 0 => -9
  | k + 1 => if m (k : Int) = true ∧ (grF m v k = -9 ∨ v (grF m v k) < v (k : Int)) then (k : Int) else grF m v k
theorem grF_rng (m : Set8) (v : Vec) : ∀ k : Nat, grF m v k = -9 ∨ (0 ≤ grF m v k ∧ grF m v k < (k : Int) ∧ m (grF m v k) = true) := by
  intro k
  induction k with
  | zero => exact Or.inl rfl
  | succ k ih =>
    unfold grF
    split
    · rename_i h
      exact Or.inr ⟨by omega, by omega, h.1⟩
    · rcases ih with h | h
      · exact Or.inl h
      · exact Or.inr ⟨h.1, by omega, h.2.2⟩
theorem grF_max {m : Set8} {v : Vec} : ∀ (n : Nat) (j : Int), 0 ≤ j → j < (n : Int) → m j = true → ¬ grF m v n = -9 ∧ v j ≤ v (grF m v n) := by
  intro n
  induction n with
  | zero => intro j h1 h2; omega
  | succ n ih =>
    intro j h1 h2 h3
    unfold grF
    by_cases hj : j = (n : Int)
    · subst hj
      split
      · exact ⟨by omega, Int.le_refl _⟩
      · rename_i h
        have hc : ¬ (grF m v n = -9 ∨ v (grF m v n) < v (n : Int)) := fun q => h ⟨h3, q⟩
        exact ⟨fun q => hc (Or.inl q), by omega⟩
    · have hi := ih j h1 (by omega) h3
      split
      · rename_i h
        refine ⟨by omega, ?_⟩
        rcases h.2 with q | q
        · exact absurd q hi.1
        · omega
      · exact hi
theorem grF_congr {m m' : Set8} {v v' : Vec} : ∀ n : Nat, (∀ k : Int, 0 ≤ k → k < (n : Int) → m k = m' k ∧ (m k = true → v k = v' k)) → grF m v n = grF m' v' n := by
  intro n
  induction n with
  | zero => intro _; rfl
  | succ n ih =>
    intro h
    have e := ih (fun k h1 h2 => h k h1 (by omega))
    have hn := h n (by omega) (by omega)
    unfold grF
    rw [← e, ← hn.1]
    by_cases hm : m (n : Int) = true
    · rw [← hn.2 hm]
      rcases grF_rng m v n with q | q
      · simp [q]
      · rw [(h (grF m v n) q.1 (by omega)).2 q.2.2]
    · simp [hm]
def loF (m : Set8) (v : Vec) (fl : Int) : Nat → Int
  | 0 => -9
  | n + 1 => if m (7 - (n : Int)) = true ∧ v (7 - (n : Int)) < fl then 7 - (n : Int) else loF m v fl n
theorem loF_rng {m : Set8} {v : Vec} {fl : Int} : ∀ n : Nat, n ≤ 8 → loF m v fl n = -9 ∨ (8 - (n : Int) ≤ loF m v fl n ∧ loF m v fl n < 8 ∧ m (loF m v fl n) = true ∧ v (loF m v fl n) < fl) := by
  intro n
  induction n with
  | zero => intro _; exact Or.inl rfl
  | succ n ih =>
    intro hn
    unfold loF
    split
    · rename_i h
      exact Or.inr ⟨by omega, by omega, h.1, h.2⟩
    · rcases ih (by omega) with h | h
      · exact Or.inl h
      · exact Or.inr ⟨by omega, h.2.1, h.2.2⟩
theorem loF_none {m : Set8} {v : Vec} {fl : Int} : ∀ n : Nat, n ≤ 8 → loF m v fl n = -9 → ∀ j : Int, 8 - (n : Int) ≤ j → j < 8 → m j = true → fl ≤ v j := by
  intro n
  induction n with
  | zero => intro _ _ j h1 h2; omega
  | succ n ih =>
    intro hn h j h1 h2 h3
    unfold loF at h
    split at h
    · omega
    · rename_i hc
      by_cases hj : j = 7 - (n : Int)
      · subst hj
        exact Int.not_lt.mp (fun q => hc ⟨h3, q⟩)
      · exact ih (by omega) h j (by omega) h2 h3
theorem loF_congr {m m' : Set8} {v v' : Vec} {fl : Int} : ∀ n : Nat, n ≤ 8 → (∀ k : Int, 0 ≤ k → k < 8 → m k = m' k ∧ (m k = true → v k = v' k)) → loF m v fl n = loF m' v' fl n := by
  intro n
  induction n with
  | zero => intro _ _; rfl
  | succ n ih =>
    intro hn h
    have hk := h (7 - (n : Int)) (by omega) (by omega)
    unfold loF
    rw [ih (by omega) h, ← hk.1]
    by_cases hm : m (7 - (n : Int)) = true
    · rw [← hk.2 hm]
    · simp [hm]
section
variable {E : ET} {S : SCR} {M : Mem}
theorem l_greatest5 {g : GT} {lm : Nat × Nat} {RT : RTy} {r s : Int} (hr0 : 0 ≤ r ∧ r < 64) (es : s = M (17 + 3 * r) 2) (hs : 0 ≤ s ∧ s < 256) (hv : ∀ k, 0 ≤ k → k < 8 → rg (M (18 + 3 * r) k)) (hr : RT (some (vi (grF (bs s) (M (18 + 3 * r)) 8))) (toAH S M)) :
    ∀ k : Nat, k ≤ 8 → G E g mi_X5_greatest 2 lm RT 5 [some (vr (17 + 3 * r)), some (vi (grF (bs s) (M (18 + 3 * r)) k)), some (vi (k : Int))] [] (toAH S M) := by
  refine down ?_ ?_
  · have hg := grF_rng (bs s) (M (18 + 3 * r)) 8
    refine q_X5_greatest_5 400 (lfok E (by omega)) ?_
    simp +contextual (disch := first | omega | exact Nat.le_of_ble_eq_true rfl | assumption) only [↓r_X5_greatest_0, ↓r_X5_greatest_2, ↓r_X5_greatest_3, ↓r_X5_greatest_4, ↓r_X5_greatest_5, ↓r_X5_greatest_6, ↓r_X5_greatest_8, ↓r_X5_greatest_11, ↓r_X5_greatest_12, ↓r_X5_greatest_15, ↓r_X5_greatest_16, ↓r_X5_greatest_19, ↓r_X5_greatest_22, ↓r_X5_greatest_23, ↓r_X5_greatest_25, ↓r_X5_greatest_28, ↓r_X5_greatest_29, ↓r_X5_greatest_32, ↓r_X5_greatest_33, ↓r_X5_greatest_34, ↓r_X5_greatest_35, ↓r_X5_greatest_38, ↓r_X5_greatest_39, ↓r_X5_greatest_40, ↓r_X5_greatest_43, ↓r_X5_greatest_44, ↓r_X5_greatest_45, ↓r_X5_greatest_48, ↓r_X5_greatest_51, ↓r_X5_greatest_52, ↓x0, ↓x4_1n, ↓x4_1i, ↓x4_1r, ↓x4_2n, ↓x4_2i, ↓x4_2r, ↓x1_2, ↓x32_3, ↓x2_0, ↓f5_2, ↓lf_X8_isIn, ↓x31_0, ↓x31b0, ↓x1_1, ↓x32_0, ↓f5_0, ↓x32_5, ↓x7_2n, ↓x7_2i, ↓x7_2r, ↓x33, ↓x48_0, ↓l_2, ↓l_3, ↓l_4, ↓l_5, ↓l_6, ↓l_7, ↓l_9, ↓l_10, ↓l_11, ↓l_12, ↓l_13, ↓l_15, ↓l_16, ↓l_r1, ↓l_r2, ↓l_w1, ↓l_w2, and_self, and_true, true_and, implies_true, true_implies, Int.reduceEq, Int.reduceLE, Int.reduceLT, not_true_eq_false, not_false_eq_true, false_implies, RTf_eq, ← es]
    exact ⟨fun _ => hr, fun q => absurd (by omega) q⟩
  · intro k hk ih
    have hg := grF_rng (bs s) (M (18 + 3 * r)) k
    have h1 := hv k (by omega) (by omega)
    have e : grF (bs s) (M (18 + 3 * r)) (k + 1) = if bs s (k : Int) = true ∧ (grF (bs s) (M (18 + 3 * r)) k = -9 ∨ M (18 + 3 * r) (grF (bs s) (M (18 + 3 * r)) k) < M (18 + 3 * r) (k : Int)) then (k : Int) else grF (bs s) (M (18 + 3 * r)) k := rfl
    obtain ⟨b, hb⟩ : ∃ b, b = grF (bs s) (M (18 + 3 * r)) k := ⟨_, rfl⟩
    rw [e] at ih
    rw [← hb] at hg ih ⊢
    have h2 : ¬ b = -9 → rg (M (18 + 3 * r) b) := fun q => by
      rcases hg with h | h
      · exact absurd h q
      · exact hv b h.1 (by omega)
    refine q_X5_greatest_5 400 (lfok E (by omega)) ?_
    simp +contextual (disch := first | omega | exact Nat.le_of_ble_eq_true rfl | assumption) only [↓r_X5_greatest_0, ↓r_X5_greatest_2, ↓r_X5_greatest_3, ↓r_X5_greatest_4, ↓r_X5_greatest_5, ↓r_X5_greatest_6, ↓r_X5_greatest_8, ↓r_X5_greatest_11, ↓r_X5_greatest_12, ↓r_X5_greatest_15, ↓r_X5_greatest_16, ↓r_X5_greatest_19, ↓r_X5_greatest_22, ↓r_X5_greatest_23, ↓r_X5_greatest_25, ↓r_X5_greatest_28, ↓r_X5_greatest_29, ↓r_X5_greatest_32, ↓r_X5_greatest_33, ↓r_X5_greatest_34, ↓r_X5_greatest_35, ↓r_X5_greatest_38, ↓r_X5_greatest_39, ↓r_X5_greatest_40, ↓r_X5_greatest_43, ↓r_X5_greatest_44, ↓r_X5_greatest_45, ↓r_X5_greatest_48, ↓r_X5_greatest_51, ↓r_X5_greatest_52, ↓x0, ↓x4_1n, ↓x4_1i, ↓x4_1r, ↓x4_2n, ↓x4_2i, ↓x4_2r, ↓x1_2, ↓x32_3, ↓x2_0, ↓f5_2, ↓lf_X8_isIn, ↓x31_0, ↓x31b0, ↓x1_1, ↓x32_0, ↓f5_0, ↓x32_5, ↓x7_2n, ↓x7_2i, ↓x7_2r, ↓x33, ↓x48_0, ↓l_2, ↓l_3, ↓l_4, ↓l_5, ↓l_6, ↓l_7, ↓l_9, ↓l_10, ↓l_11, ↓l_12, ↓l_13, ↓l_15, ↓l_16, ↓l_r1, ↓l_r2, ↓l_w1, ↓l_w2, and_self, and_true, true_and, implies_true, true_implies, Int.reduceEq, Int.reduceLE, Int.reduceLT, not_true_eq_false, not_false_eq_true, false_implies, RTf_eq, ← es]
    refine ⟨fun q => by omega, fun _ => ⟨fun q => ?_, fun q => ⟨fun q2 => ?_, fun q2 => ?_⟩⟩⟩
    · rw [if_neg (fun c => q c.1)] at ih
      exact ih
    · rw [if_pos ⟨q, Or.inl q2⟩] at ih
      exact ih
    · have h3 := h2 q2
      have h4 : 0 ≤ b ∧ b < 8 := by rcases hg with h | h; exact absurd h q2; omega
      refine ⟨fun q3 => ?_, fun q3 => ?_⟩
      · rw [if_neg (fun c => by rcases c.2 with c | c; exact q2 c; omega)] at ih
        exact ih
      · rw [if_pos ⟨q, Or.inr (by omega)⟩] at ih
        exact ih
theorem c_greatest5 {r : Int} (hr0 : 0 ≤ r ∧ r < 64) (hs : 0 ≤ M (17 + 3 * r) 2 ∧ M (17 + 3 * r) 2 < 256) (hv : ∀ k, 0 ≤ k → k < 8 → rg (M (18 + 3 * r) k)) : Ctr E 2 22 [vr (17 + 3 * r)] (toAH S M) (some (vi (grF (bs (M (17 + 3 * r) 2)) (M (18 + 3 * r)) 8))) (toAH S M) := by
  refine Ctr_f mi_X5_greatest mo_X5_greatest (Nat.le_of_ble_eq_true rfl) ⟨Nat.le_refl _, Nat.le_refl _⟩ (fun g lm => ?_)
  rw [show entL mi_X5_greatest.2.2.1 [vr (17 + 3 * r)] = [some (vr (17 + 3 * r)), none, none] from rfl]
  refine e_X5_greatest 400 (lfok E (by omega)) ?_
  simp +contextual (disch := first | omega | exact Nat.le_of_ble_eq_true rfl | assumption) only [↓r_X5_greatest_0, ↓r_X5_greatest_2, ↓r_X5_greatest_3, ↓r_X5_greatest_4, ↓r_X5_greatest_5, ↓r_X5_greatest_6, ↓r_X5_greatest_8, ↓r_X5_greatest_11, ↓r_X5_greatest_12, ↓r_X5_greatest_15, ↓r_X5_greatest_16, ↓r_X5_greatest_19, ↓r_X5_greatest_22, ↓r_X5_greatest_23, ↓r_X5_greatest_25, ↓r_X5_greatest_28, ↓r_X5_greatest_29, ↓r_X5_greatest_32, ↓r_X5_greatest_33, ↓r_X5_greatest_34, ↓r_X5_greatest_35, ↓r_X5_greatest_38, ↓r_X5_greatest_39, ↓r_X5_greatest_40, ↓r_X5_greatest_43, ↓r_X5_greatest_44, ↓r_X5_greatest_45, ↓r_X5_greatest_48, ↓r_X5_greatest_51, ↓r_X5_greatest_52, ↓x0, ↓x4_1n, ↓x4_1i, ↓x4_1r, ↓x4_2n, ↓x4_2i, ↓x4_2r, ↓x1_2, ↓x32_3, ↓x2_0, ↓f5_2, ↓lf_X8_isIn, ↓x31_0, ↓x31b0, ↓x1_1, ↓x32_0, ↓f5_0, ↓x32_5, ↓x7_2n, ↓x7_2i, ↓x7_2r, ↓x33, ↓x48_0, ↓l_2, ↓l_3, ↓l_4, ↓l_5, ↓l_6, ↓l_7, ↓l_9, ↓l_10, ↓l_11, ↓l_12, ↓l_13, ↓l_15, ↓l_16, ↓l_r1, ↓l_r2, ↓l_w1, ↓l_w2, and_self, and_true, true_and, implies_true, true_implies, Int.reduceEq, Int.reduceLE, Int.reduceLT, not_true_eq_false, not_false_eq_true, false_implies, RTf_eq]
  exact l_greatest5 hr0 rfl hs hv ⟨rfl, rfl⟩ 0 (by omega)
theorem l_leastBelow {g : GT} {lm : Nat × Nat} {RT : RTy} {r s fl : Int} (hr0 : 0 ≤ r ∧ r < 64) (es : s = M (17 + 3 * r) 2) (hs : 0 ≤ s ∧ s < 256) (hv : ∀ k, 0 ≤ k → k < 8 → rg (M (18 + 3 * r) k)) (hf : rg fl) :
    ∀ k : Nat, k ≤ 8 → RT (some (vi (loF (bs s) (M (18 + 3 * r)) fl (8 - k)))) (toAH S M) → G E g mi_X5_leastBelow 2 lm RT 2 [some (vr (17 + 3 * r)), some (vi fl), some (vi (k : Int))] [] (toAH S M) := by
  refine down ?_ ?_
  · intro hr
    refine q_X5_leastBelow_2 400 (lfok E (by omega)) ?_
    simp +contextual (disch := first | omega | exact Nat.le_of_ble_eq_true rfl | assumption) only [↓r_X5_leastBelow_0, ↓r_X5_leastBelow_1, ↓r_X5_leastBelow_2, ↓r_X5_leastBelow_3, ↓r_X5_leastBelow_5, ↓r_X5_leastBelow_8, ↓r_X5_leastBelow_9, ↓r_X5_leastBelow_12, ↓r_X5_leastBelow_13, ↓r_X5_leastBelow_16, ↓r_X5_leastBelow_19, ↓r_X5_leastBelow_20, ↓r_X5_leastBelow_23, ↓r_X5_leastBelow_24, ↓r_X5_leastBelow_25, ↓r_X5_leastBelow_26, ↓r_X5_leastBelow_29, ↓r_X5_leastBelow_30, ↓r_X5_leastBelow_31, ↓r_X5_leastBelow_34, ↓r_X5_leastBelow_37, ↓r_X5_leastBelow_39, ↓x0, ↓x4_2n, ↓x4_2i, ↓x4_2r, ↓x1_2, ↓x32_3, ↓x2_0, ↓f5_2, ↓lf_X8_isIn, ↓x31_0, ↓x31b0, ↓f5_0, ↓x1_1, ↓x48_0, ↓x7_2n, ↓x7_2i, ↓x7_2r, ↓x33, ↓l_2, ↓l_3, ↓l_4, ↓l_5, ↓l_6, ↓l_7, ↓l_9, ↓l_10, ↓l_11, ↓l_12, ↓l_13, ↓l_15, ↓l_16, ↓l_r1, ↓l_r2, ↓l_w1, ↓l_w2, and_self, and_true, true_and, implies_true, true_implies, Int.reduceEq, Int.reduceLE, Int.reduceLT, not_true_eq_false, not_false_eq_true, false_implies, RTf_eq, ← es]
    exact ⟨fun _ => hr, fun q => absurd (by omega) q⟩
  · intro k hk ih hr
    have h1 := hv k (by omega) (by omega)
    have e : loF (bs s) (M (18 + 3 * r)) fl (8 - k) = if bs s (k : Int) = true ∧ M (18 + 3 * r) (k : Int) < fl then (k : Int) else loF (bs s) (M (18 + 3 * r)) fl (8 - (k + 1)) := by
      rw [show 8 - k = (8 - (k + 1)) + 1 by omega]
      show (if _ then _ else _) = _
      rw [show (7 : Int) - ((8 - (k + 1) : Nat) : Int) = k by omega]
    rw [e] at hr
    refine q_X5_leastBelow_2 400 (lfok E (by omega)) ?_
    simp +contextual (disch := first | omega | exact Nat.le_of_ble_eq_true rfl | assumption) only [↓r_X5_leastBelow_0, ↓r_X5_leastBelow_1, ↓r_X5_leastBelow_2, ↓r_X5_leastBelow_3, ↓r_X5_leastBelow_5, ↓r_X5_leastBelow_8, ↓r_X5_leastBelow_9, ↓r_X5_leastBelow_12, ↓r_X5_leastBelow_13, ↓r_X5_leastBelow_16, ↓r_X5_leastBelow_19, ↓r_X5_leastBelow_20, ↓r_X5_leastBelow_23, ↓r_X5_leastBelow_24, ↓r_X5_leastBelow_25, ↓r_X5_leastBelow_26, ↓r_X5_leastBelow_29, ↓r_X5_leastBelow_30, ↓r_X5_leastBelow_31, ↓r_X5_leastBelow_34, ↓r_X5_leastBelow_37, ↓r_X5_leastBelow_39, ↓x0, ↓x4_2n, ↓x4_2i, ↓x4_2r, ↓x1_2, ↓x32_3, ↓x2_0, ↓f5_2, ↓lf_X8_isIn, ↓x31_0, ↓x31b0, ↓f5_0, ↓x1_1, ↓x48_0, ↓x7_2n, ↓x7_2i, ↓x7_2r, ↓x33, ↓l_2, ↓l_3, ↓l_4, ↓l_5, ↓l_6, ↓l_7, ↓l_9, ↓l_10, ↓l_11, ↓l_12, ↓l_13, ↓l_15, ↓l_16, ↓l_r1, ↓l_r2, ↓l_w1, ↓l_w2, and_self, and_true, true_and, implies_true, true_implies, Int.reduceEq, Int.reduceLE, Int.reduceLT, not_true_eq_false, not_false_eq_true, false_implies, RTf_eq, ← es]
    refine ⟨fun q => by omega, fun _ => ⟨fun q => ?_, fun q => ⟨fun q2 => ?_, fun q2 => ?_⟩⟩⟩
    · rw [if_neg (fun c => q c.1)] at hr
      exact ih hr
    · rw [if_neg (fun c => by omega)] at hr
      exact ih hr
    · rw [if_pos ⟨q, by omega⟩] at hr
      exact hr
theorem c_leastBelow {r fl : Int} (hr0 : 0 ≤ r ∧ r < 64) (hs : 0 ≤ M (17 + 3 * r) 2 ∧ M (17 + 3 * r) 2 < 256) (hv : ∀ k, 0 ≤ k → k < 8 → rg (M (18 + 3 * r) k)) (hf : rg fl) : Ctr E 2 23 [vr (17 + 3 * r), vi fl] (toAH S M) (some (vi (loF (bs (M (17 + 3 * r) 2)) (M (18 + 3 * r)) fl 8))) (toAH S M) := by
  refine Ctr_f mi_X5_leastBelow mo_X5_leastBelow (Nat.le_of_ble_eq_true rfl) ⟨Nat.le_refl _, Nat.le_refl _⟩ (fun g lm => ?_)
  rw [show entL mi_X5_leastBelow.2.2.1 [vr (17 + 3 * r), vi fl] = [some (vr (17 + 3 * r)), some (vi fl), none] from rfl]
  refine e_X5_leastBelow 400 (lfok E (by omega)) ?_
  simp +contextual (disch := first | omega | exact Nat.le_of_ble_eq_true rfl | assumption) only [↓r_X5_leastBelow_0, ↓r_X5_leastBelow_1, ↓r_X5_leastBelow_2, ↓r_X5_leastBelow_3, ↓r_X5_leastBelow_5, ↓r_X5_leastBelow_8, ↓r_X5_leastBelow_9, ↓r_X5_leastBelow_12, ↓r_X5_leastBelow_13, ↓r_X5_leastBelow_16, ↓r_X5_leastBelow_19, ↓r_X5_leastBelow_20, ↓r_X5_leastBelow_23, ↓r_X5_leastBelow_24, ↓r_X5_leastBelow_25, ↓r_X5_leastBelow_26, ↓r_X5_leastBelow_29, ↓r_X5_leastBelow_30, ↓r_X5_leastBelow_31, ↓r_X5_leastBelow_34, ↓r_X5_leastBelow_37, ↓r_X5_leastBelow_39, ↓x0, ↓x4_2n, ↓x4_2i, ↓x4_2r, ↓x1_2, ↓x32_3, ↓x2_0, ↓f5_2, ↓lf_X8_isIn, ↓x31_0, ↓x31b0, ↓f5_0, ↓x1_1, ↓x48_0, ↓x7_2n, ↓x7_2i, ↓x7_2r, ↓x33, ↓l_2, ↓l_3, ↓l_4, ↓l_5, ↓l_6, ↓l_7, ↓l_9, ↓l_10, ↓l_11, ↓l_12, ↓l_13, ↓l_15, ↓l_16, ↓l_r1, ↓l_r2, ↓l_w1, ↓l_w2, and_self, and_true, true_and, implies_true, true_implies, Int.reduceEq, Int.reduceLE, Int.reduceLT, not_true_eq_false, not_false_eq_true, false_implies, RTf_eq]
  exact l_leastBelow hr0 rfl hs hv hf 0 (by omega) ⟨rfl, rfl⟩
theorem l_greatest9 {g : GT} {lm : Nat × Nat} {RT : RTy} {i row : Int} {v : Vec} (ev : v = getv M 254 row) (hi : 0 ≤ i ∧ i < 8) (hrow : 0 ≤ row ∧ row + 8 ≤ 512) (hM : ∀ z, 0 ≤ z → z < 64 → rg (M 253 z)) (hv : ∀ k, 0 ≤ k → k < 8 → rg (M 254 (row + k))) (hr : RT (some (vi (grF (nbm M i) v 8))) (toAH S M)) :
    ∀ k : Nat, k ≤ 8 → ∀ u : Option AV, (u = none ∨ ∃ z, u = some (vi z)) → G E g mi_X9_greatest 2 lm RT 6 [some (vr 248), some (vi i), some (vi row), some (vi (grF (nbm M i) v k)), some (vi (k : Int)), u] [] (toAH S M) := by
  refine down ?_ ?_
  · intro u hu
    have hg := grF_rng (nbm M i) v 8
    refine q_X9_greatest_6 400 (lfok E (by omega)) ?_
    simp +contextual (disch := first | omega | exact Nat.le_of_ble_eq_true rfl | assumption) only [↓r_X9_greatest_0, ↓r_X9_greatest_2, ↓r_X9_greatest_3, ↓r_X9_greatest_4, ↓r_X9_greatest_6, ↓r_X9_greatest_8, ↓r_X9_greatest_10, ↓r_X9_greatest_13, ↓r_X9_greatest_14, ↓r_X9_greatest_15, ↓r_X9_greatest_17, ↓r_X9_greatest_20, ↓r_X9_greatest_23, ↓r_X9_greatest_24, ↓r_X9_greatest_26, ↓r_X9_greatest_29, ↓r_X9_greatest_30, ↓r_X9_greatest_33, ↓r_X9_greatest_34, ↓r_X9_greatest_36, ↓r_X9_greatest_37, ↓r_X9_greatest_38, ↓r_X9_greatest_39, ↓r_X9_greatest_42, ↓r_X9_greatest_43, ↓r_X9_greatest_44, ↓r_X9_greatest_45, ↓r_X9_greatest_46, ↓r_X9_greatest_49, ↓r_X9_greatest_50, ↓r_X9_greatest_53, ↓r_X9_greatest_54, ↓r_X9_greatest_56, ↓r_X9_greatest_58, ↓r_X9_greatest_61, ↓r_X9_greatest_63, ↓r_X9_greatest_66, ↓r_X9_greatest_67, ↓r_X9_greatest_68, ↓r_X9_greatest_71, ↓r_X9_greatest_74, ↓r_X9_greatest_75, ↓x0, ↓x4_3n, ↓x4_3i, ↓x4_3r, ↓x4_4n, ↓x4_4i, ↓x4_4r, ↓x1_4, ↓x32_3, ↓x2_0, ↓x1_1, ↓lf_X9_isNext, ↓x31_0, ↓x31b0, ↓x1_3, ↓x32_0, ↓f9_5, ↓x1_2, ↓x8, ↓x32_5, ↓x33, ↓x4_5n, ↓x4_5i, ↓x4_5r, ↓x1_5, ↓x7_4n, ↓x7_4i, ↓x7_4r, ↓x48_0, ↓l_249, ↓l_250, ↓l_251, ↓l_252, ↓l_253, ↓l_254, ↓l_255, ↓l_256, ↓l_257, ↓l_258, ↓l_259, ↓l_260, ↓l_261, ↓l_262, ↓l_263, ↓l_264, ↓l_265, ↓l_266, ↓l_267, ↓l_268, ↓l_269, ↓l_270, ↓l_271, ↓l_272, ↓l_273, ↓l_274, and_self, and_true, true_and, implies_true, true_implies, Int.reduceEq, Int.reduceLE, Int.reduceLT, not_true_eq_false, not_false_eq_true, false_implies, RTf_eq]
    exact ⟨fun _ => hr, fun q => absurd (by omega) q⟩
  · intro k hk ih u hu
    have hg := grF_rng (nbm M i) v k
    have h0 := hM (8 * i + k) (by omega) (by omega)
    have h1 := hv k (by omega) (by omega)
    have e : grF (nbm M i) v (k + 1) = if nbm M i (k : Int) = true ∧ (grF (nbm M i) v k = -9 ∨ v (grF (nbm M i) v k) < v (k : Int)) then (k : Int) else grF (nbm M i) v k := rfl
    obtain ⟨b, hb⟩ : ∃ b, b = grF (nbm M i) v k := ⟨_, rfl⟩
    rw [e] at ih
    rw [← hb] at hg ih ⊢
    have hvk : v (k : Int) = M 254 (row + k) := by rw [ev]; rfl
    have hvb : v b = M 254 (row + b) := by rw [ev]; rfl
    have hnk : nbm M i (k : Int) = decide (¬ M 253 (8 * i + k) = -9) := rfl
    have h2 : ¬ b = -9 → rg (M 254 (row + b)) := fun q => by
      rcases hg with h | h
      · exact absurd h q
      · exact hv b h.1 (by omega)
    have hno : ¬ (nbm M i (k : Int) = true ∧ (b = -9 ∨ v b < v (k : Int))) → ∀ u : Option AV, (u = none ∨ ∃ z, u = some (vi z)) → G E g mi_X9_greatest 2 lm RT 6 [some (vr 248), some (vi i), some (vi row), some (vi b), some (vi ((k : Int) + 1)), u] [] (toAH S M) := fun q u hu => by
      rw [if_neg q] at ih
      exact ih u hu
    have hye : (nbm M i (k : Int) = true ∧ (b = -9 ∨ v b < v (k : Int))) → ∀ u : Option AV, (u = none ∨ ∃ z, u = some (vi z)) → G E g mi_X9_greatest 2 lm RT 6 [some (vr 248), some (vi i), some (vi row), some (vi (k : Int)), some (vi ((k : Int) + 1)), u] [] (toAH S M) := fun q u hu => by
      rw [if_pos q] at ih
      exact ih u hu
    refine q_X9_greatest_6 400 (lfok E (by omega)) ?_
    simp +contextual (disch := first | omega | exact Nat.le_of_ble_eq_true rfl | assumption) only [↓r_X9_greatest_0, ↓r_X9_greatest_2, ↓r_X9_greatest_3, ↓r_X9_greatest_4, ↓r_X9_greatest_6, ↓r_X9_greatest_8, ↓r_X9_greatest_10, ↓r_X9_greatest_13, ↓r_X9_greatest_14, ↓r_X9_greatest_15, ↓r_X9_greatest_17, ↓r_X9_greatest_20, ↓r_X9_greatest_23, ↓r_X9_greatest_24, ↓r_X9_greatest_26, ↓r_X9_greatest_29, ↓r_X9_greatest_30, ↓r_X9_greatest_33, ↓r_X9_greatest_34, ↓r_X9_greatest_36, ↓r_X9_greatest_37, ↓r_X9_greatest_38, ↓r_X9_greatest_39, ↓r_X9_greatest_42, ↓r_X9_greatest_43, ↓r_X9_greatest_44, ↓r_X9_greatest_45, ↓r_X9_greatest_46, ↓r_X9_greatest_49, ↓r_X9_greatest_50, ↓r_X9_greatest_53, ↓r_X9_greatest_54, ↓r_X9_greatest_56, ↓r_X9_greatest_58, ↓r_X9_greatest_61, ↓r_X9_greatest_63, ↓r_X9_greatest_66, ↓r_X9_greatest_67, ↓r_X9_greatest_68, ↓r_X9_greatest_71, ↓r_X9_greatest_74, ↓r_X9_greatest_75, ↓x0, ↓x4_3n, ↓x4_3i, ↓x4_3r, ↓x4_4n, ↓x4_4i, ↓x4_4r, ↓x1_4, ↓x32_3, ↓x2_0, ↓x1_1, ↓lf_X9_isNext, ↓x31_0, ↓x31b0, ↓x1_3, ↓x32_0, ↓f9_5, ↓x1_2, ↓x8, ↓x32_5, ↓x33, ↓x4_5n, ↓x4_5i, ↓x4_5r, ↓x1_5, ↓x7_4n, ↓x7_4i, ↓x7_4r, ↓x48_0, ↓l_249, ↓l_250, ↓l_251, ↓l_252, ↓l_253, ↓l_254, ↓l_255, ↓l_256, ↓l_257, ↓l_258, ↓l_259, ↓l_260, ↓l_261, ↓l_262, ↓l_263, ↓l_264, ↓l_265, ↓l_266, ↓l_267, ↓l_268, ↓l_269, ↓l_270, ↓l_271, ↓l_272, ↓l_273, ↓l_274, and_self, and_true, true_and, implies_true, true_implies, Int.reduceEq, Int.reduceLE, Int.reduceLT, not_true_eq_false, not_false_eq_true, false_implies, RTf_eq]
    refine ⟨fun q => by omega, fun _ => ⟨fun q => ?_, fun q => ⟨fun q2 => ?_, fun q2 => ?_⟩⟩⟩
    · exact hno (fun c => by rw [hnk] at c; simp at c q; exact c.1 q) _ (Or.inr ⟨_, rfl⟩)
    · exact hye ⟨by rw [hnk]; simpa using q, Or.inl q2⟩ _ (Or.inr ⟨_, rfl⟩)
    · refine ⟨fun q3 => ?_, fun q3 => ?_⟩
      · exact hno (fun c => by rcases c.2 with c | c; exact q2 c; omega) _ (Or.inr ⟨_, rfl⟩)
      · exact hye ⟨by rw [hnk]; simpa using q, Or.inr (by omega)⟩ _ (Or.inr ⟨_, rfl⟩)
theorem c_greatest9 {i row : Int} (hi : 0 ≤ i ∧ i < 8) (hrow : 0 ≤ row ∧ row + 8 ≤ 512) (hM : ∀ z, 0 ≤ z → z < 64 → rg (M 253 z)) (hv : ∀ k, 0 ≤ k → k < 8 → rg (M 254 (row + k))) : Ctr E 2 110 [vr 248, vi i, vi row] (toAH S M) (some (vi (grF (nbm M i) (getv M 254 row) 8))) (toAH S M) := by
  refine Ctr_f mi_X9_greatest mo_X9_greatest (Nat.le_of_ble_eq_true rfl) ⟨Nat.le_refl _, Nat.le_refl _⟩ (fun g lm => ?_)
  rw [show entL mi_X9_greatest.2.2.1 [vr 248, vi i, vi row] = [some (vr 248), some (vi i), some (vi row), none, none, none] from rfl]
  refine e_X9_greatest 400 (lfok E (by omega)) ?_
  simp +contextual (disch := first | omega | exact Nat.le_of_ble_eq_true rfl | assumption) only [↓r_X9_greatest_0, ↓r_X9_greatest_2, ↓r_X9_greatest_3, ↓r_X9_greatest_4, ↓r_X9_greatest_6, ↓r_X9_greatest_8, ↓r_X9_greatest_10, ↓r_X9_greatest_13, ↓r_X9_greatest_14, ↓r_X9_greatest_15, ↓r_X9_greatest_17, ↓r_X9_greatest_20, ↓r_X9_greatest_23, ↓r_X9_greatest_24, ↓r_X9_greatest_26, ↓r_X9_greatest_29, ↓r_X9_greatest_30, ↓r_X9_greatest_33, ↓r_X9_greatest_34, ↓r_X9_greatest_36, ↓r_X9_greatest_37, ↓r_X9_greatest_38, ↓r_X9_greatest_39, ↓r_X9_greatest_42, ↓r_X9_greatest_43, ↓r_X9_greatest_44, ↓r_X9_greatest_45, ↓r_X9_greatest_46, ↓r_X9_greatest_49, ↓r_X9_greatest_50, ↓r_X9_greatest_53, ↓r_X9_greatest_54, ↓r_X9_greatest_56, ↓r_X9_greatest_58, ↓r_X9_greatest_61, ↓r_X9_greatest_63, ↓r_X9_greatest_66, ↓r_X9_greatest_67, ↓r_X9_greatest_68, ↓r_X9_greatest_71, ↓r_X9_greatest_74, ↓r_X9_greatest_75, ↓x0, ↓x4_3n, ↓x4_3i, ↓x4_3r, ↓x4_4n, ↓x4_4i, ↓x4_4r, ↓x1_4, ↓x32_3, ↓x2_0, ↓x1_1, ↓lf_X9_isNext, ↓x31_0, ↓x31b0, ↓x1_3, ↓x32_0, ↓f9_5, ↓x1_2, ↓x8, ↓x32_5, ↓x33, ↓x4_5n, ↓x4_5i, ↓x4_5r, ↓x1_5, ↓x7_4n, ↓x7_4i, ↓x7_4r, ↓x48_0, ↓l_249, ↓l_250, ↓l_251, ↓l_252, ↓l_253, ↓l_254, ↓l_255, ↓l_256, ↓l_257, ↓l_258, ↓l_259, ↓l_260, ↓l_261, ↓l_262, ↓l_263, ↓l_264, ↓l_265, ↓l_266, ↓l_267, ↓l_268, ↓l_269, ↓l_270, ↓l_271, ↓l_272, ↓l_273, ↓l_274, and_self, and_true, true_and, implies_true, true_implies, Int.reduceEq, Int.reduceLE, Int.reduceLT, not_true_eq_false, not_false_eq_true, false_implies, RTf_eq]
  exact l_greatest9 rfl hi hrow hM hv ⟨rfl, rfl⟩ 0 (by omega) none (Or.inl rfl)
theorem l_lowest {g : GT} {lm : Nat × Nat} {RT : RTy} {i row : Int} {v : Vec} (ev : v = getv M 254 row) (hi : 0 ≤ i ∧ i < 8) (hrow : 0 ≤ row ∧ row + 8 ≤ 512) (hM : ∀ z, 0 ≤ z → z < 64 → rg (M 253 z)) (hv : ∀ k, 0 ≤ k → k < 8 → rg (M 254 (row + k))) (hf : rg (M 248 6)) :
    ∀ k : Nat, k ≤ 8 → RT (some (vi (loF (nbm M i) v (M 248 6) (8 - k)))) (toAH S M) → G E g mi_X9_lowest 2 lm RT 2 [some (vr 248), some (vi i), some (vi row), some (vi (k : Int))] [] (toAH S M) := by
  refine down ?_ ?_
  · intro hr
    refine q_X9_lowest_2 400 (lfok E (by omega)) ?_
    simp +contextual (disch := first | omega | exact Nat.le_of_ble_eq_true rfl | assumption) only [↓r_X9_lowest_0, ↓r_X9_lowest_1, ↓r_X9_lowest_2, ↓r_X9_lowest_3, ↓r_X9_lowest_5, ↓r_X9_lowest_8, ↓r_X9_lowest_9, ↓r_X9_lowest_10, ↓r_X9_lowest_11, ↓r_X9_lowest_14, ↓r_X9_lowest_17, ↓r_X9_lowest_18, ↓r_X9_lowest_21, ↓r_X9_lowest_22, ↓r_X9_lowest_23, ↓r_X9_lowest_24, ↓r_X9_lowest_25, ↓r_X9_lowest_26, ↓r_X9_lowest_29, ↓r_X9_lowest_32, ↓r_X9_lowest_33, ↓r_X9_lowest_34, ↓r_X9_lowest_37, ↓r_X9_lowest_40, ↓r_X9_lowest_42, ↓x0, ↓x4_3n, ↓x4_3i, ↓x4_3r, ↓x1_3, ↓x32_3, ↓x2_0, ↓x1_1, ↓lf_X9_isNext, ↓x31_0, ↓x31b0, ↓f9_5, ↓x1_2, ↓x8, ↓f9_6, ↓x48_0, ↓x7_3n, ↓x7_3i, ↓x7_3r, ↓x33, ↓l_249, ↓l_250, ↓l_251, ↓l_252, ↓l_253, ↓l_254, ↓l_255, ↓l_256, ↓l_257, ↓l_258, ↓l_259, ↓l_260, ↓l_261, ↓l_262, ↓l_263, ↓l_264, ↓l_265, ↓l_266, ↓l_267, ↓l_268, ↓l_269, ↓l_270, ↓l_271, ↓l_272, ↓l_273, ↓l_274, and_self, and_true, true_and, implies_true, true_implies, Int.reduceEq, Int.reduceLE, Int.reduceLT, not_true_eq_false, not_false_eq_true, false_implies, RTf_eq]
    exact ⟨fun _ => hr, fun q => absurd (by omega) q⟩
  · intro k hk ih hr
    have h0 := hM (8 * i + k) (by omega) (by omega)
    have h1 := hv k (by omega) (by omega)
    have hnk : nbm M i (k : Int) = decide (¬ M 253 (8 * i + k) = -9) := rfl
    have hvk : v (k : Int) = M 254 (row + k) := by rw [ev]; rfl
    have e : loF (nbm M i) v (M 248 6) (8 - k) = if nbm M i (k : Int) = true ∧ v (k : Int) < M 248 6 then (k : Int) else loF (nbm M i) v (M 248 6) (8 - (k + 1)) := by
      rw [show 8 - k = (8 - (k + 1)) + 1 by omega]
      show (if _ then _ else _) = _
      rw [show (7 : Int) - ((8 - (k + 1) : Nat) : Int) = k by omega]
    rw [e] at hr
    refine q_X9_lowest_2 400 (lfok E (by omega)) ?_
    simp +contextual (disch := first | omega | exact Nat.le_of_ble_eq_true rfl | assumption) only [↓r_X9_lowest_0, ↓r_X9_lowest_1, ↓r_X9_lowest_2, ↓r_X9_lowest_3, ↓r_X9_lowest_5, ↓r_X9_lowest_8, ↓r_X9_lowest_9, ↓r_X9_lowest_10, ↓r_X9_lowest_11, ↓r_X9_lowest_14, ↓r_X9_lowest_17, ↓r_X9_lowest_18, ↓r_X9_lowest_21, ↓r_X9_lowest_22, ↓r_X9_lowest_23, ↓r_X9_lowest_24, ↓r_X9_lowest_25, ↓r_X9_lowest_26, ↓r_X9_lowest_29, ↓r_X9_lowest_32, ↓r_X9_lowest_33, ↓r_X9_lowest_34, ↓r_X9_lowest_37, ↓r_X9_lowest_40, ↓r_X9_lowest_42, ↓x0, ↓x4_3n, ↓x4_3i, ↓x4_3r, ↓x1_3, ↓x32_3, ↓x2_0, ↓x1_1, ↓lf_X9_isNext, ↓x31_0, ↓x31b0, ↓f9_5, ↓x1_2, ↓x8, ↓f9_6, ↓x48_0, ↓x7_3n, ↓x7_3i, ↓x7_3r, ↓x33, ↓l_249, ↓l_250, ↓l_251, ↓l_252, ↓l_253, ↓l_254, ↓l_255, ↓l_256, ↓l_257, ↓l_258, ↓l_259, ↓l_260, ↓l_261, ↓l_262, ↓l_263, ↓l_264, ↓l_265, ↓l_266, ↓l_267, ↓l_268, ↓l_269, ↓l_270, ↓l_271, ↓l_272, ↓l_273, ↓l_274, and_self, and_true, true_and, implies_true, true_implies, Int.reduceEq, Int.reduceLE, Int.reduceLT, not_true_eq_false, not_false_eq_true, false_implies, RTf_eq]
    refine ⟨fun q => by omega, fun _ => ⟨fun q => ?_, fun q => ⟨fun q2 => ?_, fun q2 => ?_⟩⟩⟩
    · rw [if_neg (fun c => by rw [hnk] at c; simp at c q; exact c.1 q)] at hr
      exact ih hr
    · rw [if_neg (fun c => by omega)] at hr
      exact ih hr
    · rw [if_pos ⟨by rw [hnk]; simpa using q, by omega⟩] at hr
      exact hr
theorem c_lowest {i row : Int} (hi : 0 ≤ i ∧ i < 8) (hrow : 0 ≤ row ∧ row + 8 ≤ 512) (hM : ∀ z, 0 ≤ z → z < 64 → rg (M 253 z)) (hv : ∀ k, 0 ≤ k → k < 8 → rg (M 254 (row + k))) (hf : rg (M 248 6)) : Ctr E 2 111 [vr 248, vi i, vi row] (toAH S M) (some (vi (loF (nbm M i) (getv M 254 row) (M 248 6) 8))) (toAH S M) := by
  refine Ctr_f mi_X9_lowest mo_X9_lowest (Nat.le_of_ble_eq_true rfl) ⟨Nat.le_refl _, Nat.le_refl _⟩ (fun g lm => ?_)
  rw [show entL mi_X9_lowest.2.2.1 [vr 248, vi i, vi row] = [some (vr 248), some (vi i), some (vi row), none] from rfl]
  refine e_X9_lowest 400 (lfok E (by omega)) ?_
  simp +contextual (disch := first | omega | exact Nat.le_of_ble_eq_true rfl | assumption) only [↓r_X9_lowest_0, ↓r_X9_lowest_1, ↓r_X9_lowest_2, ↓r_X9_lowest_3, ↓r_X9_lowest_5, ↓r_X9_lowest_8, ↓r_X9_lowest_9, ↓r_X9_lowest_10, ↓r_X9_lowest_11, ↓r_X9_lowest_14, ↓r_X9_lowest_17, ↓r_X9_lowest_18, ↓r_X9_lowest_21, ↓r_X9_lowest_22, ↓r_X9_lowest_23, ↓r_X9_lowest_24, ↓r_X9_lowest_25, ↓r_X9_lowest_26, ↓r_X9_lowest_29, ↓r_X9_lowest_32, ↓r_X9_lowest_33, ↓r_X9_lowest_34, ↓r_X9_lowest_37, ↓r_X9_lowest_40, ↓r_X9_lowest_42, ↓x0, ↓x4_3n, ↓x4_3i, ↓x4_3r, ↓x1_3, ↓x32_3, ↓x2_0, ↓x1_1, ↓lf_X9_isNext, ↓x31_0, ↓x31b0, ↓f9_5, ↓x1_2, ↓x8, ↓f9_6, ↓x48_0, ↓x7_3n, ↓x7_3i, ↓x7_3r, ↓x33, ↓l_249, ↓l_250, ↓l_251, ↓l_252, ↓l_253, ↓l_254, ↓l_255, ↓l_256, ↓l_257, ↓l_258, ↓l_259, ↓l_260, ↓l_261, ↓l_262, ↓l_263, ↓l_264, ↓l_265, ↓l_266, ↓l_267, ↓l_268, ↓l_269, ↓l_270, ↓l_271, ↓l_272, ↓l_273, ↓l_274, and_self, and_true, true_and, implies_true, true_implies, Int.reduceEq, Int.reduceLE, Int.reduceLT, not_true_eq_false, not_false_eq_true, false_implies, RTf_eq]
  exact l_lowest rfl hi hrow hM hv hf 0 (by omega) ⟨rfl, rfl⟩
end
