/-! ===== notes: the last, the sum, a new one ===== -/
def smn (v : Vec) : Nat → Int
  | 0 => 0
  | k + 1 => smn v k + v (k : Int)
theorem smn_congr {v v' : Vec} : ∀ n : Nat, (∀ k, 0 ≤ k → k < (n : Int) → v k = v' k) → smn v n = smn v' n := by
  intro n
  induction n with
  | zero => intro _; rfl
  | succ n ih =>
    intro h
    unfold smn
    rw [ih (fun k h1 h2 => h k h1 (by omega)), h n (by omega) (by omega)]
section
variable {E : ET} {S : SCR} {M : Mem}
theorem c_lastNote {r : Int} (hr0 : 0 ≤ r ∧ r < 64) (hn : 0 ≤ M (17 + 3 * r) 3 ∧ M (17 + 3 * r) 3 ≤ 8) (hx : 0 ≤ M (17 + 3 * r) 4 ∧ M (17 + 3 * r) 4 < 8) : Ctr E 2 29 [vr (17 + 3 * r)] (toAH S M) (some (vi (if M (17 + 3 * r) 3 = 0 then -9 else M (19 + 3 * r) ((M (17 + 3 * r) 4 + 8 - 1) % 8)))) (toAH S M) := by
  refine Ctr_f mi_X5_lastNote mo_X5_lastNote (Nat.le_of_ble_eq_true rfl) ⟨Nat.le_refl _, Nat.le_refl _⟩ (fun g lm => ?_)
  rw [show entL mi_X5_lastNote.2.2.1 [vr (17 + 3 * r)] = [some (vr (17 + 3 * r))] from rfl]
  refine e_X5_lastNote 400 (lfok E (by omega)) ?_
  simp +contextual (disch := first | omega | exact Nat.le_of_ble_eq_true rfl | assumption) only [↓r_X5_lastNote_0, ↓r_X5_lastNote_1, ↓r_X5_lastNote_4, ↓r_X5_lastNote_7, ↓r_X5_lastNote_9, ↓r_X5_lastNote_12, ↓r_X5_lastNote_13, ↓r_X5_lastNote_16, ↓r_X5_lastNote_17, ↓r_X5_lastNote_20, ↓r_X5_lastNote_22, ↓r_X5_lastNote_23, ↓r_X5_lastNote_24, ↓r_X5_lastNote_25, ↓r_X5_lastNote_27, ↓r_X5_lastNote_28, ↓r_X5_lastNote_29, ↓x2_0, ↓f5_3, ↓x31_1, ↓x31b1, ↓x0, ↓x33, ↓f5_1, ↓f5_4, ↓x8, ↓x9, ↓x12, ↓x48_0, ↓l_2, ↓l_3, ↓l_4, ↓l_5, ↓l_6, ↓l_7, ↓l_9, ↓l_10, ↓l_11, ↓l_12, ↓l_13, ↓l_15, ↓l_16, ↓l_r1, ↓l_r2, ↓l_w1, ↓l_w2, and_self, and_true, true_and, implies_true, true_implies, Int.reduceEq, Int.reduceLE, Int.reduceLT, not_true_eq_false, not_false_eq_true, false_implies, RTf_eq]
  refine ⟨fun q => ?_, fun q => ?_⟩
  · rw [if_neg (fun f => f)]
  · rw [if_pos (by omega)]
theorem l_sumOfNotes {g : GT} {lm : Nat × Nat} {RT : RTy} {r : Int} {n : Nat} {v : Vec} (ev : v = M (19 + 3 * r)) (hr0 : 0 ≤ r ∧ r < 64) (hn : M (17 + 3 * r) 3 = (n : Int)) (hn8 : n ≤ 8) (hr : RT (some (vi (smn v n))) (toAH S M)) :
    ∀ k : Nat, k ≤ n → G E g mi_X5_sumOfNotes 2 lm RT 4 [some (vr (17 + 3 * r)), some (vi (smn v k)), some (vi (k : Int))] [] (toAH S M) := by
  refine down ?_ ?_
  · refine q_X5_sumOfNotes_4 400 (lfok E (by omega)) ?_
    simp +contextual (disch := first | omega | exact Nat.le_of_ble_eq_true rfl | assumption) only [↓r_X5_sumOfNotes_0, ↓r_X5_sumOfNotes_1, ↓r_X5_sumOfNotes_2, ↓r_X5_sumOfNotes_3, ↓r_X5_sumOfNotes_4, ↓r_X5_sumOfNotes_5, ↓r_X5_sumOfNotes_6, ↓r_X5_sumOfNotes_9, ↓r_X5_sumOfNotes_12, ↓r_X5_sumOfNotes_13, ↓r_X5_sumOfNotes_14, ↓r_X5_sumOfNotes_17, ↓r_X5_sumOfNotes_18, ↓r_X5_sumOfNotes_19, ↓r_X5_sumOfNotes_20, ↓r_X5_sumOfNotes_21, ↓r_X5_sumOfNotes_24, ↓r_X5_sumOfNotes_27, ↓r_X5_sumOfNotes_28, ↓x0, ↓x4_1n, ↓x4_1i, ↓x4_1r, ↓x4_2n, ↓x4_2i, ↓x4_2r, ↓x1_2, ↓x2_0, ↓f5_3, ↓x32_3, ↓x1_1, ↓f5_1, ↓x8, ↓x7_2n, ↓x7_2i, ↓x7_2r, ↓x33, ↓x48_0, ↓l_2, ↓l_3, ↓l_4, ↓l_5, ↓l_6, ↓l_7, ↓l_9, ↓l_10, ↓l_11, ↓l_12, ↓l_13, ↓l_15, ↓l_16, ↓l_r1, ↓l_r2, ↓l_w1, ↓l_w2, and_self, and_true, true_and, implies_true, true_implies, Int.reduceEq, Int.reduceLE, Int.reduceLT, not_true_eq_false, not_false_eq_true, false_implies, RTf_eq]
    exact ⟨fun _ => hr, fun q => absurd (by omega) q⟩
  · intro k hk ih
    have e : smn v (k + 1) = smn v k + v (k : Int) := rfl
    rw [e] at ih
    have hvk : v (k : Int) = M (19 + 3 * r) k := by rw [ev]
    rw [hvk] at ih
    refine q_X5_sumOfNotes_4 400 (lfok E (by omega)) ?_
    simp +contextual (disch := first | omega | exact Nat.le_of_ble_eq_true rfl | assumption) only [↓r_X5_sumOfNotes_0, ↓r_X5_sumOfNotes_1, ↓r_X5_sumOfNotes_2, ↓r_X5_sumOfNotes_3, ↓r_X5_sumOfNotes_4, ↓r_X5_sumOfNotes_5, ↓r_X5_sumOfNotes_6, ↓r_X5_sumOfNotes_9, ↓r_X5_sumOfNotes_12, ↓r_X5_sumOfNotes_13, ↓r_X5_sumOfNotes_14, ↓r_X5_sumOfNotes_17, ↓r_X5_sumOfNotes_18, ↓r_X5_sumOfNotes_19, ↓r_X5_sumOfNotes_20, ↓r_X5_sumOfNotes_21, ↓r_X5_sumOfNotes_24, ↓r_X5_sumOfNotes_27, ↓r_X5_sumOfNotes_28, ↓x0, ↓x4_1n, ↓x4_1i, ↓x4_1r, ↓x4_2n, ↓x4_2i, ↓x4_2r, ↓x1_2, ↓x2_0, ↓f5_3, ↓x32_3, ↓x1_1, ↓f5_1, ↓x8, ↓x7_2n, ↓x7_2i, ↓x7_2r, ↓x33, ↓x48_0, ↓l_2, ↓l_3, ↓l_4, ↓l_5, ↓l_6, ↓l_7, ↓l_9, ↓l_10, ↓l_11, ↓l_12, ↓l_13, ↓l_15, ↓l_16, ↓l_r1, ↓l_r2, ↓l_w1, ↓l_w2, and_self, and_true, true_and, implies_true, true_implies, Int.reduceEq, Int.reduceLE, Int.reduceLT, not_true_eq_false, not_false_eq_true, false_implies, RTf_eq]
    exact ⟨fun q => by omega, fun _ => ih⟩
theorem c_sumOfNotes {r : Int} {n : Nat} (hr0 : 0 ≤ r ∧ r < 64) (hn : M (17 + 3 * r) 3 = (n : Int)) (hn8 : n ≤ 8) : Ctr E 2 30 [vr (17 + 3 * r)] (toAH S M) (some (vi (smn (M (19 + 3 * r)) n))) (toAH S M) := by
  refine Ctr_f mi_X5_sumOfNotes mo_X5_sumOfNotes (Nat.le_of_ble_eq_true rfl) ⟨Nat.le_refl _, Nat.le_refl _⟩ (fun g lm => ?_)
  rw [show entL mi_X5_sumOfNotes.2.2.1 [vr (17 + 3 * r)] = [some (vr (17 + 3 * r)), none, none] from rfl]
  refine e_X5_sumOfNotes 400 (lfok E (by omega)) ?_
  simp +contextual (disch := first | omega | exact Nat.le_of_ble_eq_true rfl | assumption) only [↓r_X5_sumOfNotes_0, ↓r_X5_sumOfNotes_1, ↓r_X5_sumOfNotes_2, ↓r_X5_sumOfNotes_3, ↓r_X5_sumOfNotes_4, ↓r_X5_sumOfNotes_5, ↓r_X5_sumOfNotes_6, ↓r_X5_sumOfNotes_9, ↓r_X5_sumOfNotes_12, ↓r_X5_sumOfNotes_13, ↓r_X5_sumOfNotes_14, ↓r_X5_sumOfNotes_17, ↓r_X5_sumOfNotes_18, ↓r_X5_sumOfNotes_19, ↓r_X5_sumOfNotes_20, ↓r_X5_sumOfNotes_21, ↓r_X5_sumOfNotes_24, ↓r_X5_sumOfNotes_27, ↓r_X5_sumOfNotes_28, ↓x0, ↓x4_1n, ↓x4_1i, ↓x4_1r, ↓x4_2n, ↓x4_2i, ↓x4_2r, ↓x1_2, ↓x2_0, ↓f5_3, ↓x32_3, ↓x1_1, ↓f5_1, ↓x8, ↓x7_2n, ↓x7_2i, ↓x7_2r, ↓x33, ↓x48_0, ↓l_2, ↓l_3, ↓l_4, ↓l_5, ↓l_6, ↓l_7, ↓l_9, ↓l_10, ↓l_11, ↓l_12, ↓l_13, ↓l_15, ↓l_16, ↓l_r1, ↓l_r2, ↓l_w1, ↓l_w2, and_self, and_true, true_and, implies_true, true_implies, Int.reduceEq, Int.reduceLE, Int.reduceLT, not_true_eq_false, not_false_eq_true, false_implies, RTf_eq]
  exact l_sumOfNotes rfl hr0 hn hn8 ⟨rfl, rfl⟩ 0 (by omega)
theorem c_note5 {r x : Int} (hr0 : 0 ≤ r ∧ r < 64) (hn : 0 ≤ M (17 + 3 * r) 3 ∧ M (17 + 3 * r) 3 ≤ 8) (hx : 0 ≤ M (17 + 3 * r) 4 ∧ M (17 + 3 * r) 4 < 8) : Ctr E 2 27 [vr (17 + 3 * r), vi x] (toAH S M) none (toAH S (up2 (up2 (up2 M (19 + 3 * r) (M (17 + 3 * r) 4) x) (17 + 3 * r) 4 ((M (17 + 3 * r) 4 + 1) % 8)) (17 + 3 * r) 3 (min (M (17 + 3 * r) 3 + 1) 8))) := by
  obtain ⟨N, hN⟩ : ∃ N, N = up2 M (19 + 3 * r) (M (17 + 3 * r) 4) x := ⟨_, rfl⟩
  have e1 : N (17 + 3 * r) 4 = M (17 + 3 * r) 4 := by rw [hN]; exact up2_other (by omega)
  have e2 : up2 N (17 + 3 * r) 4 ((M (17 + 3 * r) 4 + 1) % 8) (17 + 3 * r) 3 = M (17 + 3 * r) 3 := by
    rw [up2_other (by omega), hN]; exact up2_other (by omega)
  refine Ctr_f mi_X5_note mo_X5_note (Nat.le_of_ble_eq_true rfl) ⟨Nat.le_refl _, Nat.le_refl _⟩ (fun g lm => ?_)
  rw [show entL mi_X5_note.2.2.1 [vr (17 + 3 * r), vi x] = [some (vr (17 + 3 * r)), some (vi x)] from rfl]
  refine e_X5_note 400 (lfok E (by omega)) ?_
  simp +contextual (disch := first | omega | exact Nat.le_of_ble_eq_true rfl | assumption) only [↓r_X5_note_0, ↓r_X5_note_1, ↓r_X5_note_4, ↓r_X5_note_5, ↓r_X5_note_8, ↓r_X5_note_9, ↓r_X5_note_10, ↓r_X5_note_11, ↓r_X5_note_12, ↓r_X5_note_15, ↓r_X5_note_16, ↓r_X5_note_17, ↓r_X5_note_19, ↓r_X5_note_20, ↓r_X5_note_23, ↓r_X5_note_24, ↓r_X5_note_25, ↓r_X5_note_28, ↓r_X5_note_29, ↓r_X5_note_30, ↓r_X5_note_32, ↓r_X5_note_35, ↓r_X5_note_38, ↓x2_0, ↓f5_1, ↓f5_4, ↓x1_1, ↓x0, ↓x8, ↓x12, ↓p5_4, ↓f5_3, ↓lf_J9_min_7cf53, ↓p5_3, ↓x48_4, ↓l_2, ↓s_2, ↓l_3, ↓s_3, ↓l_4, ↓s_4, ↓l_5, ↓s_5, ↓l_6, ↓s_6, ↓l_7, ↓l_9, ↓s_9, ↓l_10, ↓s_10, ↓l_11, ↓s_11, ↓l_12, ↓l_13, ↓l_15, ↓s_15, ↓l_16, ↓s_16, ↓l_r1, ↓s_r1, ↓l_r2, ↓s_r2, ↓l_w1, ↓s_w1, ↓l_w2, ↓s_w2, and_self, and_true, true_and, implies_true, true_implies, Int.reduceEq, Int.reduceLE, Int.reduceLT, not_true_eq_false, not_false_eq_true, false_implies, RTf_eq, ← hN, e1, e2]
/-- a row of notes after one more -/
def ntF (v : Vec) (c x : Int) : Vec := fun j => if c = 8 then (if j < 7 then v (j + 1) else x) else if j = c then x else v j
/-- the first k - 1 moved down -/
def ntS (v : Vec) (k : Int) : Vec := fun j => if j < k - 1 then v (j + 1) else v j
theorem ntF8 {v : Vec} {x j : Int} : ntF v 8 x j = if j < 7 then v (j + 1) else x := by unfold ntF; rw [if_pos rfl]
theorem nt_m1 {r x : Int} {v : Vec} : up2 (up2 (up2 (putv M 272 (8 * r) (ntS v (((7 : Nat) : Int) + 1))) 271 r (8 - 1)) 272 (8 * r + (8 - 1)) x) 271 r (8 - 1 + 1) = up2 (putv M 272 (8 * r) (ntF v 8 x)) 271 r 8 := by
  funext a b
  simp only [up2, putv, ntF8, ntS]
  by_cases h1 : a = 271 ∧ b = r
  · rw [if_pos h1, if_pos h1]; rfl
  · rw [if_neg h1, if_neg h1, if_neg h1]
    by_cases h2 : a = 272 ∧ b = 8 * r + (8 - 1)
    · rw [if_pos h2, if_pos ⟨h2.1, by omega, by omega⟩, if_neg (by omega)]
    · rw [if_neg h2]
      by_cases h3 : a = 272 ∧ 8 * r ≤ b ∧ b < 8 * r + 8
      · rw [if_pos h3, if_pos h3, if_pos (by omega), if_pos (by omega)]
      · rw [if_neg h3, if_neg h3]
theorem nt_m2 {r : Int} {v : Vec} {k : Nat} (hk : k < 7) : up2 (putv M 272 (8 * r) (ntS v ((k : Int) + 1))) 272 (8 * r + ((k : Int) + 1) - 1) (putv M 272 (8 * r) (ntS v ((k : Int) + 1)) 272 (8 * r + ((k : Int) + 1))) = putv M 272 (8 * r) (ntS v (((k + 1 : Nat) : Int) + 1)) := by
  rw [putv_at (by omega) (by omega)]
  funext a b
  simp only [up2, putv, ntS]
  by_cases h3 : a = 272 ∧ 8 * r ≤ b ∧ b < 8 * r + 8
  · by_cases h2 : b = 8 * r + k
    · rw [if_pos ⟨h3.1, by omega⟩, if_neg (by omega), if_pos h3, if_pos (by omega)]
      congr 1; omega
    · rw [if_neg (fun c => h2 (by omega)), if_pos h3, if_pos h3]
      by_cases h4 : b - 8 * r < (k : Int) + 1 - 1
      · rw [if_pos h4, if_pos (by omega)]
      · rw [if_neg h4, if_neg (by omega)]
  · rw [if_neg (fun c => h3 ⟨c.1, by omega, by omega⟩), if_neg h3, if_neg h3]
theorem nt_m3 {r c x : Int} (hc : 0 ≤ c ∧ c < 8) : up2 (up2 M 272 (8 * r + c) x) 271 r (c + 1) = up2 (putv M 272 (8 * r) (ntF (getv M 272 (8 * r)) c x)) 271 r (min (c + 1) 8) := by
  rw [show min (c + 1) 8 = c + 1 by omega]
  congr 1
  funext a b
  simp only [up2, putv, ntF, getv]
  by_cases h3 : a = 272 ∧ 8 * r ≤ b ∧ b < 8 * r + 8
  · rw [if_pos h3, if_neg (show ¬ c = 8 by omega)]
    by_cases h2 : b = 8 * r + c
    · rw [if_pos ⟨h3.1, h2⟩, if_pos (by omega)]
    · rw [if_neg (fun c => h2 c.2), if_neg (by omega), h3.1, show 8 * r + (b - 8 * r) = b by omega]
  · rw [if_neg (fun c => h3 ⟨c.1, by omega, by omega⟩), if_neg h3]
theorem l_note9 {g : GT} {lm : Nat × Nat} {RT : RTy} {r x : Int} {v : Vec} (ev : v = getv M 272 (8 * r)) (hr0 : 0 ≤ r ∧ r < 64) (hn : M 271 r = 8) (hr : RT none (toAH S (up2 (putv M 272 (8 * r) (ntF v 8 x)) 271 r 8))) :
    ∀ k : Nat, k ≤ 7 → G E g mi_X9_note 2 lm RT 13 [some (vr 248), some (vi r), some (vi x), some (vi ((k : Int) + 1))] [] (toAH S (putv M 272 (8 * r) (ntS v (k + 1)))) := by
  refine down ?_ ?_
  · obtain ⟨N, hN⟩ : ∃ N, N = putv M 272 (8 * r) (ntS v (((7 : Nat) : Int) + 1)) := ⟨_, rfl⟩
    have e1 : N 271 r = 8 := by rw [hN, putv_ne (by omega), hn]
    have e2 : up2 N 271 r (8 - 1) 271 r = 8 - 1 := up2_same
    have e3 : up2 (up2 N 271 r (8 - 1)) 272 (8 * r + (8 - 1)) x 271 r = 8 - 1 := by rw [up2_other (by omega)]; exact up2_same
    rw [← hN]
    refine q_X9_note_13 400 (lfok E (by omega)) ?_
    simp +contextual (disch := first | omega | exact Nat.le_of_ble_eq_true rfl | assumption) only [↓r_X9_note_0, ↓r_X9_note_1, ↓r_X9_note_4, ↓r_X9_note_5, ↓r_X9_note_6, ↓r_X9_note_8, ↓r_X9_note_11, ↓r_X9_note_12, ↓r_X9_note_13, ↓r_X9_note_14, ↓r_X9_note_16, ↓r_X9_note_19, ↓r_X9_note_20, ↓r_X9_note_23, ↓r_X9_note_25, ↓r_X9_note_26, ↓r_X9_note_27, ↓r_X9_note_28, ↓r_X9_note_29, ↓r_X9_note_30, ↓r_X9_note_31, ↓r_X9_note_32, ↓r_X9_note_35, ↓r_X9_note_37, ↓r_X9_note_38, ↓r_X9_note_39, ↓r_X9_note_40, ↓r_X9_note_41, ↓r_X9_note_42, ↓r_X9_note_43, ↓r_X9_note_46, ↓r_X9_note_49, ↓r_X9_note_50, ↓r_X9_note_53, ↓r_X9_note_54, ↓r_X9_note_55, ↓r_X9_note_56, ↓r_X9_note_57, ↓r_X9_note_58, ↓r_X9_note_59, ↓r_X9_note_60, ↓r_X9_note_63, ↓r_X9_note_65, ↓r_X9_note_66, ↓r_X9_note_67, ↓r_X9_note_68, ↓r_X9_note_71, ↓r_X9_note_72, ↓r_X9_note_73, ↓r_X9_note_74, ↓r_X9_note_75, ↓r_X9_note_76, ↓r_X9_note_77, ↓r_X9_note_80, ↓r_X9_note_81, ↓r_X9_note_82, ↓r_X9_note_83, ↓r_X9_note_84, ↓r_X9_note_85, ↓r_X9_note_86, ↓x2_0, ↓f9_30, ↓x1_1, ↓x0, ↓x32_1, ↓x4_3n, ↓x4_3i, ↓x4_3r, ↓x1_3, ↓x32_3, ↓f9_31, ↓x10, ↓x8, ↓x9, ↓x7_3n, ↓x7_3i, ↓x7_3r, ↓x33, ↓x29, ↓x1_2, ↓x48_4, ↓l_249, ↓s_249, ↓l_250, ↓s_250, ↓l_251, ↓s_251, ↓l_252, ↓s_252, ↓l_253, ↓s_253, ↓l_254, ↓s_254, ↓l_255, ↓s_255, ↓l_256, ↓s_256, ↓l_257, ↓s_257, ↓l_258, ↓s_258, ↓l_259, ↓s_259, ↓l_260, ↓s_260, ↓l_261, ↓s_261, ↓l_262, ↓s_262, ↓l_263, ↓s_263, ↓l_264, ↓s_264, ↓l_265, ↓s_265, ↓l_266, ↓s_266, ↓l_267, ↓s_267, ↓l_268, ↓s_268, ↓l_269, ↓s_269, ↓l_270, ↓s_270, ↓l_271, ↓s_271, ↓l_272, ↓s_272, ↓l_273, ↓s_273, ↓l_274, ↓s_274, and_self, and_true, true_and, implies_true, true_implies, Int.reduceEq, Int.reduceLE, Int.reduceLT, not_true_eq_false, not_false_eq_true, false_implies, RTf_eq, e1, e2, e3]
    refine ⟨fun _ => ?_, fun q => absurd (by omega) q⟩
    rw [hN, nt_m1]
    exact hr
  · intro k hk ih
    obtain ⟨N, hN⟩ : ∃ N, N = putv M 272 (8 * r) (ntS v ((k : Int) + 1)) := ⟨_, rfl⟩
    rw [← hN]
    refine q_X9_note_13 400 (lfok E (by omega)) ?_
    simp +contextual (disch := first | omega | exact Nat.le_of_ble_eq_true rfl | assumption) only [↓r_X9_note_0, ↓r_X9_note_1, ↓r_X9_note_4, ↓r_X9_note_5, ↓r_X9_note_6, ↓r_X9_note_8, ↓r_X9_note_11, ↓r_X9_note_12, ↓r_X9_note_13, ↓r_X9_note_14, ↓r_X9_note_16, ↓r_X9_note_19, ↓r_X9_note_20, ↓r_X9_note_23, ↓r_X9_note_25, ↓r_X9_note_26, ↓r_X9_note_27, ↓r_X9_note_28, ↓r_X9_note_29, ↓r_X9_note_30, ↓r_X9_note_31, ↓r_X9_note_32, ↓r_X9_note_35, ↓r_X9_note_37, ↓r_X9_note_38, ↓r_X9_note_39, ↓r_X9_note_40, ↓r_X9_note_41, ↓r_X9_note_42, ↓r_X9_note_43, ↓r_X9_note_46, ↓r_X9_note_49, ↓r_X9_note_50, ↓r_X9_note_53, ↓r_X9_note_54, ↓r_X9_note_55, ↓r_X9_note_56, ↓r_X9_note_57, ↓r_X9_note_58, ↓r_X9_note_59, ↓r_X9_note_60, ↓r_X9_note_63, ↓r_X9_note_65, ↓r_X9_note_66, ↓r_X9_note_67, ↓r_X9_note_68, ↓r_X9_note_71, ↓r_X9_note_72, ↓r_X9_note_73, ↓r_X9_note_74, ↓r_X9_note_75, ↓r_X9_note_76, ↓r_X9_note_77, ↓r_X9_note_80, ↓r_X9_note_81, ↓r_X9_note_82, ↓r_X9_note_83, ↓r_X9_note_84, ↓r_X9_note_85, ↓r_X9_note_86, ↓x2_0, ↓f9_30, ↓x1_1, ↓x0, ↓x32_1, ↓x4_3n, ↓x4_3i, ↓x4_3r, ↓x1_3, ↓x32_3, ↓f9_31, ↓x10, ↓x8, ↓x9, ↓x7_3n, ↓x7_3i, ↓x7_3r, ↓x33, ↓x29, ↓x1_2, ↓x48_4, ↓l_249, ↓s_249, ↓l_250, ↓s_250, ↓l_251, ↓s_251, ↓l_252, ↓s_252, ↓l_253, ↓s_253, ↓l_254, ↓s_254, ↓l_255, ↓s_255, ↓l_256, ↓s_256, ↓l_257, ↓s_257, ↓l_258, ↓s_258, ↓l_259, ↓s_259, ↓l_260, ↓s_260, ↓l_261, ↓s_261, ↓l_262, ↓s_262, ↓l_263, ↓s_263, ↓l_264, ↓s_264, ↓l_265, ↓s_265, ↓l_266, ↓s_266, ↓l_267, ↓s_267, ↓l_268, ↓s_268, ↓l_269, ↓s_269, ↓l_270, ↓s_270, ↓l_271, ↓s_271, ↓l_272, ↓s_272, ↓l_273, ↓s_273, ↓l_274, ↓s_274, and_self, and_true, true_and, implies_true, true_implies, Int.reduceEq, Int.reduceLE, Int.reduceLT, not_true_eq_false, not_false_eq_true, false_implies, RTf_eq]
    refine ⟨fun q => by omega, fun _ => ?_⟩
    rw [hN, nt_m2 hk]
    exact ih
theorem c_note9 {r x : Int} (hr0 : 0 ≤ r ∧ r < 64) (hn : 0 ≤ M 271 r ∧ M 271 r ≤ 8) : Ctr E 2 129 [vr 248, vi r, vi x] (toAH S M) none (toAH S (up2 (putv M 272 (8 * r) (ntF (getv M 272 (8 * r)) (M 271 r) x)) 271 r (min (M 271 r + 1) 8))) := by
  have e1 : up2 M 272 (8 * r + M 271 r) x 271 r = M 271 r := up2_other (by omega)
  refine Ctr_f mi_X9_note mo_X9_note (Nat.le_of_ble_eq_true rfl) ⟨Nat.le_refl _, Nat.le_refl _⟩ (fun g lm => ?_)
  rw [show entL mi_X9_note.2.2.1 [vr 248, vi r, vi x] = [some (vr 248), some (vi r), some (vi x), none] from rfl]
  refine e_X9_note 400 (lfok E (by omega)) ?_
  simp +contextual (disch := first | omega | exact Nat.le_of_ble_eq_true rfl | assumption) only [↓r_X9_note_0, ↓r_X9_note_1, ↓r_X9_note_4, ↓r_X9_note_5, ↓r_X9_note_6, ↓r_X9_note_8, ↓r_X9_note_11, ↓r_X9_note_12, ↓r_X9_note_13, ↓r_X9_note_14, ↓r_X9_note_16, ↓r_X9_note_19, ↓r_X9_note_20, ↓r_X9_note_23, ↓r_X9_note_25, ↓r_X9_note_26, ↓r_X9_note_27, ↓r_X9_note_28, ↓r_X9_note_29, ↓r_X9_note_30, ↓r_X9_note_31, ↓r_X9_note_32, ↓r_X9_note_35, ↓r_X9_note_37, ↓r_X9_note_38, ↓r_X9_note_39, ↓r_X9_note_40, ↓r_X9_note_41, ↓r_X9_note_42, ↓r_X9_note_43, ↓r_X9_note_46, ↓r_X9_note_49, ↓r_X9_note_50, ↓r_X9_note_53, ↓r_X9_note_54, ↓r_X9_note_55, ↓r_X9_note_56, ↓r_X9_note_57, ↓r_X9_note_58, ↓r_X9_note_59, ↓r_X9_note_60, ↓r_X9_note_63, ↓r_X9_note_65, ↓r_X9_note_66, ↓r_X9_note_67, ↓r_X9_note_68, ↓r_X9_note_71, ↓r_X9_note_72, ↓r_X9_note_73, ↓r_X9_note_74, ↓r_X9_note_75, ↓r_X9_note_76, ↓r_X9_note_77, ↓r_X9_note_80, ↓r_X9_note_81, ↓r_X9_note_82, ↓r_X9_note_83, ↓r_X9_note_84, ↓r_X9_note_85, ↓r_X9_note_86, ↓x2_0, ↓f9_30, ↓x1_1, ↓x0, ↓x32_1, ↓x4_3n, ↓x4_3i, ↓x4_3r, ↓x1_3, ↓x32_3, ↓f9_31, ↓x10, ↓x8, ↓x9, ↓x7_3n, ↓x7_3i, ↓x7_3r, ↓x33, ↓x29, ↓x1_2, ↓x48_4, ↓l_249, ↓s_249, ↓l_250, ↓s_250, ↓l_251, ↓s_251, ↓l_252, ↓s_252, ↓l_253, ↓s_253, ↓l_254, ↓s_254, ↓l_255, ↓s_255, ↓l_256, ↓s_256, ↓l_257, ↓s_257, ↓l_258, ↓s_258, ↓l_259, ↓s_259, ↓l_260, ↓s_260, ↓l_261, ↓s_261, ↓l_262, ↓s_262, ↓l_263, ↓s_263, ↓l_264, ↓s_264, ↓l_265, ↓s_265, ↓l_266, ↓s_266, ↓l_267, ↓s_267, ↓l_268, ↓s_268, ↓l_269, ↓s_269, ↓l_270, ↓s_270, ↓l_271, ↓s_271, ↓l_272, ↓s_272, ↓l_273, ↓s_273, ↓l_274, ↓s_274, and_self, and_true, true_and, implies_true, true_implies, Int.reduceEq, Int.reduceLE, Int.reduceLT, not_true_eq_false, not_false_eq_true, false_implies, RTf_eq, e1]
  refine ⟨fun q => ?_, fun q => ?_⟩
  · rw [nt_m3 (by omega)]
  · have h8 : M 271 r = 8 := by omega
    have e0 : putv M 272 (8 * r) (ntS (getv M 272 (8 * r)) (((0 : Nat) : Int) + 1)) = M := putv_id (fun k k1 k2 => by
      unfold ntS
      rw [if_neg (by omega)]; rfl)
    rw [h8]
    have hh := l_note9 (E := E) (S := S) (M := M) (g := g) (lm := lm) (x := x) (RT := RTf none (toAH S (up2 (putv M 272 (8 * r) (ntF (getv M 272 (8 * r)) 8 x)) 271 r (min (8 + 1) 8)))) rfl hr0 h8 ⟨rfl, rfl⟩ 0 (by omega)
    rw [e0] at hh
    exact hh
/-! the notes of the two halves: a ring on one side, a row moved down on the other -/
def ringed (c nx : Int) (v w : Vec) : Prop := (0 ≤ c ∧ c ≤ 8 ∧ 0 ≤ nx ∧ nx < 8) ∧ (c < 8 → nx = c) ∧ ∀ j, 0 ≤ j → j < c → w j = v ((nx + 8 - c + j) % 8)
theorem ringed_note {c nx x : Int} {v w : Vec} (h : ringed c nx v w) : ringed (min (c + 1) 8) ((nx + 1) % 8) (upv v nx x) (ntF w c x) := by
  obtain ⟨h1, h2, h3⟩ := h
  refine ⟨by omega, fun q => by have := h2 (by omega); omega, fun j j1 j2 => ?_⟩
  unfold ntF upv
  by_cases h8 : c = 8
  · rw [if_pos h8]
    by_cases hj : j < 7
    · rw [if_pos hj, if_neg (by omega), h3 (j + 1) (by omega) (by omega)]
      congr 1; omega
    · rw [if_neg hj, if_pos (by omega)]
  · have hx := h2 (by omega)
    rw [if_neg h8]
    by_cases hj : j = c
    · rw [if_pos hj, if_pos (by omega)]
    · rw [if_neg hj, if_neg (by omega), h3 j j1 (by omega)]
      congr 1; omega
theorem ringed_last {c nx : Int} {v w : Vec} (h : ringed c nx v w) (hc : 0 < c) : v ((nx + 8 - 1) % 8) = w (c - 1) := by
  obtain ⟨h1, h2, h3⟩ := h
  rw [h3 (c - 1) (by omega) (by omega)]
  congr 1; omega
theorem ringed_best {c nx : Int} {n : Nat} {v w : Vec} (h : ringed c nx v w) (hn : c = (n : Int)) (hv : ∀ j, 0 ≤ j → j < (n : Int) → 0 ≤ v j) : bnF v n = bnF w n := by
  obtain ⟨h1, h2, h3⟩ := h
  have hw : ∀ j, 0 ≤ j → j < (n : Int) → 0 ≤ w j := fun j j1 j2 => by
    rw [h3 j j1 (by omega)]
    refine hv _ (by omega) ?_
    by_cases q : c < 8
    · have := h2 q; omega
    · omega
  rcases Nat.eq_zero_or_pos n with h0 | h0
  · subst h0; rfl
  · obtain ⟨⟨a, a1, a2, a3⟩, al⟩ := (bnF_min n hv).2 h0
    obtain ⟨⟨b, b1, b2, b3⟩, bl⟩ := (bnF_min n hw).2 h0
    have hb := h3 b b1 (by omega)
    have hp : ∃ j, 0 ≤ j ∧ j < (n : Int) ∧ (nx + 8 - c + j) % 8 = a := by
      by_cases q : c < 8
      · have := h2 q
        exact ⟨a, a1, a2, by omega⟩
      · exact ⟨(a + 8 - nx) % 8, by omega, by omega, by omega⟩
    obtain ⟨j, j1, j2, j3⟩ := hp
    have hq := bl j j1 j2
    rw [h3 j j1 (by omega), j3] at hq
    have hr : bnF v n ≤ v ((nx + 8 - c + b) % 8) := al _ (by omega) (by
      by_cases q : c < 8
      · have := h2 q; omega
      · omega)
    omega
end
