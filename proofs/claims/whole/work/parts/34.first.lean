/-! ===== the dice; the first free number; the best note ===== -/
/-- the state of the dice after a draw, and what is drawn below n -/
def dnx (s : Int) : Int := 1103515245 * s + 12345
theorem ius16 (x : Int) : 0 ≤ ius x 16 ∧ ius x 16 < 65536 := by
  have e : ius x 16 = (((z3 x).toUInt32 >>> 16 : UInt32)).toInt32.toInt := by
    unfold ius
    congr 1
  rw [e]
  generalize (z3 x).toUInt32 = u
  have h : (u >>> 16).toNat < 65536 := by
    rw [UInt32.toNat_shiftRight]
    have := u.toNat_lt
    have e2 : (16 : UInt32).toNat % 32 = 16 := rfl
    rw [e2, Nat.shiftRight_eq_div_pow]
    omega
  have h2 : (u >>> 16).toInt32.toInt = ((u >>> 16).toNat : Int) := by
    show (u >>> 16).toBitVec.toInt = ((u >>> 16).toBitVec.toNat : Int)
    have h3 : (u >>> 16).toBitVec.toNat < 65536 := h
    exact BitVec.toInt_eq_toNat_of_lt (by omega)
  rw [h2]
  omega
def drw (s n : Int) : Int := ius (dnx s) 16 % n
theorem drw_rng {s n : Int} (h : 0 < n) : 0 ≤ drw s n ∧ drw s n < n := ⟨Int.emod_nonneg _ (by omega), Int.emod_lt_of_pos _ h⟩
section
variable {E : ET} {S : SCR} {M : Mem}
theorem up2_same {M : Mem} {c i v : Int} : up2 M c i v c i = v := by simp [up2]
theorem up2_other {M : Mem} {c i v c' i' : Int} (h : ¬ (c' = c ∧ i' = i)) : up2 M c i v c' i' = M c' i' := by simp only [up2]; rw [if_neg h]
theorem c_draw9 {n : Int} (hn : 0 < n ∧ n < 2147483648) : Ctr E 2 119 [vr 248, vi n] (toAH S M) (some (vi (drw (M 248 11) n))) (toAH S (up2 (up2 M 248 11 (dnx (M 248 11))) 248 13 (M 248 13 + 1))) := by
  have h := ius16 (dnx (M 248 11))
  refine Ctr_f mi_X9_draw mo_X9_draw (Nat.le_of_ble_eq_true rfl) ⟨Nat.le_refl _, Nat.le_refl _⟩ (fun g lm => ?_)
  rw [show entL mi_X9_draw.2.2.1 [vr 248, vi n] = [some (vr 248), some (vi n)] from rfl]
  refine e_X9_draw 400 (lfok E (by omega)) ?_
  rw [show dnx (M 248 11) = 1103515245 * M 248 11 + 12345 from rfl] at h ⊢
  obtain ⟨N, hN⟩ : ∃ N, N = up2 M 248 11 (1103515245 * M 248 11 + 12345) := ⟨_, rfl⟩
  have e1 : N 248 11 = 1103515245 * M 248 11 + 12345 := by rw [hN]; exact up2_same
  have e2 : N 248 13 = M 248 13 := by rw [hN]; exact up2_other (by omega)
  have e3 : up2 N 248 13 (M 248 13 + 1) 248 11 = 1103515245 * M 248 11 + 12345 := by rw [← e1]; exact up2_other (by omega)
  simp +contextual (disch := first | omega | exact Nat.le_of_ble_eq_true rfl | assumption) only [↓r_X9_draw_0, ↓r_X9_draw_1, ↓r_X9_draw_3, ↓r_X9_draw_4, ↓r_X9_draw_7, ↓r_X9_draw_8, ↓r_X9_draw_11, ↓r_X9_draw_12, ↓r_X9_draw_15, ↓r_X9_draw_16, ↓r_X9_draw_17, ↓r_X9_draw_20, ↓r_X9_draw_21, ↓r_X9_draw_22, ↓r_X9_draw_25, ↓r_X9_draw_26, ↓r_X9_draw_29, ↓r_X9_draw_31, ↓r_X9_draw_32, ↓r_X9_draw_33, ↓r_X9_draw_34, ↓x2_0, ↓x0, ↓f9_11, ↓x10, ↓x8, ↓p9_11, ↓x28i, ↓x28r, ↓f9_13, ↓p9_13, ↓x18, ↓x1_1, ↓x12, ↓x48_0, and_self, and_true, true_and, implies_true, true_implies, Int.reduceEq, Int.reduceLE, Int.reduceLT, not_true_eq_false, not_false_eq_true, false_implies, RTf_eq, ← hN, e1, e2, e3]
  unfold drw dnx
  rfl
theorem c_draw0 {n : Int} (hn : -2147483648 ≤ n ∧ n < 2147483648) : Ctr E 2 1 [vr 14, vi n] (toAH S M) (some (vi (if 0 < n then drw (M 14 0) n else 0))) (toAH S (if 0 < n then up2 (up2 M 14 0 (dnx (M 14 0))) 14 1 (M 14 1 + 1) else M)) := by
  have h := ius16 (dnx (M 14 0))
  refine Ctr_f mi_X0_draw mo_X0_draw (Nat.le_of_ble_eq_true rfl) ⟨Nat.le_refl _, Nat.le_refl _⟩ (fun g lm => ?_)
  rw [show entL mi_X0_draw.2.2.1 [vr 14, vi n] = [some (vr 14), some (vi n)] from rfl]
  refine e_X0_draw 400 (lfok E (by omega)) ?_
  rw [show dnx (M 14 0) = 1103515245 * M 14 0 + 12345 from rfl] at h ⊢
  obtain ⟨N, hN⟩ : ∃ N, N = up2 M 14 0 (1103515245 * M 14 0 + 12345) := ⟨_, rfl⟩
  have e1 : N 14 0 = 1103515245 * M 14 0 + 12345 := by rw [hN]; exact up2_same
  have e2 : N 14 1 = M 14 1 := by rw [hN]; exact up2_other (by omega)
  have e3 : up2 N 14 1 (M 14 1 + 1) 14 0 = 1103515245 * M 14 0 + 12345 := by rw [← e1]; exact up2_other (by omega)
  simp +contextual (disch := first | omega | exact Nat.le_of_ble_eq_true rfl | assumption) only [↓r_X0_draw_0, ↓r_X0_draw_1, ↓r_X0_draw_4, ↓r_X0_draw_5, ↓r_X0_draw_6, ↓r_X0_draw_7, ↓r_X0_draw_9, ↓r_X0_draw_10, ↓r_X0_draw_13, ↓r_X0_draw_14, ↓r_X0_draw_17, ↓r_X0_draw_18, ↓r_X0_draw_21, ↓r_X0_draw_22, ↓r_X0_draw_23, ↓r_X0_draw_26, ↓r_X0_draw_27, ↓r_X0_draw_28, ↓r_X0_draw_31, ↓r_X0_draw_32, ↓r_X0_draw_35, ↓r_X0_draw_37, ↓r_X0_draw_38, ↓r_X0_draw_39, ↓r_X0_draw_40, ↓x1_1, ↓x31_4, ↓x0, ↓x48_0, ↓x2_0, ↓f0_0, ↓x10, ↓x8, ↓p0_0, ↓x28i, ↓x28r, ↓f0_1, ↓p0_1, ↓x18, ↓x12, and_self, and_true, true_and, implies_true, true_implies, Int.reduceEq, Int.reduceLE, Int.reduceLT, not_true_eq_false, not_false_eq_true, false_implies, RTf_eq, ← hN, e1, e2, e3]
  refine ⟨fun q => ?_, fun q => ?_⟩
  · rw [if_pos trivial, if_pos trivial]
    unfold drw dnx
    exact ⟨rfl, rfl⟩
  · rw [if_neg (fun f => f), if_neg (fun f => f)]
    exact ⟨rfl, rfl⟩
theorem c_loses {w : Int} (hw : 0 ≤ w ∧ w < 12) : Ctr E 2 120 [vr 248, vi w] (toAH S M) none (toAH S (up2 (up2 M 258 w 0) 248 15 (M 248 15 + 1))) := by
  refine Ctr_f mi_X9_loses mo_X9_loses (Nat.le_of_ble_eq_true rfl) ⟨Nat.le_refl _, Nat.le_refl _⟩ (fun g lm => ?_)
  rw [show entL mi_X9_loses.2.2.1 [vr 248, vi w] = [some (vr 248), some (vi w)] from rfl]
  refine e_X9_loses 400 (lfok E (by omega)) ?_
  have e : up2 M 258 w 0 248 15 = M 248 15 := up2_other (by omega)
  simp +contextual (disch := first | omega | exact Nat.le_of_ble_eq_true rfl | assumption) only [↓r_X9_loses_0, ↓r_X9_loses_1, ↓r_X9_loses_4, ↓r_X9_loses_5, ↓r_X9_loses_6, ↓r_X9_loses_7, ↓r_X9_loses_8, ↓r_X9_loses_9, ↓r_X9_loses_12, ↓r_X9_loses_13, ↓r_X9_loses_14, ↓r_X9_loses_17, ↓x2_0, ↓f9_17, ↓x1_1, ↓x0, ↓x28i, ↓x28r, ↓f9_15, ↓x8, ↓p9_15, ↓x48_4, ↓l_249, ↓s_249, ↓l_250, ↓s_250, ↓l_251, ↓s_251, ↓l_252, ↓s_252, ↓l_253, ↓s_253, ↓l_254, ↓s_254, ↓l_255, ↓s_255, ↓l_256, ↓s_256, ↓l_257, ↓s_257, ↓l_258, ↓s_258, ↓l_259, ↓s_259, ↓l_260, ↓s_260, ↓l_261, ↓s_261, ↓l_262, ↓s_262, ↓l_263, ↓s_263, ↓l_264, ↓s_264, ↓l_265, ↓s_265, ↓l_266, ↓s_266, ↓l_267, ↓s_267, ↓l_268, ↓s_268, ↓l_269, ↓s_269, ↓l_270, ↓s_270, ↓l_271, ↓s_271, ↓l_272, ↓s_272, ↓l_273, ↓s_273, ↓l_274, ↓s_274, and_self, and_true, true_and, implies_true, true_implies, Int.reduceEq, Int.reduceLE, Int.reduceLT, not_true_eq_false, not_false_eq_true, false_implies, RTf_eq, e]
/-- the first number from k on, of n, that is so -/
def fi (p : Int → Bool) (k : Int) : Nat → Int
  | 0 => -9
  | n + 1 => if p k = true then k else fi p (k + 1) n
theorem fi_rng {p : Int → Bool} : ∀ (n : Nat) (k : Int), 0 ≤ k → fi p k n = -9 ∨ (k ≤ fi p k n ∧ fi p k n < k + n ∧ p (fi p k n) = true) := by
  intro n
  induction n with
  | zero => intro k _; exact Or.inl rfl
  | succ n ih =>
    intro k hk
    unfold fi
    split
    · rename_i h; exact Or.inr ⟨by omega, by omega, h⟩
    · rcases ih (k + 1) (by omega) with h | h
      · exact Or.inl h
      · exact Or.inr ⟨by omega, by omega, h.2.2⟩
theorem fi_none {p : Int → Bool} : ∀ (n : Nat) (k : Int), 0 ≤ k → fi p k n = -9 → ∀ j, k ≤ j → j < k + n → p j = false := by
  intro n
  induction n with
  | zero => intro k _ _ j h1 h2; omega
  | succ n ih =>
    intro k hk h j h1 h2
    unfold fi at h
    split at h
    · omega
    · rename_i hp
      by_cases e : j = k
      · subst e; simpa using hp
      · exact ih (k + 1) (by omega) h j (by omega) (by omega)
theorem fi_first {p : Int → Bool} : ∀ (n : Nat) (k : Int) j, 0 ≤ k → k ≤ j → j < fi p k n → p j = false := by
  intro n
  induction n with
  | zero => intro k j h0 h1 h2; unfold fi at h2; omega
  | succ n ih =>
    intro k j h0 h1 h2
    unfold fi at h2
    split at h2
    · omega
    · rename_i hp
      by_cases e : j = k
      · subst e; simpa using hp
      · exact ih (k + 1) j (by omega) (by omega) h2
theorem fi_congr {p q : Int → Bool} : ∀ (n : Nat) (k : Int), (∀ j, k ≤ j → j < k + n → p j = q j) → fi p k n = fi q k n := by
  intro n
  induction n with
  | zero => intro k _; rfl
  | succ n ih =>
    intro k h
    unfold fi
    rw [h k (by omega) (by omega), ih (k + 1) (fun j h1 h2 => h j (by omega) (by omega))]
theorem l_freeLink {g : GT} {lm : Nat × Nat} {RT : RTy} (hM : ∀ z, 0 ≤ z → z < 16 → M 249 z = 0 ∨ M 249 z = 1) :
    ∀ (n : Nat) (k : Int), 0 ≤ k → k + n = 16 → RT (some (vi (fi (fun l => decide (M 249 l = 0)) k n))) (toAH S M) → G E g mi_X9_freeLink 2 lm RT 2 [some (vr 248), some (vi k)] [] (toAH S M) := by
  intro n
  induction n with
  | zero =>
    intro k h0 hk hr
    refine q_X9_freeLink_2 400 (lfok E (by omega)) ?_
    simp +contextual (disch := first | omega | exact Nat.le_of_ble_eq_true rfl | assumption) only [↓r_X9_freeLink_0, ↓r_X9_freeLink_1, ↓r_X9_freeLink_2, ↓r_X9_freeLink_3, ↓r_X9_freeLink_5, ↓r_X9_freeLink_8, ↓r_X9_freeLink_9, ↓r_X9_freeLink_12, ↓r_X9_freeLink_13, ↓r_X9_freeLink_14, ↓r_X9_freeLink_17, ↓r_X9_freeLink_18, ↓r_X9_freeLink_19, ↓r_X9_freeLink_22, ↓r_X9_freeLink_25, ↓r_X9_freeLink_27, ↓x0, ↓x4_1n, ↓x4_1i, ↓x4_1r, ↓x1_1, ↓x32_3, ↓x2_0, ↓f9_0, ↓x31_1, ↓x31b1, ↓x48_0, ↓x7_1n, ↓x7_1i, ↓x7_1r, ↓x33, ↓l_249, ↓l_250, ↓l_251, ↓l_252, ↓l_253, ↓l_254, ↓l_255, ↓l_256, ↓l_257, ↓l_258, ↓l_259, ↓l_260, ↓l_261, ↓l_262, ↓l_263, ↓l_264, ↓l_265, ↓l_266, ↓l_267, ↓l_268, ↓l_269, ↓l_270, ↓l_271, ↓l_272, ↓l_273, ↓l_274, and_self, and_true, true_and, implies_true, true_implies, Int.reduceEq, Int.reduceLE, Int.reduceLT, not_true_eq_false, not_false_eq_true, false_implies, RTf_eq]
    exact ⟨fun _ => hr, fun q => absurd (by omega) q⟩
  | succ n ih =>
    intro k h0 hk hr
    have h1 := hM k (by omega) (by omega)
    have e : fi (fun l => decide (M 249 l = 0)) k (n + 1) = if decide (M 249 k = 0) = true then k else fi (fun l => decide (M 249 l = 0)) (k + 1) n := rfl
    rw [e] at hr
    refine q_X9_freeLink_2 400 (lfok E (by omega)) ?_
    simp +contextual (disch := first | omega | exact Nat.le_of_ble_eq_true rfl | assumption) only [↓r_X9_freeLink_0, ↓r_X9_freeLink_1, ↓r_X9_freeLink_2, ↓r_X9_freeLink_3, ↓r_X9_freeLink_5, ↓r_X9_freeLink_8, ↓r_X9_freeLink_9, ↓r_X9_freeLink_12, ↓r_X9_freeLink_13, ↓r_X9_freeLink_14, ↓r_X9_freeLink_17, ↓r_X9_freeLink_18, ↓r_X9_freeLink_19, ↓r_X9_freeLink_22, ↓r_X9_freeLink_25, ↓r_X9_freeLink_27, ↓x0, ↓x4_1n, ↓x4_1i, ↓x4_1r, ↓x1_1, ↓x32_3, ↓x2_0, ↓f9_0, ↓x31_1, ↓x31b1, ↓x48_0, ↓x7_1n, ↓x7_1i, ↓x7_1r, ↓x33, ↓l_249, ↓l_250, ↓l_251, ↓l_252, ↓l_253, ↓l_254, ↓l_255, ↓l_256, ↓l_257, ↓l_258, ↓l_259, ↓l_260, ↓l_261, ↓l_262, ↓l_263, ↓l_264, ↓l_265, ↓l_266, ↓l_267, ↓l_268, ↓l_269, ↓l_270, ↓l_271, ↓l_272, ↓l_273, ↓l_274, and_self, and_true, true_and, implies_true, true_implies, Int.reduceEq, Int.reduceLE, Int.reduceLT, not_true_eq_false, not_false_eq_true, false_implies, RTf_eq]
    refine ⟨fun q => by omega, fun _ => ⟨fun q => ?_, fun q => ?_⟩⟩
    · rw [if_neg (by simpa using q)] at hr
      exact ih (k + 1) (by omega) (by omega) hr
    · rw [if_pos (by simpa using q)] at hr
      exact hr
theorem c_freeLink (hM : ∀ z, 0 ≤ z → z < 16 → M 249 z = 0 ∨ M 249 z = 1) : Ctr E 2 98 [vr 248] (toAH S M) (some (vi (fi (fun l => decide (M 249 l = 0)) 0 16))) (toAH S M) := by
  refine Ctr_f mi_X9_freeLink mo_X9_freeLink (Nat.le_of_ble_eq_true rfl) ⟨Nat.le_refl _, Nat.le_refl _⟩ (fun g lm => ?_)
  rw [show entL mi_X9_freeLink.2.2.1 [vr 248] = [some (vr 248), none] from rfl]
  refine e_X9_freeLink 400 (lfok E (by omega)) ?_
  simp +contextual (disch := first | omega | exact Nat.le_of_ble_eq_true rfl | assumption) only [↓r_X9_freeLink_0, ↓r_X9_freeLink_1, ↓r_X9_freeLink_2, ↓r_X9_freeLink_3, ↓r_X9_freeLink_5, ↓r_X9_freeLink_8, ↓r_X9_freeLink_9, ↓r_X9_freeLink_12, ↓r_X9_freeLink_13, ↓r_X9_freeLink_14, ↓r_X9_freeLink_17, ↓r_X9_freeLink_18, ↓r_X9_freeLink_19, ↓r_X9_freeLink_22, ↓r_X9_freeLink_25, ↓r_X9_freeLink_27, ↓x0, ↓x4_1n, ↓x4_1i, ↓x4_1r, ↓x1_1, ↓x32_3, ↓x2_0, ↓f9_0, ↓x31_1, ↓x31b1, ↓x48_0, ↓x7_1n, ↓x7_1i, ↓x7_1r, ↓x33, ↓l_249, ↓l_250, ↓l_251, ↓l_252, ↓l_253, ↓l_254, ↓l_255, ↓l_256, ↓l_257, ↓l_258, ↓l_259, ↓l_260, ↓l_261, ↓l_262, ↓l_263, ↓l_264, ↓l_265, ↓l_266, ↓l_267, ↓l_268, ↓l_269, ↓l_270, ↓l_271, ↓l_272, ↓l_273, ↓l_274, and_self, and_true, true_and, implies_true, true_implies, Int.reduceEq, Int.reduceLE, Int.reduceLT, not_true_eq_false, not_false_eq_true, false_implies, RTf_eq]
  exact l_freeLink hM 16 0 (by omega) (by omega) ⟨rfl, rfl⟩
theorem l_freeNumber {g : GT} {lm : Nat × Nat} {RT : RTy} (hM : ∀ z, 0 ≤ z → z < 16 → rg (M 4 z)) :
    ∀ (n : Nat) (k : Int), 0 ≤ k → k + n = 16 → RT (some (vi (fi (fun l => decide (M 4 l = 0)) k n))) (toAH S M) → G E g mi_X3_freeNumber 2 lm RT 2 [some (vr 1), some (vi k)] [] (toAH S M) := by
  intro n
  induction n with
  | zero =>
    intro k h0 hk hr
    refine q_X3_freeNumber_2 400 (lfok E (by omega)) ?_
    simp +contextual (disch := first | omega | exact Nat.le_of_ble_eq_true rfl | assumption) only [↓r_X3_freeNumber_0, ↓r_X3_freeNumber_1, ↓r_X3_freeNumber_2, ↓r_X3_freeNumber_3, ↓r_X3_freeNumber_5, ↓r_X3_freeNumber_8, ↓r_X3_freeNumber_9, ↓r_X3_freeNumber_12, ↓r_X3_freeNumber_13, ↓r_X3_freeNumber_14, ↓r_X3_freeNumber_17, ↓r_X3_freeNumber_18, ↓r_X3_freeNumber_19, ↓r_X3_freeNumber_22, ↓r_X3_freeNumber_25, ↓r_X3_freeNumber_27, ↓x0, ↓x4_1n, ↓x4_1i, ↓x4_1r, ↓x1_1, ↓x32_3, ↓x2_0, ↓f3_2, ↓x31_1, ↓x31b1, ↓x48_0, ↓x7_1n, ↓x7_1i, ↓x7_1r, ↓x33, ↓l_2, ↓l_3, ↓l_4, ↓l_5, ↓l_6, ↓l_7, ↓l_9, ↓l_10, ↓l_11, ↓l_12, ↓l_13, ↓l_15, ↓l_16, ↓l_r1, ↓l_r2, ↓l_w1, ↓l_w2, and_self, and_true, true_and, implies_true, true_implies, Int.reduceEq, Int.reduceLE, Int.reduceLT, not_true_eq_false, not_false_eq_true, false_implies, RTf_eq]
    exact ⟨fun _ => hr, fun q => absurd (by omega) q⟩
  | succ n ih =>
    intro k h0 hk hr
    have h1 := hM k (by omega) (by omega)
    have e : fi (fun l => decide (M 4 l = 0)) k (n + 1) = if decide (M 4 k = 0) = true then k else fi (fun l => decide (M 4 l = 0)) (k + 1) n := rfl
    rw [e] at hr
    refine q_X3_freeNumber_2 400 (lfok E (by omega)) ?_
    simp +contextual (disch := first | omega | exact Nat.le_of_ble_eq_true rfl | assumption) only [↓r_X3_freeNumber_0, ↓r_X3_freeNumber_1, ↓r_X3_freeNumber_2, ↓r_X3_freeNumber_3, ↓r_X3_freeNumber_5, ↓r_X3_freeNumber_8, ↓r_X3_freeNumber_9, ↓r_X3_freeNumber_12, ↓r_X3_freeNumber_13, ↓r_X3_freeNumber_14, ↓r_X3_freeNumber_17, ↓r_X3_freeNumber_18, ↓r_X3_freeNumber_19, ↓r_X3_freeNumber_22, ↓r_X3_freeNumber_25, ↓r_X3_freeNumber_27, ↓x0, ↓x4_1n, ↓x4_1i, ↓x4_1r, ↓x1_1, ↓x32_3, ↓x2_0, ↓f3_2, ↓x31_1, ↓x31b1, ↓x48_0, ↓x7_1n, ↓x7_1i, ↓x7_1r, ↓x33, ↓l_2, ↓l_3, ↓l_4, ↓l_5, ↓l_6, ↓l_7, ↓l_9, ↓l_10, ↓l_11, ↓l_12, ↓l_13, ↓l_15, ↓l_16, ↓l_r1, ↓l_r2, ↓l_w1, ↓l_w2, and_self, and_true, true_and, implies_true, true_implies, Int.reduceEq, Int.reduceLE, Int.reduceLT, not_true_eq_false, not_false_eq_true, false_implies, RTf_eq]
    refine ⟨fun q => by omega, fun _ => ⟨fun q => ?_, fun q => ?_⟩⟩
    · rw [if_neg (by simpa using q)] at hr
      exact ih (k + 1) (by omega) (by omega) hr
    · rw [if_pos (by simpa using q)] at hr
      exact hr
theorem c_freeNumber (hM : ∀ z, 0 ≤ z → z < 16 → rg (M 4 z)) : Ctr E 2 8 [vr 1] (toAH S M) (some (vi (fi (fun l => decide (M 4 l = 0)) 0 16))) (toAH S M) := by
  refine Ctr_f mi_X3_freeNumber mo_X3_freeNumber (Nat.le_of_ble_eq_true rfl) ⟨Nat.le_refl _, Nat.le_refl _⟩ (fun g lm => ?_)
  rw [show entL mi_X3_freeNumber.2.2.1 [vr 1] = [some (vr 1), none] from rfl]
  refine e_X3_freeNumber 400 (lfok E (by omega)) ?_
  simp +contextual (disch := first | omega | exact Nat.le_of_ble_eq_true rfl | assumption) only [↓r_X3_freeNumber_0, ↓r_X3_freeNumber_1, ↓r_X3_freeNumber_2, ↓r_X3_freeNumber_3, ↓r_X3_freeNumber_5, ↓r_X3_freeNumber_8, ↓r_X3_freeNumber_9, ↓r_X3_freeNumber_12, ↓r_X3_freeNumber_13, ↓r_X3_freeNumber_14, ↓r_X3_freeNumber_17, ↓r_X3_freeNumber_18, ↓r_X3_freeNumber_19, ↓r_X3_freeNumber_22, ↓r_X3_freeNumber_25, ↓r_X3_freeNumber_27, ↓x0, ↓x4_1n, ↓x4_1i, ↓x4_1r, ↓x1_1, ↓x32_3, ↓x2_0, ↓f3_2, ↓x31_1, ↓x31b1, ↓x48_0, ↓x7_1n, ↓x7_1i, ↓x7_1r, ↓x33, ↓l_2, ↓l_3, ↓l_4, ↓l_5, ↓l_6, ↓l_7, ↓l_9, ↓l_10, ↓l_11, ↓l_12, ↓l_13, ↓l_15, ↓l_16, ↓l_r1, ↓l_r2, ↓l_w1, ↓l_w2, and_self, and_true, true_and, implies_true, true_implies, Int.reduceEq, Int.reduceLE, Int.reduceLT, not_true_eq_false, not_false_eq_true, false_implies, RTf_eq]
  exact l_freeNumber hM 16 0 (by omega) (by omega) ⟨rfl, rfl⟩
/-- the least of the first k, the first of them where there is none yet -/
def bnF (v : Vec) : Nat → Int
  | 0 => -9
  | k + 1 => if bnF v k = -9 ∨ v (k : Int) < bnF v k then v (k : Int) else bnF v k
theorem bnF_rg {v : Vec} {n : Nat} (h : ∀ k, 0 ≤ k → k < (n : Int) → rg (v k)) : rg (bnF v n) := by
  induction n with
  | zero => exact ⟨by show (-2147483648 : Int) ≤ -9; omega, by show (-9 : Int) < 2147483648; omega⟩
  | succ n ih =>
    unfold bnF
    split
    · exact h n (by omega) (by omega)
    · exact ih (fun k h1 h2 => h k h1 (by omega))
theorem bnF_congr {v v' : Vec} : ∀ n : Nat, (∀ k, 0 ≤ k → k < (n : Int) → v k = v' k) → bnF v n = bnF v' n := by
  intro n
  induction n with
  | zero => intro _; rfl
  | succ n ih =>
    intro h
    unfold bnF
    rw [ih (fun k h1 h2 => h k h1 (by omega)), h n (by omega) (by omega)]
/-- with notes above -9 it is the least of them -/
theorem bnF_min {v : Vec} : ∀ n : Nat, (∀ k, 0 ≤ k → k < (n : Int) → 0 ≤ v k) → (n = 0 → bnF v n = -9) ∧ (0 < n → (∃ k, 0 ≤ k ∧ k < (n : Int) ∧ bnF v n = v k) ∧ ∀ k, 0 ≤ k → k < (n : Int) → bnF v n ≤ v k) := by
  intro n
  induction n with
  | zero => intro _; exact ⟨fun _ => rfl, fun q => by omega⟩
  | succ n ih =>
    intro h
    have hi := ih (fun k h1 h2 => h k h1 (by omega))
    refine ⟨fun q => by omega, fun _ => ?_⟩
    unfold bnF
    rcases Nat.eq_zero_or_pos n with hn | hn
    · subst hn
      rw [if_pos (Or.inl (hi.1 rfl))]
      refine ⟨⟨0, by omega, by omega, rfl⟩, fun k h1 h2 => ?_⟩
      rw [show k = ((0 : Nat) : Int) by omega]
      exact Int.le_refl _
    · obtain ⟨⟨j, j1, j2, j3⟩, hl⟩ := hi.2 hn
      have hj := h j j1 (by omega)
      split
      · rename_i c
        refine ⟨⟨n, by omega, by omega, rfl⟩, fun k h1 h2 => ?_⟩
        by_cases e : k = (n : Int)
        · rw [e]; exact Int.le_refl _
        · have := hl k h1 (by omega)
          omega
      · rename_i c
        refine ⟨⟨j, j1, by omega, j3⟩, fun k h1 h2 => ?_⟩
        by_cases e : k = (n : Int)
        · rw [e]; omega
        · exact hl k h1 (by omega)
theorem l_bestNote5 {g : GT} {lm : Nat × Nat} {RT : RTy} {r : Int} {n : Nat} {v : Vec} (ev : v = M (19 + 3 * r)) (hr0 : 0 ≤ r ∧ r < 64) (hn : M (17 + 3 * r) 3 = (n : Int)) (hn8 : n ≤ 8) (hv : ∀ k, 0 ≤ k → k < 8 → rg (M (19 + 3 * r) k)) (hr : RT (some (vi (bnF v n))) (toAH S M)) :
    ∀ k : Nat, k ≤ n → G E g mi_X5_bestNote 2 lm RT 5 [some (vr (17 + 3 * r)), some (vi (bnF v k)), some (vi (k : Int))] [] (toAH S M) := by
  refine down ?_ ?_
  · have hg : rg (bnF v n) := bnF_rg (fun k h1 h2 => by rw [ev]; exact hv k h1 (by omega))
    refine q_X5_bestNote_5 400 (lfok E (by omega)) ?_
    simp +contextual (disch := first | omega | exact Nat.le_of_ble_eq_true rfl | assumption) only [↓r_X5_bestNote_0, ↓r_X5_bestNote_2, ↓r_X5_bestNote_3, ↓r_X5_bestNote_4, ↓r_X5_bestNote_5, ↓r_X5_bestNote_6, ↓r_X5_bestNote_7, ↓r_X5_bestNote_10, ↓r_X5_bestNote_13, ↓r_X5_bestNote_14, ↓r_X5_bestNote_16, ↓r_X5_bestNote_19, ↓r_X5_bestNote_20, ↓r_X5_bestNote_23, ↓r_X5_bestNote_24, ↓r_X5_bestNote_25, ↓r_X5_bestNote_26, ↓r_X5_bestNote_29, ↓r_X5_bestNote_30, ↓r_X5_bestNote_33, ↓r_X5_bestNote_34, ↓r_X5_bestNote_35, ↓r_X5_bestNote_36, ↓r_X5_bestNote_39, ↓r_X5_bestNote_42, ↓r_X5_bestNote_43, ↓x0, ↓x4_1n, ↓x4_1i, ↓x4_1r, ↓x4_2n, ↓x4_2i, ↓x4_2r, ↓x1_2, ↓x2_0, ↓f5_3, ↓x32_3, ↓x1_1, ↓x32_0, ↓f5_1, ↓x7_2n, ↓x7_2i, ↓x7_2r, ↓x33, ↓x48_0, ↓l_2, ↓l_3, ↓l_4, ↓l_5, ↓l_6, ↓l_7, ↓l_9, ↓l_10, ↓l_11, ↓l_12, ↓l_13, ↓l_15, ↓l_16, ↓l_r1, ↓l_r2, ↓l_w1, ↓l_w2, and_self, and_true, true_and, implies_true, true_implies, Int.reduceEq, Int.reduceLE, Int.reduceLT, not_true_eq_false, not_false_eq_true, false_implies, RTf_eq]
    exact ⟨fun _ => hr, fun q => absurd (by omega) q⟩
  · intro k hk ih
    have hg : rg (bnF v k) := bnF_rg (fun j h1 h2 => by rw [ev]; exact hv j h1 (by omega))
    have h1 := hv k (by omega) (by omega)
    have e : bnF v (k + 1) = if bnF v k = -9 ∨ v (k : Int) < bnF v k then v (k : Int) else bnF v k := rfl
    rw [e] at ih
    obtain ⟨b, hb⟩ : ∃ b, b = bnF v k := ⟨_, rfl⟩
    rw [← hb] at hg ih ⊢
    have hvk : v (k : Int) = M (19 + 3 * r) k := by rw [ev]
    rw [hvk] at ih
    refine q_X5_bestNote_5 400 (lfok E (by omega)) ?_
    simp +contextual (disch := first | omega | exact Nat.le_of_ble_eq_true rfl | assumption) only [↓r_X5_bestNote_0, ↓r_X5_bestNote_2, ↓r_X5_bestNote_3, ↓r_X5_bestNote_4, ↓r_X5_bestNote_5, ↓r_X5_bestNote_6, ↓r_X5_bestNote_7, ↓r_X5_bestNote_10, ↓r_X5_bestNote_13, ↓r_X5_bestNote_14, ↓r_X5_bestNote_16, ↓r_X5_bestNote_19, ↓r_X5_bestNote_20, ↓r_X5_bestNote_23, ↓r_X5_bestNote_24, ↓r_X5_bestNote_25, ↓r_X5_bestNote_26, ↓r_X5_bestNote_29, ↓r_X5_bestNote_30, ↓r_X5_bestNote_33, ↓r_X5_bestNote_34, ↓r_X5_bestNote_35, ↓r_X5_bestNote_36, ↓r_X5_bestNote_39, ↓r_X5_bestNote_42, ↓r_X5_bestNote_43, ↓x0, ↓x4_1n, ↓x4_1i, ↓x4_1r, ↓x4_2n, ↓x4_2i, ↓x4_2r, ↓x1_2, ↓x2_0, ↓f5_3, ↓x32_3, ↓x1_1, ↓x32_0, ↓f5_1, ↓x7_2n, ↓x7_2i, ↓x7_2r, ↓x33, ↓x48_0, ↓l_2, ↓l_3, ↓l_4, ↓l_5, ↓l_6, ↓l_7, ↓l_9, ↓l_10, ↓l_11, ↓l_12, ↓l_13, ↓l_15, ↓l_16, ↓l_r1, ↓l_r2, ↓l_w1, ↓l_w2, and_self, and_true, true_and, implies_true, true_implies, Int.reduceEq, Int.reduceLE, Int.reduceLT, not_true_eq_false, not_false_eq_true, false_implies, RTf_eq]
    refine ⟨fun q => by omega, fun _ => ⟨fun q => ?_, fun q => ⟨fun q2 => ?_, fun q2 => ?_⟩⟩⟩
    · rw [if_pos (Or.inl q)] at ih; exact ih
    · rw [if_neg (fun c => by rcases c with c | c; exact q c; omega)] at ih; exact ih
    · rw [if_pos (Or.inr (by omega))] at ih; exact ih
theorem l_bestNote9 {g : GT} {lm : Nat × Nat} {RT : RTy} {r : Int} {n : Nat} {v : Vec} (ev : v = getv M 272 (8 * r)) (hr0 : 0 ≤ r ∧ r < 64) (hn : M 271 r = (n : Int)) (hn8 : n ≤ 8) (hv : ∀ k, 0 ≤ k → k < 8 → rg (M 272 (8 * r + k))) (hr : RT (some (vi (bnF v n))) (toAH S M)) :
    ∀ k : Nat, k ≤ n → G E g mi_X9_bestNote 2 lm RT 5 [some (vr 248), some (vi r), some (vi (bnF v k)), some (vi (k : Int))] [] (toAH S M) := by
  refine down ?_ ?_
  · have hg : rg (bnF v n) := bnF_rg (fun k h1 h2 => by rw [ev]; exact hv k h1 (by omega))
    refine q_X9_bestNote_5 400 (lfok E (by omega)) ?_
    simp +contextual (disch := first | omega | exact Nat.le_of_ble_eq_true rfl | assumption) only [↓r_X9_bestNote_0, ↓r_X9_bestNote_2, ↓r_X9_bestNote_3, ↓r_X9_bestNote_4, ↓r_X9_bestNote_5, ↓r_X9_bestNote_6, ↓r_X9_bestNote_7, ↓r_X9_bestNote_10, ↓r_X9_bestNote_11, ↓r_X9_bestNote_12, ↓r_X9_bestNote_15, ↓r_X9_bestNote_16, ↓r_X9_bestNote_18, ↓r_X9_bestNote_21, ↓r_X9_bestNote_22, ↓r_X9_bestNote_25, ↓r_X9_bestNote_27, ↓r_X9_bestNote_28, ↓r_X9_bestNote_29, ↓r_X9_bestNote_30, ↓r_X9_bestNote_31, ↓r_X9_bestNote_32, ↓r_X9_bestNote_33, ↓r_X9_bestNote_36, ↓r_X9_bestNote_37, ↓r_X9_bestNote_40, ↓r_X9_bestNote_42, ↓r_X9_bestNote_43, ↓r_X9_bestNote_44, ↓r_X9_bestNote_45, ↓r_X9_bestNote_46, ↓r_X9_bestNote_47, ↓r_X9_bestNote_50, ↓r_X9_bestNote_51, ↓r_X9_bestNote_52, ↓r_X9_bestNote_55, ↓r_X9_bestNote_58, ↓r_X9_bestNote_59, ↓x0, ↓x4_2n, ↓x4_2i, ↓x4_2r, ↓x4_3n, ↓x4_3i, ↓x4_3r, ↓x1_3, ↓x2_0, ↓f9_30, ↓x1_1, ↓x32_3, ↓x1_2, ↓x32_0, ↓f9_31, ↓x10, ↓x8, ↓x33, ↓x7_3n, ↓x7_3i, ↓x7_3r, ↓x48_0, ↓l_249, ↓l_250, ↓l_251, ↓l_252, ↓l_253, ↓l_254, ↓l_255, ↓l_256, ↓l_257, ↓l_258, ↓l_259, ↓l_260, ↓l_261, ↓l_262, ↓l_263, ↓l_264, ↓l_265, ↓l_266, ↓l_267, ↓l_268, ↓l_269, ↓l_270, ↓l_271, ↓l_272, ↓l_273, ↓l_274, and_self, and_true, true_and, implies_true, true_implies, Int.reduceEq, Int.reduceLE, Int.reduceLT, not_true_eq_false, not_false_eq_true, false_implies, RTf_eq]
    exact ⟨fun _ => hr, fun q => absurd (by omega) q⟩
  · intro k hk ih
    have hg : rg (bnF v k) := bnF_rg (fun j h1 h2 => by rw [ev]; exact hv j h1 (by omega))
    have h1 := hv k (by omega) (by omega)
    have e : bnF v (k + 1) = if bnF v k = -9 ∨ v (k : Int) < bnF v k then v (k : Int) else bnF v k := rfl
    rw [e] at ih
    obtain ⟨b, hb⟩ : ∃ b, b = bnF v k := ⟨_, rfl⟩
    rw [← hb] at hg ih ⊢
    have hvk : v (k : Int) = M 272 (8 * r + k) := by rw [ev]; rfl
    rw [hvk] at ih
    refine q_X9_bestNote_5 400 (lfok E (by omega)) ?_
    simp +contextual (disch := first | omega | exact Nat.le_of_ble_eq_true rfl | assumption) only [↓r_X9_bestNote_0, ↓r_X9_bestNote_2, ↓r_X9_bestNote_3, ↓r_X9_bestNote_4, ↓r_X9_bestNote_5, ↓r_X9_bestNote_6, ↓r_X9_bestNote_7, ↓r_X9_bestNote_10, ↓r_X9_bestNote_11, ↓r_X9_bestNote_12, ↓r_X9_bestNote_15, ↓r_X9_bestNote_16, ↓r_X9_bestNote_18, ↓r_X9_bestNote_21, ↓r_X9_bestNote_22, ↓r_X9_bestNote_25, ↓r_X9_bestNote_27, ↓r_X9_bestNote_28, ↓r_X9_bestNote_29, ↓r_X9_bestNote_30, ↓r_X9_bestNote_31, ↓r_X9_bestNote_32, ↓r_X9_bestNote_33, ↓r_X9_bestNote_36, ↓r_X9_bestNote_37, ↓r_X9_bestNote_40, ↓r_X9_bestNote_42, ↓r_X9_bestNote_43, ↓r_X9_bestNote_44, ↓r_X9_bestNote_45, ↓r_X9_bestNote_46, ↓r_X9_bestNote_47, ↓r_X9_bestNote_50, ↓r_X9_bestNote_51, ↓r_X9_bestNote_52, ↓r_X9_bestNote_55, ↓r_X9_bestNote_58, ↓r_X9_bestNote_59, ↓x0, ↓x4_2n, ↓x4_2i, ↓x4_2r, ↓x4_3n, ↓x4_3i, ↓x4_3r, ↓x1_3, ↓x2_0, ↓f9_30, ↓x1_1, ↓x32_3, ↓x1_2, ↓x32_0, ↓f9_31, ↓x10, ↓x8, ↓x33, ↓x7_3n, ↓x7_3i, ↓x7_3r, ↓x48_0, ↓l_249, ↓l_250, ↓l_251, ↓l_252, ↓l_253, ↓l_254, ↓l_255, ↓l_256, ↓l_257, ↓l_258, ↓l_259, ↓l_260, ↓l_261, ↓l_262, ↓l_263, ↓l_264, ↓l_265, ↓l_266, ↓l_267, ↓l_268, ↓l_269, ↓l_270, ↓l_271, ↓l_272, ↓l_273, ↓l_274, and_self, and_true, true_and, implies_true, true_implies, Int.reduceEq, Int.reduceLE, Int.reduceLT, not_true_eq_false, not_false_eq_true, false_implies, RTf_eq]
    refine ⟨fun q => by omega, fun _ => ⟨fun q => ?_, fun q => ⟨fun q2 => ?_, fun q2 => ?_⟩⟩⟩
    · rw [if_pos (Or.inl q)] at ih; exact ih
    · rw [if_neg (fun c => by rcases c with c | c; exact q c; omega)] at ih; exact ih
    · rw [if_pos (Or.inr (by omega))] at ih; exact ih
theorem c_bestNote5 {r : Int} {n : Nat} (hr0 : 0 ≤ r ∧ r < 64) (hn : M (17 + 3 * r) 3 = (n : Int)) (hn8 : n ≤ 8) (hv : ∀ k, 0 ≤ k → k < 8 → rg (M (19 + 3 * r) k)) : Ctr E 2 28 [vr (17 + 3 * r)] (toAH S M) (some (vi (bnF (M (19 + 3 * r)) n))) (toAH S M) := by
  refine Ctr_f mi_X5_bestNote mo_X5_bestNote (Nat.le_of_ble_eq_true rfl) ⟨Nat.le_refl _, Nat.le_refl _⟩ (fun g lm => ?_)
  rw [show entL mi_X5_bestNote.2.2.1 [vr (17 + 3 * r)] = [some (vr (17 + 3 * r)), none, none] from rfl]
  refine e_X5_bestNote 400 (lfok E (by omega)) ?_
  simp +contextual (disch := first | omega | exact Nat.le_of_ble_eq_true rfl | assumption) only [↓r_X5_bestNote_0, ↓r_X5_bestNote_2, ↓r_X5_bestNote_3, ↓r_X5_bestNote_4, ↓r_X5_bestNote_5, ↓r_X5_bestNote_6, ↓r_X5_bestNote_7, ↓r_X5_bestNote_10, ↓r_X5_bestNote_13, ↓r_X5_bestNote_14, ↓r_X5_bestNote_16, ↓r_X5_bestNote_19, ↓r_X5_bestNote_20, ↓r_X5_bestNote_23, ↓r_X5_bestNote_24, ↓r_X5_bestNote_25, ↓r_X5_bestNote_26, ↓r_X5_bestNote_29, ↓r_X5_bestNote_30, ↓r_X5_bestNote_33, ↓r_X5_bestNote_34, ↓r_X5_bestNote_35, ↓r_X5_bestNote_36, ↓r_X5_bestNote_39, ↓r_X5_bestNote_42, ↓r_X5_bestNote_43, ↓x0, ↓x4_1n, ↓x4_1i, ↓x4_1r, ↓x4_2n, ↓x4_2i, ↓x4_2r, ↓x1_2, ↓x2_0, ↓f5_3, ↓x32_3, ↓x1_1, ↓x32_0, ↓f5_1, ↓x7_2n, ↓x7_2i, ↓x7_2r, ↓x33, ↓x48_0, ↓l_2, ↓l_3, ↓l_4, ↓l_5, ↓l_6, ↓l_7, ↓l_9, ↓l_10, ↓l_11, ↓l_12, ↓l_13, ↓l_15, ↓l_16, ↓l_r1, ↓l_r2, ↓l_w1, ↓l_w2, and_self, and_true, true_and, implies_true, true_implies, Int.reduceEq, Int.reduceLE, Int.reduceLT, not_true_eq_false, not_false_eq_true, false_implies, RTf_eq]
  exact l_bestNote5 rfl hr0 hn hn8 hv ⟨rfl, rfl⟩ 0 (by omega)
theorem c_bestNote9 {r : Int} {n : Nat} (hr0 : 0 ≤ r ∧ r < 64) (hn : M 271 r = (n : Int)) (hn8 : n ≤ 8) (hv : ∀ k, 0 ≤ k → k < 8 → rg (M 272 (8 * r + k))) : Ctr E 2 130 [vr 248, vi r] (toAH S M) (some (vi (bnF (getv M 272 (8 * r)) n))) (toAH S M) := by
  refine Ctr_f mi_X9_bestNote mo_X9_bestNote (Nat.le_of_ble_eq_true rfl) ⟨Nat.le_refl _, Nat.le_refl _⟩ (fun g lm => ?_)
  rw [show entL mi_X9_bestNote.2.2.1 [vr 248, vi r] = [some (vr 248), some (vi r), none, none] from rfl]
  refine e_X9_bestNote 400 (lfok E (by omega)) ?_
  simp +contextual (disch := first | omega | exact Nat.le_of_ble_eq_true rfl | assumption) only [↓r_X9_bestNote_0, ↓r_X9_bestNote_2, ↓r_X9_bestNote_3, ↓r_X9_bestNote_4, ↓r_X9_bestNote_5, ↓r_X9_bestNote_6, ↓r_X9_bestNote_7, ↓r_X9_bestNote_10, ↓r_X9_bestNote_11, ↓r_X9_bestNote_12, ↓r_X9_bestNote_15, ↓r_X9_bestNote_16, ↓r_X9_bestNote_18, ↓r_X9_bestNote_21, ↓r_X9_bestNote_22, ↓r_X9_bestNote_25, ↓r_X9_bestNote_27, ↓r_X9_bestNote_28, ↓r_X9_bestNote_29, ↓r_X9_bestNote_30, ↓r_X9_bestNote_31, ↓r_X9_bestNote_32, ↓r_X9_bestNote_33, ↓r_X9_bestNote_36, ↓r_X9_bestNote_37, ↓r_X9_bestNote_40, ↓r_X9_bestNote_42, ↓r_X9_bestNote_43, ↓r_X9_bestNote_44, ↓r_X9_bestNote_45, ↓r_X9_bestNote_46, ↓r_X9_bestNote_47, ↓r_X9_bestNote_50, ↓r_X9_bestNote_51, ↓r_X9_bestNote_52, ↓r_X9_bestNote_55, ↓r_X9_bestNote_58, ↓r_X9_bestNote_59, ↓x0, ↓x4_2n, ↓x4_2i, ↓x4_2r, ↓x4_3n, ↓x4_3i, ↓x4_3r, ↓x1_3, ↓x2_0, ↓f9_30, ↓x1_1, ↓x32_3, ↓x1_2, ↓x32_0, ↓f9_31, ↓x10, ↓x8, ↓x33, ↓x7_3n, ↓x7_3i, ↓x7_3r, ↓x48_0, ↓l_249, ↓l_250, ↓l_251, ↓l_252, ↓l_253, ↓l_254, ↓l_255, ↓l_256, ↓l_257, ↓l_258, ↓l_259, ↓l_260, ↓l_261, ↓l_262, ↓l_263, ↓l_264, ↓l_265, ↓l_266, ↓l_267, ↓l_268, ↓l_269, ↓l_270, ↓l_271, ↓l_272, ↓l_273, ↓l_274, and_self, and_true, true_and, implies_true, true_implies, Int.reduceEq, Int.reduceLE, Int.reduceLT, not_true_eq_false, not_false_eq_true, false_implies, RTf_eq]
  exact l_bestNote9 rfl hr0 hn hn8 hv ⟨rfl, rfl⟩ 0 (by omega)
end
