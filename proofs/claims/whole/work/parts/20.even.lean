/-! ===== neighbours counted, even rows ===== -/
def nbm (M : Mem) (i : Int) : Set8 := fun k => decide (¬ M 253 (8 * i + k) = -9)
def wob (m : Set8) (but : Int) : Set8 := fun k => m k && decide (¬ k = but)
theorem cnt_wob {m : Set8} {but : Int} (h0 : 0 ≤ but) : ∀ n : Nat, cntb (wob m but) n = cntb m n - (if but < (n : Int) ∧ m but = true then 1 else 0) := by
  intro n
  induction n with
  | zero => simp [cntb]; omega
  | succ n ih =>
    unfold cntb
    rw [ih]
    by_cases hk : (n : Int) = but
    · subst hk
      have e : wob m (n : Int) (n : Int) = false := by simp [wob]
      rw [e]
      by_cases hm : m (n : Int) = true
      · have hc : (n : Int) < ((n + 1 : Nat) : Int) ∧ m (n : Int) = true := ⟨by omega, hm⟩
        rw [if_pos hm, if_pos hc, if_neg (by omega)]; simp
      · rw [if_neg hm, if_neg (fun q => hm q.2)]; simp [hm]
    · have e : wob m but (n : Int) = m (n : Int) := by simp [wob, hk]
      rw [e]
      generalize (if m (n : Int) = true then (1 : Int) else 0) = t
      by_cases hc : but < (n : Int) ∧ m but = true
      · have hc2 : but < ((n + 1 : Nat) : Int) ∧ m but = true := ⟨by omega, hc.2⟩
        rw [if_pos hc, if_pos hc2]; omega
      · have hc2 : ¬ (but < ((n + 1 : Nat) : Int) ∧ m but = true) := fun q => hc ⟨by have := q.1; omega, q.2⟩
        rw [if_neg hc, if_neg hc2]; omega
theorem wob_9 {m : Set8} {k : Int} (h : 0 ≤ k) : wob m (-9) k = m k := by
  have : ¬ k = -9 := by omega
  simp [wob, this]
/-- so much to each of a set, even -/
def evF (all : Int) (m : Set8) (v : Vec) : Vec := fun j => if m j = true then all / cntb m 8 + (if 0 < all % cntb m 8 - cntb m j.toNat then 1 else 0) else v j
section
variable {E : ET} {S : SCR} {M : Mem}
theorem l_manyNext {g : GT} {lm : Nat × Nat} {RT : RTy} {i : Int} (hi : 0 ≤ i ∧ i < 8) (hM : ∀ z, 0 ≤ z → z < 64 → rg (M 253 z)) (hr : RT (some (vi (cntb (nbm M i) 8))) (toAH S M)) : ∀ k : Nat, k ≤ 8 → G E g mi_X9_manyNext 2 lm RT 4 [some (vr 248), some (vi i), some (vi (cntb (nbm M i) k)), some (vi (k : Int))] [] (toAH S M) := by
  refine down ?_ ?_
  · refine q_X9_manyNext_4 400 (lfok E (by omega)) ?_
    simp +contextual (disch := first | omega | exact Nat.le_of_ble_eq_true rfl | assumption) only [↓r_X9_manyNext_0, ↓r_X9_manyNext_1, ↓r_X9_manyNext_2, ↓r_X9_manyNext_3, ↓r_X9_manyNext_4, ↓r_X9_manyNext_5, ↓r_X9_manyNext_7, ↓r_X9_manyNext_10, ↓r_X9_manyNext_11, ↓r_X9_manyNext_12, ↓r_X9_manyNext_13, ↓r_X9_manyNext_14, ↓r_X9_manyNext_17, ↓r_X9_manyNext_20, ↓r_X9_manyNext_21, ↓r_X9_manyNext_24, ↓r_X9_manyNext_25, ↓r_X9_manyNext_26, ↓r_X9_manyNext_27, ↓r_X9_manyNext_30, ↓r_X9_manyNext_33, ↓r_X9_manyNext_34, ↓x0, ↓x4_2n, ↓x4_2i, ↓x4_2r, ↓x4_3n, ↓x4_3i, ↓x4_3r, ↓x1_3, ↓x32_3, ↓x1_2, ↓x2_0, ↓x1_1, ↓lf_X9_isNext, ↓x31_0, ↓x31b0, ↓x33, ↓x8, ↓x7_3n, ↓x7_3i, ↓x7_3r, ↓x48_0, and_self, and_true, true_and, implies_true, true_implies, RTf_eq]
    exact ⟨fun _ => hr, fun q => absurd (by omega) q⟩
  · intro k hk ih
    have h1 := hM (8 * i + k) (by omega) (by omega)
    refine q_X9_manyNext_4 400 (lfok E (by omega)) ?_
    simp +contextual (disch := first | omega | exact Nat.le_of_ble_eq_true rfl | assumption) only [↓r_X9_manyNext_0, ↓r_X9_manyNext_1, ↓r_X9_manyNext_2, ↓r_X9_manyNext_3, ↓r_X9_manyNext_4, ↓r_X9_manyNext_5, ↓r_X9_manyNext_7, ↓r_X9_manyNext_10, ↓r_X9_manyNext_11, ↓r_X9_manyNext_12, ↓r_X9_manyNext_13, ↓r_X9_manyNext_14, ↓r_X9_manyNext_17, ↓r_X9_manyNext_20, ↓r_X9_manyNext_21, ↓r_X9_manyNext_24, ↓r_X9_manyNext_25, ↓r_X9_manyNext_26, ↓r_X9_manyNext_27, ↓r_X9_manyNext_30, ↓r_X9_manyNext_33, ↓r_X9_manyNext_34, ↓x0, ↓x4_2n, ↓x4_2i, ↓x4_2r, ↓x4_3n, ↓x4_3i, ↓x4_3r, ↓x1_3, ↓x32_3, ↓x1_2, ↓x2_0, ↓x1_1, ↓lf_X9_isNext, ↓x31_0, ↓x31b0, ↓x33, ↓x8, ↓x7_3n, ↓x7_3i, ↓x7_3r, ↓x48_0, and_self, and_true, true_and, implies_true, true_implies, RTf_eq]
    refine ⟨fun q => by omega, fun _ => ⟨fun q => ?_, fun q => ?_⟩⟩
    · have e : cntb (nbm M i) (k + 1) = cntb (nbm M i) k + 0 := by simp [cntb, nbm, q]
      rw [e] at ih
      exact ih
    · have e : cntb (nbm M i) (k + 1) = cntb (nbm M i) k + 1 := by simp [cntb, nbm, q]
      rw [e] at ih
      exact ih
theorem c_manyNext {i : Int} (hi : 0 ≤ i ∧ i < 8) (hM : ∀ z, 0 ≤ z → z < 64 → rg (M 253 z)) : Ctr E 2 93 [vr 248, vi i] (toAH S M) (some (vi (cntb (nbm M i) 8))) (toAH S M) := by
  refine Ctr_f mi_X9_manyNext mo_X9_manyNext (Nat.le_of_ble_eq_true rfl) ⟨Nat.le_refl _, Nat.le_refl _⟩ (fun g lm => ?_)
  rw [show entL mi_X9_manyNext.2.2.1 [vr 248, vi i] = [some (vr 248), some (vi i), none, none] from rfl]
  refine e_X9_manyNext 400 (lfok E (by omega)) ?_
  simp +contextual (disch := first | omega | exact Nat.le_of_ble_eq_true rfl | assumption) only [↓r_X9_manyNext_0, ↓r_X9_manyNext_1, ↓r_X9_manyNext_2, ↓r_X9_manyNext_3, ↓r_X9_manyNext_4, ↓r_X9_manyNext_5, ↓r_X9_manyNext_7, ↓r_X9_manyNext_10, ↓r_X9_manyNext_11, ↓r_X9_manyNext_12, ↓r_X9_manyNext_13, ↓r_X9_manyNext_14, ↓r_X9_manyNext_17, ↓r_X9_manyNext_20, ↓r_X9_manyNext_21, ↓r_X9_manyNext_24, ↓r_X9_manyNext_25, ↓r_X9_manyNext_26, ↓r_X9_manyNext_27, ↓r_X9_manyNext_30, ↓r_X9_manyNext_33, ↓r_X9_manyNext_34, ↓x0, ↓x4_2n, ↓x4_2i, ↓x4_2r, ↓x4_3n, ↓x4_3i, ↓x4_3r, ↓x1_3, ↓x32_3, ↓x1_2, ↓x2_0, ↓x1_1, ↓lf_X9_isNext, ↓x31_0, ↓x31b0, ↓x33, ↓x8, ↓x7_3n, ↓x7_3i, ↓x7_3r, ↓x48_0, and_self, and_true, true_and, implies_true, true_implies, RTf_eq]
  exact l_manyNext hi hM ⟨rfl, rfl⟩ 0 (by omega)
theorem l_spreadEven {g : GT} {lm : Nat × Nat} {RT : RTy} {i row all but n L0 : Int} {m : Set8} (hm : m = wob (nbm M i) but) (hn : n = cntb m 8) (hL0 : 0 < n → L0 = all % n) (hL1 : rg L0 ∧ -1000 ≤ L0) (hi : 0 ≤ i ∧ i < 8) (hrow : 0 ≤ row ∧ row + 8 ≤ 512) (hall : 0 ≤ all ∧ all ≤ 1000) (hbut : rg but) (hM : ∀ z, 0 ≤ z → z < 64 → rg (M 253 z)) (hr : RT none (toAH S (putv M 254 row (evF all m (getv M 254 row))))) :
    ∀ k : Nat, k ≤ 8 → G E g mi_X9_spreadEven 3 lm RT 38 [some (vr 248), some (vi i), some (vi row), some (vi all), some (vi but), some (vi n), some (vi (L0 - cntb m k)), some (vi (k : Int))] [] (toAH S (putv M 254 row (bl k (evF all m (getv M 254 row)) (getv M 254 row)))) := by
  refine down ?_ ?_
  · refine q_X9_spreadEven_38 400 (lfok E (by omega)) ?_
    rw [putv_congr (g := evF all m (getv M 254 row)) (fun k h1 h2 => bl_8 h2)]
    simp +contextual (disch := first | omega | exact Nat.le_of_ble_eq_true rfl | assumption) only [↓r_X9_spreadEven_0, ↓r_X9_spreadEven_1, ↓r_X9_spreadEven_2, ↓r_X9_spreadEven_5, ↓r_X9_spreadEven_7, ↓r_X9_spreadEven_9, ↓r_X9_spreadEven_12, ↓r_X9_spreadEven_13, ↓r_X9_spreadEven_16, ↓r_X9_spreadEven_17, ↓r_X9_spreadEven_18, ↓r_X9_spreadEven_20, ↓r_X9_spreadEven_22, ↓r_X9_spreadEven_25, ↓r_X9_spreadEven_26, ↓r_X9_spreadEven_29, ↓r_X9_spreadEven_30, ↓r_X9_spreadEven_32, ↓r_X9_spreadEven_33, ↓r_X9_spreadEven_35, ↓r_X9_spreadEven_36, ↓r_X9_spreadEven_38, ↓r_X9_spreadEven_40, ↓r_X9_spreadEven_42, ↓r_X9_spreadEven_45, ↓r_X9_spreadEven_46, ↓r_X9_spreadEven_47, ↓r_X9_spreadEven_49, ↓r_X9_spreadEven_52, ↓r_X9_spreadEven_55, ↓r_X9_spreadEven_57, ↓r_X9_spreadEven_59, ↓r_X9_spreadEven_62, ↓r_X9_spreadEven_63, ↓r_X9_spreadEven_66, ↓r_X9_spreadEven_67, ↓r_X9_spreadEven_69, ↓r_X9_spreadEven_70, ↓r_X9_spreadEven_71, ↓r_X9_spreadEven_73, ↓r_X9_spreadEven_74, ↓r_X9_spreadEven_76, ↓r_X9_spreadEven_79, ↓r_X9_spreadEven_80, ↓r_X9_spreadEven_83, ↓r_X9_spreadEven_84, ↓r_X9_spreadEven_85, ↓r_X9_spreadEven_86, ↓r_X9_spreadEven_89, ↓r_X9_spreadEven_92, ↓r_X9_spreadEven_95, ↓x2_0, ↓x1_1, ↓v9_2, ↓x1_4, ↓x0, ↓x32_1, ↓x33, ↓x9, ↓x4_5n, ↓x4_5i, ↓x4_5r, ↓x1_5, ↓x31_1, ↓x31b1, ↓x1_3, ↓x12, ↓x4_6n, ↓x4_6i, ↓x4_6r, ↓x4_7n, ↓x4_7i, ↓x4_7r, ↓x1_7, ↓x32_3, ↓lf_X9_isNext, ↓x31_0, ↓x31b0, ↓x32_0, ↓f9_5, ↓x1_2, ↓x8, ↓x11, ↓x1_6, ↓x31_5, ↓x7_6n, ↓x7_6i, ↓x7_6r, ↓x7_7n, ↓x7_7i, ↓x7_7r, ↓x48_4, ↓l_249, ↓s_249, ↓l_250, ↓s_250, ↓l_251, ↓s_251, ↓l_252, ↓s_252, ↓l_253, ↓s_253, ↓l_254, ↓s_254, ↓l_255, ↓s_255, ↓l_256, ↓s_256, ↓l_257, ↓s_257, ↓l_258, ↓s_258, ↓l_259, ↓s_259, ↓l_260, ↓s_260, ↓l_261, ↓s_261, ↓l_262, ↓s_262, ↓l_263, ↓s_263, ↓l_264, ↓s_264, ↓l_265, ↓s_265, ↓l_266, ↓s_266, ↓l_267, ↓s_267, ↓l_268, ↓s_268, ↓l_269, ↓s_269, ↓l_270, ↓s_270, ↓l_271, ↓s_271, ↓l_272, ↓s_272, ↓l_273, ↓s_273, ↓l_274, ↓s_274, and_self, and_true, true_and, implies_true, true_implies, RTf_eq]
    exact ⟨fun _ => hr, fun q => absurd (by omega) q⟩
  · intro k hk ih
    have h1 := hM (8 * i + k) (by omega) (by omega)
    have hc := cntb_rng m 8
    have hck := cntb_rng m k
    have hcs : cntb m (k + 1) = cntb m k + (if m (k : Int) = true then 1 else 0) := rfl
    have hmk : m (k : Int) = (decide (¬ M 253 (8 * i + k) = -9) && decide (¬ (k : Int) = but)) := by rw [hm]; rfl
    obtain ⟨N, hN⟩ : ∃ N, N = putv M 254 row (bl k (evF all m (getv M 254 row)) (getv M 254 row)) := ⟨_, rfl⟩
    rw [← hN]
    have h253 : ∀ z, N 253 z = M 253 z := fun z => by rw [hN]; exact putv_ne (by omega)
    rw [← h253] at h1 hmk
    have hno : m (k : Int) = false → G E g mi_X9_spreadEven 3 lm RT 38 [some (vr 248), some (vi i), some (vi row), some (vi all), some (vi but), some (vi n), some (vi (L0 - cntb m k)), some (vi ((k : Int) + 1))] [] (toAH S N) := by
      intro hf
      rw [hcs, hf, ← bl_n (by simp [evF, hf]), ← hN] at ih
      simpa using ih
    refine q_X9_spreadEven_38 400 (lfok E (by omega)) ?_
    simp +contextual (disch := first | omega | exact Nat.le_of_ble_eq_true rfl | assumption) only [↓r_X9_spreadEven_0, ↓r_X9_spreadEven_1, ↓r_X9_spreadEven_2, ↓r_X9_spreadEven_5, ↓r_X9_spreadEven_7, ↓r_X9_spreadEven_9, ↓r_X9_spreadEven_12, ↓r_X9_spreadEven_13, ↓r_X9_spreadEven_16, ↓r_X9_spreadEven_17, ↓r_X9_spreadEven_18, ↓r_X9_spreadEven_20, ↓r_X9_spreadEven_22, ↓r_X9_spreadEven_25, ↓r_X9_spreadEven_26, ↓r_X9_spreadEven_29, ↓r_X9_spreadEven_30, ↓r_X9_spreadEven_32, ↓r_X9_spreadEven_33, ↓r_X9_spreadEven_35, ↓r_X9_spreadEven_36, ↓r_X9_spreadEven_38, ↓r_X9_spreadEven_40, ↓r_X9_spreadEven_42, ↓r_X9_spreadEven_45, ↓r_X9_spreadEven_46, ↓r_X9_spreadEven_47, ↓r_X9_spreadEven_49, ↓r_X9_spreadEven_52, ↓r_X9_spreadEven_55, ↓r_X9_spreadEven_57, ↓r_X9_spreadEven_59, ↓r_X9_spreadEven_62, ↓r_X9_spreadEven_63, ↓r_X9_spreadEven_66, ↓r_X9_spreadEven_67, ↓r_X9_spreadEven_69, ↓r_X9_spreadEven_70, ↓r_X9_spreadEven_71, ↓r_X9_spreadEven_73, ↓r_X9_spreadEven_74, ↓r_X9_spreadEven_76, ↓r_X9_spreadEven_79, ↓r_X9_spreadEven_80, ↓r_X9_spreadEven_83, ↓r_X9_spreadEven_84, ↓r_X9_spreadEven_85, ↓r_X9_spreadEven_86, ↓r_X9_spreadEven_89, ↓r_X9_spreadEven_92, ↓r_X9_spreadEven_95, ↓x2_0, ↓x1_1, ↓v9_2, ↓x1_4, ↓x0, ↓x32_1, ↓x33, ↓x9, ↓x4_5n, ↓x4_5i, ↓x4_5r, ↓x1_5, ↓x31_1, ↓x31b1, ↓x1_3, ↓x12, ↓x4_6n, ↓x4_6i, ↓x4_6r, ↓x4_7n, ↓x4_7i, ↓x4_7r, ↓x1_7, ↓x32_3, ↓lf_X9_isNext, ↓x31_0, ↓x31b0, ↓x32_0, ↓f9_5, ↓x1_2, ↓x8, ↓x11, ↓x1_6, ↓x31_5, ↓x7_6n, ↓x7_6i, ↓x7_6r, ↓x7_7n, ↓x7_7i, ↓x7_7r, ↓x48_4, ↓l_249, ↓s_249, ↓l_250, ↓s_250, ↓l_251, ↓s_251, ↓l_252, ↓s_252, ↓l_253, ↓s_253, ↓l_254, ↓s_254, ↓l_255, ↓s_255, ↓l_256, ↓s_256, ↓l_257, ↓s_257, ↓l_258, ↓s_258, ↓l_259, ↓s_259, ↓l_260, ↓s_260, ↓l_261, ↓s_261, ↓l_262, ↓s_262, ↓l_263, ↓s_263, ↓l_264, ↓s_264, ↓l_265, ↓s_265, ↓l_266, ↓s_266, ↓l_267, ↓s_267, ↓l_268, ↓s_268, ↓l_269, ↓s_269, ↓l_270, ↓s_270, ↓l_271, ↓s_271, ↓l_272, ↓s_272, ↓l_273, ↓s_273, ↓l_274, ↓s_274, and_self, and_true, true_and, implies_true, true_implies, RTf_eq]
    refine ⟨fun q => by omega, fun _ => ⟨fun q => ?_, fun q => ⟨fun q2 => ?_, fun q2 => ?_⟩⟩⟩
    · exact hno (by rw [hmk]; simp at q; simp [q])
    · have h9 := hno (by rw [hmk]; simp [q2])
      rw [q2] at h9
      exact h9
    · have ht : m (k : Int) = true := by rw [hmk]; simp [q, q2]
      have hpos := cntb_pos (m := m) (k := k) (by omega) ht 8 (by omega)
      rw [← hn] at hpos
      have hL := hL0 hpos
      rw [hcs, if_pos ht, ← bl_s, ← up2_putv (by omega) (by omega), ← hN] at ih
      have hf : evF all m (getv M 254 row) (k : Int) = all / n + (if 0 < L0 - cntb m k then 1 else 0) := by simp [evF, ht, ← hn, hL]
      rw [hf] at ih
      simp +contextual (disch := first | omega | exact Nat.le_of_ble_eq_true rfl | assumption) only [↓r_X9_spreadEven_0, ↓r_X9_spreadEven_1, ↓r_X9_spreadEven_2, ↓r_X9_spreadEven_5, ↓r_X9_spreadEven_7, ↓r_X9_spreadEven_9, ↓r_X9_spreadEven_12, ↓r_X9_spreadEven_13, ↓r_X9_spreadEven_16, ↓r_X9_spreadEven_17, ↓r_X9_spreadEven_18, ↓r_X9_spreadEven_20, ↓r_X9_spreadEven_22, ↓r_X9_spreadEven_25, ↓r_X9_spreadEven_26, ↓r_X9_spreadEven_29, ↓r_X9_spreadEven_30, ↓r_X9_spreadEven_32, ↓r_X9_spreadEven_33, ↓r_X9_spreadEven_35, ↓r_X9_spreadEven_36, ↓r_X9_spreadEven_38, ↓r_X9_spreadEven_40, ↓r_X9_spreadEven_42, ↓r_X9_spreadEven_45, ↓r_X9_spreadEven_46, ↓r_X9_spreadEven_47, ↓r_X9_spreadEven_49, ↓r_X9_spreadEven_52, ↓r_X9_spreadEven_55, ↓r_X9_spreadEven_57, ↓r_X9_spreadEven_59, ↓r_X9_spreadEven_62, ↓r_X9_spreadEven_63, ↓r_X9_spreadEven_66, ↓r_X9_spreadEven_67, ↓r_X9_spreadEven_69, ↓r_X9_spreadEven_70, ↓r_X9_spreadEven_71, ↓r_X9_spreadEven_73, ↓r_X9_spreadEven_74, ↓r_X9_spreadEven_76, ↓r_X9_spreadEven_79, ↓r_X9_spreadEven_80, ↓r_X9_spreadEven_83, ↓r_X9_spreadEven_84, ↓r_X9_spreadEven_85, ↓r_X9_spreadEven_86, ↓r_X9_spreadEven_89, ↓r_X9_spreadEven_92, ↓r_X9_spreadEven_95, ↓x2_0, ↓x1_1, ↓v9_2, ↓x1_4, ↓x0, ↓x32_1, ↓x33, ↓x9, ↓x4_5n, ↓x4_5i, ↓x4_5r, ↓x1_5, ↓x31_1, ↓x31b1, ↓x1_3, ↓x12, ↓x4_6n, ↓x4_6i, ↓x4_6r, ↓x4_7n, ↓x4_7i, ↓x4_7r, ↓x1_7, ↓x32_3, ↓lf_X9_isNext, ↓x31_0, ↓x31b0, ↓x32_0, ↓f9_5, ↓x1_2, ↓x8, ↓x11, ↓x1_6, ↓x31_5, ↓x7_6n, ↓x7_6i, ↓x7_6r, ↓x7_7n, ↓x7_7i, ↓x7_7r, ↓x48_4, ↓l_249, ↓s_249, ↓l_250, ↓s_250, ↓l_251, ↓s_251, ↓l_252, ↓s_252, ↓l_253, ↓s_253, ↓l_254, ↓s_254, ↓l_255, ↓s_255, ↓l_256, ↓s_256, ↓l_257, ↓s_257, ↓l_258, ↓s_258, ↓l_259, ↓s_259, ↓l_260, ↓s_260, ↓l_261, ↓s_261, ↓l_262, ↓s_262, ↓l_263, ↓s_263, ↓l_264, ↓s_264, ↓l_265, ↓s_265, ↓l_266, ↓s_266, ↓l_267, ↓s_267, ↓l_268, ↓s_268, ↓l_269, ↓s_269, ↓l_270, ↓s_270, ↓l_271, ↓s_271, ↓l_272, ↓s_272, ↓l_273, ↓s_273, ↓l_274, ↓s_274, and_self, and_true, true_and, implies_true, true_implies, RTf_eq]
      refine ⟨fun q3 => ?_, fun q3 => ?_⟩
      · rw [if_neg (by omega)] at ih
        rw [show L0 - cntb m k + -1 = L0 - (cntb m k + 1) by omega]
        exact ih
      · rw [if_pos (by omega)] at ih
        rw [show L0 - cntb m k + -1 = L0 - (cntb m k + 1) by omega]
        exact ih
theorem c_spreadEven {i row all but : Int} (hi : 0 ≤ i ∧ i < 8) (hrow : 0 ≤ row ∧ row + 8 ≤ 512) (hall : 0 ≤ all ∧ all ≤ 1000) (hbut : but = -9 ∨ (0 ≤ but ∧ but < 8 ∧ nbm M i but = true)) (hM : ∀ z, 0 ≤ z → z < 64 → rg (M 253 z)) : Ctr E 3 95 [vr 248, vi i, vi row, vi all, vi but] (toAH S M) none (toAH S (putv M 254 row (evF all (wob (nbm M i) but) (getv M 254 row)))) := by
  have hb : rg but := by rcases hbut with h | h <;> omega
  have hc := cntb_rng (nbm M i) 8
  obtain ⟨m, hm⟩ : ∃ m, m = wob (nbm M i) but := ⟨_, rfl⟩
  obtain ⟨n, hn⟩ : ∃ n, n = cntb m 8 := ⟨_, rfl⟩
  have hcm := cntb_rng m 8
  rw [← hm]
  have h0 : putv M 254 row (bl 0 (evF all m (getv M 254 row)) (getv M 254 row)) = M := putv_id (fun k h1 h2 => bl_0 h1)
  have hn2 : (but = -9 → cntb (nbm M i) 8 - 0 = n) ∧ (¬ but = -9 → cntb (nbm M i) 8 - 1 = n) := by
    refine ⟨fun h => ?_, fun h => ?_⟩
    · rw [hn, hm, h, cntb_congr (m := wob (nbm M i) (-9)) (m' := nbm M i) 8 (fun k h1 h2 => wob_9 h1)]; omega
    · have hb2 : 0 ≤ but ∧ but < 8 ∧ nbm M i but = true := by rcases hbut with h3 | h3; exact absurd h3 h; exact h3
      rw [hn, hm, cnt_wob hb2.1, if_pos ⟨by omega, hb2.2.2⟩]
  refine Ctr_f mi_X9_spreadEven mo_X9_spreadEven (Nat.le_of_ble_eq_true rfl) ⟨Nat.le_refl _, Nat.le_refl _⟩ (fun g lm => ?_)
  rw [show entL mi_X9_spreadEven.2.2.1 [vr 248, vi i, vi row, vi all, vi but] = [some (vr 248), some (vi i), some (vi row), some (vi all), some (vi but), none, none, none] from rfl]
  refine e_X9_spreadEven 400 (lfok E (by omega)) ?_
  simp +contextual (disch := first | omega | exact Nat.le_of_ble_eq_true rfl | assumption) only [↓r_X9_spreadEven_0, ↓r_X9_spreadEven_1, ↓r_X9_spreadEven_2, ↓r_X9_spreadEven_5, ↓r_X9_spreadEven_7, ↓r_X9_spreadEven_9, ↓r_X9_spreadEven_12, ↓r_X9_spreadEven_13, ↓r_X9_spreadEven_16, ↓r_X9_spreadEven_17, ↓r_X9_spreadEven_18, ↓r_X9_spreadEven_20, ↓r_X9_spreadEven_22, ↓r_X9_spreadEven_25, ↓r_X9_spreadEven_26, ↓r_X9_spreadEven_29, ↓r_X9_spreadEven_30, ↓r_X9_spreadEven_32, ↓r_X9_spreadEven_33, ↓r_X9_spreadEven_35, ↓r_X9_spreadEven_36, ↓r_X9_spreadEven_38, ↓r_X9_spreadEven_40, ↓r_X9_spreadEven_42, ↓r_X9_spreadEven_45, ↓r_X9_spreadEven_46, ↓r_X9_spreadEven_47, ↓r_X9_spreadEven_49, ↓r_X9_spreadEven_52, ↓r_X9_spreadEven_55, ↓r_X9_spreadEven_57, ↓r_X9_spreadEven_59, ↓r_X9_spreadEven_62, ↓r_X9_spreadEven_63, ↓r_X9_spreadEven_66, ↓r_X9_spreadEven_67, ↓r_X9_spreadEven_69, ↓r_X9_spreadEven_70, ↓r_X9_spreadEven_71, ↓r_X9_spreadEven_73, ↓r_X9_spreadEven_74, ↓r_X9_spreadEven_76, ↓r_X9_spreadEven_79, ↓r_X9_spreadEven_80, ↓r_X9_spreadEven_83, ↓r_X9_spreadEven_84, ↓r_X9_spreadEven_85, ↓r_X9_spreadEven_86, ↓r_X9_spreadEven_89, ↓r_X9_spreadEven_92, ↓r_X9_spreadEven_95, ↓x2_0, ↓x1_1, ↓v9_2, ↓x1_4, ↓x0, ↓x32_1, ↓x33, ↓x9, ↓x4_5n, ↓x4_5i, ↓x4_5r, ↓x1_5, ↓x31_1, ↓x31b1, ↓x1_3, ↓x12, ↓x4_6n, ↓x4_6i, ↓x4_6r, ↓x4_7n, ↓x4_7i, ↓x4_7r, ↓x1_7, ↓x32_3, ↓lf_X9_isNext, ↓x31_0, ↓x31b0, ↓x32_0, ↓f9_5, ↓x1_2, ↓x8, ↓x11, ↓x1_6, ↓x31_5, ↓x7_6n, ↓x7_6i, ↓x7_6r, ↓x7_7n, ↓x7_7i, ↓x7_7r, ↓x48_4, ↓l_249, ↓s_249, ↓l_250, ↓s_250, ↓l_251, ↓s_251, ↓l_252, ↓s_252, ↓l_253, ↓s_253, ↓l_254, ↓s_254, ↓l_255, ↓s_255, ↓l_256, ↓s_256, ↓l_257, ↓s_257, ↓l_258, ↓s_258, ↓l_259, ↓s_259, ↓l_260, ↓s_260, ↓l_261, ↓s_261, ↓l_262, ↓s_262, ↓l_263, ↓s_263, ↓l_264, ↓s_264, ↓l_265, ↓s_265, ↓l_266, ↓s_266, ↓l_267, ↓s_267, ↓l_268, ↓s_268, ↓l_269, ↓s_269, ↓l_270, ↓s_270, ↓l_271, ↓s_271, ↓l_272, ↓s_272, ↓l_273, ↓s_273, ↓l_274, ↓s_274, and_self, and_true, true_and, implies_true, true_implies, RTf_eq]
  refine ck_r (c_manyNext hi hM) (by omega) (by simp) ?_
  simp +contextual (disch := first | omega | exact Nat.le_of_ble_eq_true rfl | assumption) only [↓r_X9_spreadEven_0, ↓r_X9_spreadEven_1, ↓r_X9_spreadEven_2, ↓r_X9_spreadEven_5, ↓r_X9_spreadEven_7, ↓r_X9_spreadEven_9, ↓r_X9_spreadEven_12, ↓r_X9_spreadEven_13, ↓r_X9_spreadEven_16, ↓r_X9_spreadEven_17, ↓r_X9_spreadEven_18, ↓r_X9_spreadEven_20, ↓r_X9_spreadEven_22, ↓r_X9_spreadEven_25, ↓r_X9_spreadEven_26, ↓r_X9_spreadEven_29, ↓r_X9_spreadEven_30, ↓r_X9_spreadEven_32, ↓r_X9_spreadEven_33, ↓r_X9_spreadEven_35, ↓r_X9_spreadEven_36, ↓r_X9_spreadEven_38, ↓r_X9_spreadEven_40, ↓r_X9_spreadEven_42, ↓r_X9_spreadEven_45, ↓r_X9_spreadEven_46, ↓r_X9_spreadEven_47, ↓r_X9_spreadEven_49, ↓r_X9_spreadEven_52, ↓r_X9_spreadEven_55, ↓r_X9_spreadEven_57, ↓r_X9_spreadEven_59, ↓r_X9_spreadEven_62, ↓r_X9_spreadEven_63, ↓r_X9_spreadEven_66, ↓r_X9_spreadEven_67, ↓r_X9_spreadEven_69, ↓r_X9_spreadEven_70, ↓r_X9_spreadEven_71, ↓r_X9_spreadEven_73, ↓r_X9_spreadEven_74, ↓r_X9_spreadEven_76, ↓r_X9_spreadEven_79, ↓r_X9_spreadEven_80, ↓r_X9_spreadEven_83, ↓r_X9_spreadEven_84, ↓r_X9_spreadEven_85, ↓r_X9_spreadEven_86, ↓r_X9_spreadEven_89, ↓r_X9_spreadEven_92, ↓r_X9_spreadEven_95, ↓x2_0, ↓x1_1, ↓v9_2, ↓x1_4, ↓x0, ↓x32_1, ↓x33, ↓x9, ↓x4_5n, ↓x4_5i, ↓x4_5r, ↓x1_5, ↓x31_1, ↓x31b1, ↓x1_3, ↓x12, ↓x4_6n, ↓x4_6i, ↓x4_6r, ↓x4_7n, ↓x4_7i, ↓x4_7r, ↓x1_7, ↓x32_3, ↓lf_X9_isNext, ↓x31_0, ↓x31b0, ↓x32_0, ↓f9_5, ↓x1_2, ↓x8, ↓x11, ↓x1_6, ↓x31_5, ↓x7_6n, ↓x7_6i, ↓x7_6r, ↓x7_7n, ↓x7_7i, ↓x7_7r, ↓x48_4, ↓l_249, ↓s_249, ↓l_250, ↓s_250, ↓l_251, ↓s_251, ↓l_252, ↓s_252, ↓l_253, ↓s_253, ↓l_254, ↓s_254, ↓l_255, ↓s_255, ↓l_256, ↓s_256, ↓l_257, ↓s_257, ↓l_258, ↓s_258, ↓l_259, ↓s_259, ↓l_260, ↓s_260, ↓l_261, ↓s_261, ↓l_262, ↓s_262, ↓l_263, ↓s_263, ↓l_264, ↓s_264, ↓l_265, ↓s_265, ↓l_266, ↓s_266, ↓l_267, ↓s_267, ↓l_268, ↓s_268, ↓l_269, ↓s_269, ↓l_270, ↓s_270, ↓l_271, ↓s_271, ↓l_272, ↓s_272, ↓l_273, ↓s_273, ↓l_274, ↓s_274, and_self, and_true, true_and, implies_true, true_implies, RTf_eq]
  have key : ∀ L0, (0 < n → L0 = all % n) → (rg L0 ∧ -1000 ≤ L0) → G E g mi_X9_spreadEven 3 lm (RTf none (toAH S (putv M 254 row (evF all m (getv M 254 row))))) 38 [some (vr 248), some (vi i), some (vi row), some (vi all), some (vi but), some (vi n), some (vi L0), some (vi 0)] [] (toAH S M) := by
    intro L0 h1 h2
    have := l_spreadEven (E := E) (S := S) (g := g) (lm := lm) (RT := RTf none (toAH S (putv M 254 row (evF all m (getv M 254 row))))) hm hn h1 h2 hi hrow hall hb hM ⟨rfl, rfl⟩ 0 (by omega)
    rw [h0] at this
    simpa [cntb] using this
  have hpos : ∀ q : ¬ n = 0, 0 ≤ all % n ∧ all % n < n := fun q => ⟨Int.emod_nonneg _ q, Int.emod_lt_of_pos _ (by omega)⟩
  refine ⟨fun q => ?_, fun q => ?_⟩
  · rw [hn2.2 q]
    refine ⟨fun q2 => ?_, fun q2 => ?_⟩
    · have := hpos q2
      exact key _ (fun _ => rfl) (by omega)
    · exact key 0 (fun h => by omega) (by omega)
  · rw [hn2.1 (by simpa using q)]
    refine ⟨fun q2 => ?_, fun q2 => ?_⟩
    · have := hpos q2
      exact key _ (fun _ => rfl) (by omega)
    · exact key 0 (fun h => by omega) (by omega)
/-- an even row: the members' parts, nothing elsewhere -/
def ev0 (m : Set8) : Vec := evF 1000 m (fun _ => 0)
theorem evF_congr {all : Int} {m m' : Set8} {v v' : Vec} (hm : ∀ k : Int, 0 ≤ k → k < 8 → m k = m' k) (hv : ∀ k : Int, 0 ≤ k → k < 8 → m k = false → v k = v' k) : ∀ k : Int, 0 ≤ k → k < 8 → evF all m v k = evF all m' v' k := by
  intro k h1 h2
  unfold evF
  rw [cntb_congr (m := m) (m' := m') 8 hm, cntb_congr (m := m) (m' := m') k.toNat (fun q a b => hm q a (by omega)), ← hm k h1 h2]
  by_cases h : m k = true
  · rw [if_pos h, if_pos h]
  · rw [if_neg h, if_neg h, hv k h1 h2 (by simpa using h)]
theorem putv_bl0 {c off : Int} {f : Vec} : putv M c off (bl 0 f (getv M c off)) = M := putv_id (fun k h1 h2 => bl_0 h1)
theorem l_makeEven {g : GT} {lm : Nat × Nat} {RT : RTy} {i d : Int} (hi : 0 ≤ i ∧ i < 8) (hd : 0 ≤ d ∧ d < 8) (hM : ∀ z, 0 ≤ z → z < 64 → rg (M 253 z)) (hr : RT none (toAH S (putv M 254 (8 * (8 * i + d)) (ev0 (nbm M i))))) :
    ∀ k : Nat, k ≤ 8 → G E g mi_X9_makeEven 4 lm RT 2 [some (vr 248), some (vi i), some (vi d), some (vi (k : Int))] [] (toAH S (putv M 254 (8 * (8 * i + d)) (bl k (fun _ => 0) (getv M 254 (8 * (8 * i + d)))))) := by
  refine down ?_ ?_
  · refine q_X9_makeEven_2 400 (lfok E (by omega)) ?_
    rw [putv_congr (g := fun _ => 0) (fun k h1 h2 => bl_8 h2)]
    simp +contextual (disch := first | omega | exact Nat.le_of_ble_eq_true rfl | assumption) only [↓r_X9_makeEven_0, ↓r_X9_makeEven_1, ↓r_X9_makeEven_2, ↓r_X9_makeEven_3, ↓r_X9_makeEven_5, ↓r_X9_makeEven_8, ↓r_X9_makeEven_9, ↓r_X9_makeEven_12, ↓r_X9_makeEven_13, ↓r_X9_makeEven_14, ↓r_X9_makeEven_17, ↓r_X9_makeEven_18, ↓r_X9_makeEven_19, ↓r_X9_makeEven_20, ↓r_X9_makeEven_21, ↓r_X9_makeEven_24, ↓r_X9_makeEven_27, ↓r_X9_makeEven_28, ↓r_X9_makeEven_29, ↓r_X9_makeEven_30, ↓r_X9_makeEven_31, ↓r_X9_makeEven_34, ↓r_X9_makeEven_37, ↓r_X9_makeEven_39, ↓r_X9_makeEven_42, ↓x0, ↓x4_3n, ↓x4_3i, ↓x4_3r, ↓x1_3, ↓x32_3, ↓x2_0, ↓f9_5, ↓x1_1, ↓x1_2, ↓lf_X9_rowOf, ↓x8, ↓x7_3n, ↓x7_3i, ↓x7_3r, ↓x33, ↓v9_5, ↓x48_4, ↓l_249, ↓s_249, ↓l_250, ↓s_250, ↓l_251, ↓s_251, ↓l_252, ↓s_252, ↓l_253, ↓s_253, ↓l_254, ↓s_254, ↓l_255, ↓s_255, ↓l_256, ↓s_256, ↓l_257, ↓s_257, ↓l_258, ↓s_258, ↓l_259, ↓s_259, ↓l_260, ↓s_260, ↓l_261, ↓s_261, ↓l_262, ↓s_262, ↓l_263, ↓s_263, ↓l_264, ↓s_264, ↓l_265, ↓s_265, ↓l_266, ↓s_266, ↓l_267, ↓s_267, ↓l_268, ↓s_268, ↓l_269, ↓s_269, ↓l_270, ↓s_270, ↓l_271, ↓s_271, ↓l_272, ↓s_272, ↓l_273, ↓s_273, ↓l_274, ↓s_274, and_self, and_true, true_and, implies_true, true_implies, RTf_eq]
    refine ⟨fun _ => ?_, fun q => absurd (by omega) q⟩
    refine ck_v (c_spreadEven hi (by omega) (by omega) (Or.inl rfl) (fun z h1 h2 => by rw [putv_ne (by omega)]; exact hM z h1 h2)) (by omega) (by simp) ?_
    simp +contextual (disch := first | omega | exact Nat.le_of_ble_eq_true rfl | assumption) only [↓r_X9_makeEven_0, ↓r_X9_makeEven_1, ↓r_X9_makeEven_2, ↓r_X9_makeEven_3, ↓r_X9_makeEven_5, ↓r_X9_makeEven_8, ↓r_X9_makeEven_9, ↓r_X9_makeEven_12, ↓r_X9_makeEven_13, ↓r_X9_makeEven_14, ↓r_X9_makeEven_17, ↓r_X9_makeEven_18, ↓r_X9_makeEven_19, ↓r_X9_makeEven_20, ↓r_X9_makeEven_21, ↓r_X9_makeEven_24, ↓r_X9_makeEven_27, ↓r_X9_makeEven_28, ↓r_X9_makeEven_29, ↓r_X9_makeEven_30, ↓r_X9_makeEven_31, ↓r_X9_makeEven_34, ↓r_X9_makeEven_37, ↓r_X9_makeEven_39, ↓r_X9_makeEven_42, ↓x0, ↓x4_3n, ↓x4_3i, ↓x4_3r, ↓x1_3, ↓x32_3, ↓x2_0, ↓f9_5, ↓x1_1, ↓x1_2, ↓lf_X9_rowOf, ↓x8, ↓x7_3n, ↓x7_3i, ↓x7_3r, ↓x33, ↓v9_5, ↓x48_4, ↓l_249, ↓s_249, ↓l_250, ↓s_250, ↓l_251, ↓s_251, ↓l_252, ↓s_252, ↓l_253, ↓s_253, ↓l_254, ↓s_254, ↓l_255, ↓s_255, ↓l_256, ↓s_256, ↓l_257, ↓s_257, ↓l_258, ↓s_258, ↓l_259, ↓s_259, ↓l_260, ↓s_260, ↓l_261, ↓s_261, ↓l_262, ↓s_262, ↓l_263, ↓s_263, ↓l_264, ↓s_264, ↓l_265, ↓s_265, ↓l_266, ↓s_266, ↓l_267, ↓s_267, ↓l_268, ↓s_268, ↓l_269, ↓s_269, ↓l_270, ↓s_270, ↓l_271, ↓s_271, ↓l_272, ↓s_272, ↓l_273, ↓s_273, ↓l_274, ↓s_274, and_self, and_true, true_and, implies_true, true_implies, RTf_eq]
    rw [putv_putv]
    have e : putv M 254 (8 * (8 * i + d)) (evF 1000 (wob (nbm (putv M 254 (8 * (8 * i + d)) fun _ => 0) i) (-9)) (getv (putv M 254 (8 * (8 * i + d)) fun _ => 0) 254 (8 * (8 * i + d)))) = putv M 254 (8 * (8 * i + d)) (ev0 (nbm M i)) := by
      refine putv_congr (evF_congr (fun k h1 h2 => ?_) (fun k h1 h2 _ => ?_))
      · rw [wob_9 h1]
        unfold nbm
        rw [putv_ne (by omega)]
      · exact getv_putv h1 h2
    rw [e]
    exact hr
  · intro k hk ih
    rw [← bl_s, ← up2_putv (by omega) (by omega)] at ih
    refine q_X9_makeEven_2 400 (lfok E (by omega)) ?_
    simp +contextual (disch := first | omega | exact Nat.le_of_ble_eq_true rfl | assumption) only [↓r_X9_makeEven_0, ↓r_X9_makeEven_1, ↓r_X9_makeEven_2, ↓r_X9_makeEven_3, ↓r_X9_makeEven_5, ↓r_X9_makeEven_8, ↓r_X9_makeEven_9, ↓r_X9_makeEven_12, ↓r_X9_makeEven_13, ↓r_X9_makeEven_14, ↓r_X9_makeEven_17, ↓r_X9_makeEven_18, ↓r_X9_makeEven_19, ↓r_X9_makeEven_20, ↓r_X9_makeEven_21, ↓r_X9_makeEven_24, ↓r_X9_makeEven_27, ↓r_X9_makeEven_28, ↓r_X9_makeEven_29, ↓r_X9_makeEven_30, ↓r_X9_makeEven_31, ↓r_X9_makeEven_34, ↓r_X9_makeEven_37, ↓r_X9_makeEven_39, ↓r_X9_makeEven_42, ↓x0, ↓x4_3n, ↓x4_3i, ↓x4_3r, ↓x1_3, ↓x32_3, ↓x2_0, ↓f9_5, ↓x1_1, ↓x1_2, ↓lf_X9_rowOf, ↓x8, ↓x7_3n, ↓x7_3i, ↓x7_3r, ↓x33, ↓v9_5, ↓x48_4, ↓l_249, ↓s_249, ↓l_250, ↓s_250, ↓l_251, ↓s_251, ↓l_252, ↓s_252, ↓l_253, ↓s_253, ↓l_254, ↓s_254, ↓l_255, ↓s_255, ↓l_256, ↓s_256, ↓l_257, ↓s_257, ↓l_258, ↓s_258, ↓l_259, ↓s_259, ↓l_260, ↓s_260, ↓l_261, ↓s_261, ↓l_262, ↓s_262, ↓l_263, ↓s_263, ↓l_264, ↓s_264, ↓l_265, ↓s_265, ↓l_266, ↓s_266, ↓l_267, ↓s_267, ↓l_268, ↓s_268, ↓l_269, ↓s_269, ↓l_270, ↓s_270, ↓l_271, ↓s_271, ↓l_272, ↓s_272, ↓l_273, ↓s_273, ↓l_274, ↓s_274, and_self, and_true, true_and, implies_true, true_implies, RTf_eq]
    exact ⟨fun q => by omega, fun _ => ih⟩
theorem c_makeEven {i d : Int} (hi : 0 ≤ i ∧ i < 8) (hd : 0 ≤ d ∧ d < 8) (hM : ∀ z, 0 ≤ z → z < 64 → rg (M 253 z)) : Ctr E 4 96 [vr 248, vi i, vi d] (toAH S M) none (toAH S (putv M 254 (8 * (8 * i + d)) (ev0 (nbm M i)))) := by
  refine Ctr_f mi_X9_makeEven mo_X9_makeEven (Nat.le_of_ble_eq_true rfl) ⟨Nat.le_refl _, Nat.le_refl _⟩ (fun g lm => ?_)
  rw [show entL mi_X9_makeEven.2.2.1 [vr 248, vi i, vi d] = [some (vr 248), some (vi i), some (vi d), none] from rfl]
  refine e_X9_makeEven 400 (lfok E (by omega)) ?_
  simp +contextual (disch := first | omega | exact Nat.le_of_ble_eq_true rfl | assumption) only [↓r_X9_makeEven_0, ↓r_X9_makeEven_1, ↓r_X9_makeEven_2, ↓r_X9_makeEven_3, ↓r_X9_makeEven_5, ↓r_X9_makeEven_8, ↓r_X9_makeEven_9, ↓r_X9_makeEven_12, ↓r_X9_makeEven_13, ↓r_X9_makeEven_14, ↓r_X9_makeEven_17, ↓r_X9_makeEven_18, ↓r_X9_makeEven_19, ↓r_X9_makeEven_20, ↓r_X9_makeEven_21, ↓r_X9_makeEven_24, ↓r_X9_makeEven_27, ↓r_X9_makeEven_28, ↓r_X9_makeEven_29, ↓r_X9_makeEven_30, ↓r_X9_makeEven_31, ↓r_X9_makeEven_34, ↓r_X9_makeEven_37, ↓r_X9_makeEven_39, ↓r_X9_makeEven_42, ↓x0, ↓x4_3n, ↓x4_3i, ↓x4_3r, ↓x1_3, ↓x32_3, ↓x2_0, ↓f9_5, ↓x1_1, ↓x1_2, ↓lf_X9_rowOf, ↓x8, ↓x7_3n, ↓x7_3i, ↓x7_3r, ↓x33, ↓v9_5, ↓x48_4, ↓l_249, ↓s_249, ↓l_250, ↓s_250, ↓l_251, ↓s_251, ↓l_252, ↓s_252, ↓l_253, ↓s_253, ↓l_254, ↓s_254, ↓l_255, ↓s_255, ↓l_256, ↓s_256, ↓l_257, ↓s_257, ↓l_258, ↓s_258, ↓l_259, ↓s_259, ↓l_260, ↓s_260, ↓l_261, ↓s_261, ↓l_262, ↓s_262, ↓l_263, ↓s_263, ↓l_264, ↓s_264, ↓l_265, ↓s_265, ↓l_266, ↓s_266, ↓l_267, ↓s_267, ↓l_268, ↓s_268, ↓l_269, ↓s_269, ↓l_270, ↓s_270, ↓l_271, ↓s_271, ↓l_272, ↓s_272, ↓l_273, ↓s_273, ↓l_274, ↓s_274, and_self, and_true, true_and, implies_true, true_implies, RTf_eq]
  have := l_makeEven (E := E) (S := S) (M := M) (g := g) (lm := lm) (RT := RTf none (toAH S (putv M 254 (8 * (8 * i + d)) (ev0 (nbm M i))))) hi hd hM ⟨rfl, rfl⟩ 0 (by omega)
  rw [putv_bl0] at this
  exact this
/-- the rows of node i for the aims below k, even; no notes for them -/
def fgM (M : Mem) (i : Int) (k : Int) : Mem := fun c z => if c = 254 ∧ 64 * i ≤ z ∧ z < 64 * i + 8 * k then ev0 (nbm M i) (z % 8) else if c = 271 ∧ 8 * i ≤ z ∧ z < 8 * i + k then 0 else M c z
theorem fgM_0 {i : Int} : fgM M i 0 = M := by
  funext a b
  unfold fgM
  rw [if_neg (by omega), if_neg (by omega)]
theorem fgM_c {i k c z : Int} (h1 : c ≠ 254) (h2 : c ≠ 271) : fgM M i k c z = M c z := by
  unfold fgM
  rw [if_neg (fun q => h1 q.1), if_neg (fun q => h2 q.1)]
theorem nbm_congr {N : Mem} (h : ∀ z, N 253 z = M 253 z) {i : Int} : nbm N i = nbm M i := by
  funext k
  unfold nbm
  rw [h]
theorem fgM_s {i : Int} {k : Int} (hk : 0 ≤ k) : up2 (putv (fgM M i k) 254 (8 * (8 * i + k)) (ev0 (nbm M i))) 271 (8 * i + k) 0 = fgM M i (k + 1) := by
  funext a b
  simp only [up2, putv, fgM]
  repeat' split
  all_goals first | rfl | (exfalso; omega) | (congr 1; omega)
theorem l_forgets {g : GT} {lm : Nat × Nat} {RT : RTy} {i : Int} (hi : 0 ≤ i ∧ i < 8) (hM : ∀ z, 0 ≤ z → z < 64 → rg (M 253 z)) (hr : RT none (toAH S (fgM M i 8))) :
    ∀ k : Nat, k ≤ 8 → G E g mi_X9_forgets 5 lm RT 2 [some (vr 248), some (vi i), some (vi (k : Int))] [] (toAH S (fgM M i k)) := by
  refine down ?_ ?_
  · refine q_X9_forgets_2 400 (lfok E (by omega)) ?_
    simp +contextual (disch := first | omega | exact Nat.le_of_ble_eq_true rfl | assumption) only [↓r_X9_forgets_0, ↓r_X9_forgets_1, ↓r_X9_forgets_2, ↓r_X9_forgets_3, ↓r_X9_forgets_5, ↓r_X9_forgets_8, ↓r_X9_forgets_9, ↓r_X9_forgets_10, ↓r_X9_forgets_11, ↓r_X9_forgets_14, ↓r_X9_forgets_15, ↓r_X9_forgets_18, ↓r_X9_forgets_20, ↓r_X9_forgets_21, ↓r_X9_forgets_22, ↓r_X9_forgets_23, ↓r_X9_forgets_24, ↓r_X9_forgets_25, ↓r_X9_forgets_26, ↓r_X9_forgets_29, ↓r_X9_forgets_32, ↓x0, ↓x4_2n, ↓x4_2i, ↓x4_2r, ↓x1_2, ↓x32_3, ↓x2_0, ↓x1_1, ↓v9_3, ↓f9_30, ↓x10, ↓x8, ↓x7_2n, ↓x7_2i, ↓x7_2r, ↓x33, ↓x48_4, ↓l_249, ↓s_249, ↓l_250, ↓s_250, ↓l_251, ↓s_251, ↓l_252, ↓s_252, ↓l_253, ↓s_253, ↓l_254, ↓s_254, ↓l_255, ↓s_255, ↓l_256, ↓s_256, ↓l_257, ↓s_257, ↓l_258, ↓s_258, ↓l_259, ↓s_259, ↓l_260, ↓s_260, ↓l_261, ↓s_261, ↓l_262, ↓s_262, ↓l_263, ↓s_263, ↓l_264, ↓s_264, ↓l_265, ↓s_265, ↓l_266, ↓s_266, ↓l_267, ↓s_267, ↓l_268, ↓s_268, ↓l_269, ↓s_269, ↓l_270, ↓s_270, ↓l_271, ↓s_271, ↓l_272, ↓s_272, ↓l_273, ↓s_273, ↓l_274, ↓s_274, and_self, and_true, true_and, implies_true, true_implies, RTf_eq]
    exact ⟨fun _ => hr, fun q => absurd (by omega) q⟩
  · intro k hk ih
    refine q_X9_forgets_2 400 (lfok E (by omega)) ?_
    simp +contextual (disch := first | omega | exact Nat.le_of_ble_eq_true rfl | assumption) only [↓r_X9_forgets_0, ↓r_X9_forgets_1, ↓r_X9_forgets_2, ↓r_X9_forgets_3, ↓r_X9_forgets_5, ↓r_X9_forgets_8, ↓r_X9_forgets_9, ↓r_X9_forgets_10, ↓r_X9_forgets_11, ↓r_X9_forgets_14, ↓r_X9_forgets_15, ↓r_X9_forgets_18, ↓r_X9_forgets_20, ↓r_X9_forgets_21, ↓r_X9_forgets_22, ↓r_X9_forgets_23, ↓r_X9_forgets_24, ↓r_X9_forgets_25, ↓r_X9_forgets_26, ↓r_X9_forgets_29, ↓r_X9_forgets_32, ↓x0, ↓x4_2n, ↓x4_2i, ↓x4_2r, ↓x1_2, ↓x32_3, ↓x2_0, ↓x1_1, ↓v9_3, ↓f9_30, ↓x10, ↓x8, ↓x7_2n, ↓x7_2i, ↓x7_2r, ↓x33, ↓x48_4, ↓l_249, ↓s_249, ↓l_250, ↓s_250, ↓l_251, ↓s_251, ↓l_252, ↓s_252, ↓l_253, ↓s_253, ↓l_254, ↓s_254, ↓l_255, ↓s_255, ↓l_256, ↓s_256, ↓l_257, ↓s_257, ↓l_258, ↓s_258, ↓l_259, ↓s_259, ↓l_260, ↓s_260, ↓l_261, ↓s_261, ↓l_262, ↓s_262, ↓l_263, ↓s_263, ↓l_264, ↓s_264, ↓l_265, ↓s_265, ↓l_266, ↓s_266, ↓l_267, ↓s_267, ↓l_268, ↓s_268, ↓l_269, ↓s_269, ↓l_270, ↓s_270, ↓l_271, ↓s_271, ↓l_272, ↓s_272, ↓l_273, ↓s_273, ↓l_274, ↓s_274, and_self, and_true, true_and, implies_true, true_implies, RTf_eq]
    refine ⟨fun q => by omega, fun _ => ?_⟩
    have h253 : ∀ z, fgM M i k 253 z = M 253 z := fun z => fgM_c (by omega) (by omega)
    refine ck_v (c_makeEven hi (by omega) (fun z h1 h2 => by rw [h253]; exact hM z h1 h2)) (by omega) (by simp) ?_
    rw [nbm_congr h253]
    simp +contextual (disch := first | omega | exact Nat.le_of_ble_eq_true rfl | assumption) only [↓r_X9_forgets_0, ↓r_X9_forgets_1, ↓r_X9_forgets_2, ↓r_X9_forgets_3, ↓r_X9_forgets_5, ↓r_X9_forgets_8, ↓r_X9_forgets_9, ↓r_X9_forgets_10, ↓r_X9_forgets_11, ↓r_X9_forgets_14, ↓r_X9_forgets_15, ↓r_X9_forgets_18, ↓r_X9_forgets_20, ↓r_X9_forgets_21, ↓r_X9_forgets_22, ↓r_X9_forgets_23, ↓r_X9_forgets_24, ↓r_X9_forgets_25, ↓r_X9_forgets_26, ↓r_X9_forgets_29, ↓r_X9_forgets_32, ↓x0, ↓x4_2n, ↓x4_2i, ↓x4_2r, ↓x1_2, ↓x32_3, ↓x2_0, ↓x1_1, ↓v9_3, ↓f9_30, ↓x10, ↓x8, ↓x7_2n, ↓x7_2i, ↓x7_2r, ↓x33, ↓x48_4, ↓l_249, ↓s_249, ↓l_250, ↓s_250, ↓l_251, ↓s_251, ↓l_252, ↓s_252, ↓l_253, ↓s_253, ↓l_254, ↓s_254, ↓l_255, ↓s_255, ↓l_256, ↓s_256, ↓l_257, ↓s_257, ↓l_258, ↓s_258, ↓l_259, ↓s_259, ↓l_260, ↓s_260, ↓l_261, ↓s_261, ↓l_262, ↓s_262, ↓l_263, ↓s_263, ↓l_264, ↓s_264, ↓l_265, ↓s_265, ↓l_266, ↓s_266, ↓l_267, ↓s_267, ↓l_268, ↓s_268, ↓l_269, ↓s_269, ↓l_270, ↓s_270, ↓l_271, ↓s_271, ↓l_272, ↓s_272, ↓l_273, ↓s_273, ↓l_274, ↓s_274, and_self, and_true, true_and, implies_true, true_implies, RTf_eq]
    rw [fgM_s (by omega)]
    exact ih
theorem c_forgets {i : Int} (hi : 0 ≤ i ∧ i < 8) (hM : ∀ z, 0 ≤ z → z < 64 → rg (M 253 z)) : Ctr E 5 97 [vr 248, vi i] (toAH S M) none (toAH S (fgM M i 8)) := by
  refine Ctr_f mi_X9_forgets mo_X9_forgets (Nat.le_of_ble_eq_true rfl) ⟨Nat.le_refl _, Nat.le_refl _⟩ (fun g lm => ?_)
  rw [show entL mi_X9_forgets.2.2.1 [vr 248, vi i] = [some (vr 248), some (vi i), none] from rfl]
  refine e_X9_forgets 400 (lfok E (by omega)) ?_
  simp +contextual (disch := first | omega | exact Nat.le_of_ble_eq_true rfl | assumption) only [↓r_X9_forgets_0, ↓r_X9_forgets_1, ↓r_X9_forgets_2, ↓r_X9_forgets_3, ↓r_X9_forgets_5, ↓r_X9_forgets_8, ↓r_X9_forgets_9, ↓r_X9_forgets_10, ↓r_X9_forgets_11, ↓r_X9_forgets_14, ↓r_X9_forgets_15, ↓r_X9_forgets_18, ↓r_X9_forgets_20, ↓r_X9_forgets_21, ↓r_X9_forgets_22, ↓r_X9_forgets_23, ↓r_X9_forgets_24, ↓r_X9_forgets_25, ↓r_X9_forgets_26, ↓r_X9_forgets_29, ↓r_X9_forgets_32, ↓x0, ↓x4_2n, ↓x4_2i, ↓x4_2r, ↓x1_2, ↓x32_3, ↓x2_0, ↓x1_1, ↓v9_3, ↓f9_30, ↓x10, ↓x8, ↓x7_2n, ↓x7_2i, ↓x7_2r, ↓x33, ↓x48_4, ↓l_249, ↓s_249, ↓l_250, ↓s_250, ↓l_251, ↓s_251, ↓l_252, ↓s_252, ↓l_253, ↓s_253, ↓l_254, ↓s_254, ↓l_255, ↓s_255, ↓l_256, ↓s_256, ↓l_257, ↓s_257, ↓l_258, ↓s_258, ↓l_259, ↓s_259, ↓l_260, ↓s_260, ↓l_261, ↓s_261, ↓l_262, ↓s_262, ↓l_263, ↓s_263, ↓l_264, ↓s_264, ↓l_265, ↓s_265, ↓l_266, ↓s_266, ↓l_267, ↓s_267, ↓l_268, ↓s_268, ↓l_269, ↓s_269, ↓l_270, ↓s_270, ↓l_271, ↓s_271, ↓l_272, ↓s_272, ↓l_273, ↓s_273, ↓l_274, ↓s_274, and_self, and_true, true_and, implies_true, true_implies, RTf_eq]
  have := l_forgets (E := E) (S := S) (M := M) (g := g) (lm := lm) (RT := RTf none (toAH S (fgM M i 8))) hi hM ⟨rfl, rfl⟩ 0 (by omega)
  rw [show ((0 : Nat) : Int) = 0 from rfl, fgM_0] at this
  exact this
end
