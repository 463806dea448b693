/-! ===== fading, in the class ===== -/
def fdP (m : Set8) (e : Int) (v : Vec) : Vec := fun k => v k * (1000 - e) * cntb m 8 + 1000 * e
def fdF (fl : Int) (m : Set8) (e : Int) (v : Vec) : Vec := if cntb m 8 = 0 then v else liF m fl (sh1 1000 m (fdP m e v) v)
theorem fdP_sum {m : Set8} {e : Int} {v : Vec} (hs : smv m v 8 = 1000) : smv m (fdP m e v) 8 = 1000000 * cntb m 8 := by
  have e1 : (fdP m e v) = fun k => (fun k => ((1000 - e) * cntb m 8) * v k) k + (fun _ => 1000 * e) k := by
    funext k
    unfold fdP
    rw [Int.mul_assoc, Int.mul_comm]
  rw [e1, smv_add, smv_mul, smv_const, hs, Int.mul_comm _ 1000, ← Int.mul_assoc, ← Int.add_mul]
  congr 1
  omega
theorem fdP_rng {m : Set8} {e : Int} {v : Vec} {k : Int} (he : 0 ≤ e ∧ e ≤ 1000) (hv : 0 ≤ v k ∧ v k ≤ 1000) : (0 ≤ v k * (1000 - e) ∧ v k * (1000 - e) ≤ 1000000) ∧ (0 ≤ v k * (1000 - e) * cntb m 8 ∧ v k * (1000 - e) * cntb m 8 ≤ 8000000) ∧ 0 ≤ fdP m e v k ∧ fdP m e v k ≤ 10000000 := by
  have hc := cntb_rng m 8
  have a1 : 0 ≤ v k * (1000 - e) := Int.mul_nonneg hv.1 (by omega)
  have a2 : v k * (1000 - e) ≤ 1000 * 1000 := Int.mul_le_mul hv.2 (by omega) (by omega) (by omega)
  have a3 : 0 ≤ v k * (1000 - e) * cntb m 8 := Int.mul_nonneg a1 hc.1
  have a4 : v k * (1000 - e) * cntb m 8 ≤ 1000000 * 8 := Int.mul_le_mul (by omega) (by omega) hc.1 (by omega)
  unfold fdP
  omega
theorem fdW_ok {m : Set8} {e : Int} {v : Vec} (he : 0 ≤ e ∧ e ≤ 1000) (hv : RV m v) (hc : ¬ cntb m 8 = 0) : RV m (sh1 1000 m (fdP m e v) v) ∧ ∀ k, m k = false → sh1 1000 m (fdP m e v) v k = v k := by
  have hc0 := cntb_rng m 8
  have hcp : 0 < cntb m 8 := by omega
  have hsum := fdP_sum (e := e) (hv.2 hcp)
  have h := shF_ok (R := 1000) (m := m) (p := fdP m e v) (v := v) (w := fun _ => -1) (by omega) (fun k a b c => (fdP_rng (m := m) he (hv.1 k a b c)).2.2.1) (by omega) hcp
  refine ⟨⟨fun k a b c => ⟨h.1 k a b c, ?_⟩, fun _ => h.2.1⟩, h.2.2⟩
  have := smv_ge (m := m) (v := sh1 1000 m (fdP m e v) v) 8 (fun k a b c => h.1 k a (by omega) c) k a (by omega) c
  have h2 : smv m (sh1 1000 m (fdP m e v) v) 8 = 1000 := h.2.1
  omega
theorem fdF_ok {fl : Int} {m : Set8} {e : Int} {v : Vec} (hf : 0 ≤ fl ∧ fl ≤ 100) (he : 0 ≤ e ∧ e ≤ 1000) (hv : RV m v) : RV m (fdF fl m e v) ∧ ∀ k, 0 ≤ k → k < 8 → m k = false → fdF fl m e v k = v k := by
  unfold fdF
  split
  · exact ⟨hv, fun k _ _ _ => rfl⟩
  · rename_i hc
    have h1 := fdW_ok he hv hc
    have h2 := dfv_le hf h1.1
    have h3 := liF_ok hf 1000 _ h1.1 (by omega)
    exact ⟨h3.1, fun k a b c => by rw [h3.2 k a b c, h1.2 k c]⟩
def dif (m : Set8) (v w : Vec) : Set8 := fun k => m k && decide (¬ v k = w k)
section
variable {E : ET} {S : SCR} {M : Mem}
theorem l_fadeC2 {g : GT} {lm : Nat × Nat} {RT : RTy} {r e fl n : Int} {m : Set8} (hr0 : 0 ≤ r ∧ r < 64) (em : m = bs (M (17 + 3 * r) 2)) (hs : 0 ≤ M (17 + 3 * r) 2 ∧ M (17 + 3 * r) 2 < 256) (hv : ∀ k, 0 ≤ k → k < 8 → rg (M (18 + 3 * r) k)) (hw : ∀ k, 0 ≤ k → k < 8 → rg (M 10 k)) (hr : RT (some (vi (cntb (dif m (M (18 + 3 * r)) (M 10)) 8))) (toAH S M)) :
    ∀ k : Nat, k ≤ 8 → G E g mi_X5_fadeBy 4 lm RT 98 [some (vr (17 + 3 * r)), some (vi e), some (vi fl), some (vr 8), some (vi n), some (vi (cntb (dif m (M (18 + 3 * r)) (M 10)) k)), some (vi (k : Int))] [] (toAH S M) := by
  refine down ?_ ?_
  · refine q_X5_fadeBy_98 400 (lfok E (by omega)) ?_
    simp +contextual (disch := first | omega | exact Nat.le_of_ble_eq_true rfl | assumption) only [↓r_X5_fadeBy_0, ↓r_X5_fadeBy_1, ↓r_X5_fadeBy_4, ↓r_X5_fadeBy_7, ↓r_X5_fadeBy_9, ↓r_X5_fadeBy_10, ↓r_X5_fadeBy_12, ↓r_X5_fadeBy_14, ↓r_X5_fadeBy_16, ↓r_X5_fadeBy_19, ↓r_X5_fadeBy_20, ↓r_X5_fadeBy_23, ↓r_X5_fadeBy_25, ↓r_X5_fadeBy_26, ↓r_X5_fadeBy_29, ↓r_X5_fadeBy_31, ↓r_X5_fadeBy_32, ↓r_X5_fadeBy_33, ↓r_X5_fadeBy_34, ↓r_X5_fadeBy_37, ↓r_X5_fadeBy_39, ↓r_X5_fadeBy_40, ↓r_X5_fadeBy_43, ↓r_X5_fadeBy_45, ↓r_X5_fadeBy_46, ↓r_X5_fadeBy_47, ↓r_X5_fadeBy_50, ↓r_X5_fadeBy_51, ↓r_X5_fadeBy_52, ↓r_X5_fadeBy_53, ↓r_X5_fadeBy_54, ↓r_X5_fadeBy_56, ↓r_X5_fadeBy_57, ↓r_X5_fadeBy_58, ↓r_X5_fadeBy_61, ↓r_X5_fadeBy_62, ↓r_X5_fadeBy_63, ↓r_X5_fadeBy_64, ↓r_X5_fadeBy_65, ↓r_X5_fadeBy_66, ↓r_X5_fadeBy_69, ↓r_X5_fadeBy_72, ↓r_X5_fadeBy_73, ↓r_X5_fadeBy_76, ↓r_X5_fadeBy_77, ↓r_X5_fadeBy_80, ↓r_X5_fadeBy_81, ↓r_X5_fadeBy_84, ↓r_X5_fadeBy_87, ↓r_X5_fadeBy_88, ↓r_X5_fadeBy_89, ↓r_X5_fadeBy_92, ↓r_X5_fadeBy_93, ↓r_X5_fadeBy_95, ↓r_X5_fadeBy_96, ↓r_X5_fadeBy_98, ↓r_X5_fadeBy_100, ↓r_X5_fadeBy_102, ↓r_X5_fadeBy_105, ↓r_X5_fadeBy_106, ↓r_X5_fadeBy_109, ↓r_X5_fadeBy_111, ↓r_X5_fadeBy_114, ↓r_X5_fadeBy_117, ↓r_X5_fadeBy_118, ↓r_X5_fadeBy_121, ↓r_X5_fadeBy_123, ↓r_X5_fadeBy_124, ↓r_X5_fadeBy_125, ↓r_X5_fadeBy_128, ↓r_X5_fadeBy_130, ↓r_X5_fadeBy_131, ↓r_X5_fadeBy_134, ↓r_X5_fadeBy_137, ↓r_X5_fadeBy_140, ↓r_X5_fadeBy_143, ↓r_X5_fadeBy_145, ↓x2_0, ↓f5_2, ↓lf_J6_bitCount_0f7a4, ↓x4_4n, ↓x4_4i, ↓x4_4r, ↓x0, ↓x4_5n, ↓x4_5i, ↓x4_5r, ↓x1_5, ↓x32_3, ↓x2_3, ↓f6_1, ↓f5_0, ↓f6_0, ↓x25, ↓x1_1, ↓x9, ↓x21, ↓x1_4, ↓x10, ↓x19, ↓x7_5n, ↓x7_5i, ↓x7_5r, ↓x33, ↓v6_4, ↓x1_2, ↓v5_2, ↓x4_6n, ↓x4_6i, ↓x4_6r, ↓x1_6, ↓lf_X8_isIn, ↓x31_0, ↓x31b0, ↓x32_0, ↓x7_6n, ↓x7_6i, ↓x7_6r, ↓x48_0, ↓l_2, ↓s_2, ↓l_3, ↓s_3, ↓l_4, ↓s_4, ↓l_5, ↓s_5, ↓l_6, ↓s_6, ↓l_7, ↓l_9, ↓s_9, ↓l_10, ↓s_10, ↓l_11, ↓s_11, ↓l_12, ↓l_13, ↓l_15, ↓s_15, ↓l_16, ↓s_16, ↓l_r1, ↓s_r1, ↓l_r2, ↓s_r2, ↓l_w1, ↓s_w1, ↓l_w2, ↓s_w2, and_self, and_true, true_and, implies_true, true_implies, Int.reduceEq, Int.reduceLE, Int.reduceLT, not_true_eq_false, not_false_eq_true, false_implies, RTf_eq]
    exact ⟨fun _ => hr, fun q => absurd (by omega) q⟩
  · intro k hk ih
    have h1 := hv k (by omega) (by omega)
    have h2 := hw k (by omega) (by omega)
    have hcs : cntb (dif m (M (18 + 3 * r)) (M 10)) (k + 1) = cntb (dif m (M (18 + 3 * r)) (M 10)) k + (if dif m (M (18 + 3 * r)) (M 10) (k : Int) = true then 1 else 0) := rfl
    have hd : dif m (M (18 + 3 * r)) (M 10) (k : Int) = (bzd (M (17 + 3 * r) 2) k && decide (¬ M (18 + 3 * r) k = M 10 k)) := by rw [em]; rfl
    rw [hcs, hd] at ih
    refine q_X5_fadeBy_98 400 (lfok E (by omega)) ?_
    simp +contextual (disch := first | omega | exact Nat.le_of_ble_eq_true rfl | assumption) only [↓r_X5_fadeBy_0, ↓r_X5_fadeBy_1, ↓r_X5_fadeBy_4, ↓r_X5_fadeBy_7, ↓r_X5_fadeBy_9, ↓r_X5_fadeBy_10, ↓r_X5_fadeBy_12, ↓r_X5_fadeBy_14, ↓r_X5_fadeBy_16, ↓r_X5_fadeBy_19, ↓r_X5_fadeBy_20, ↓r_X5_fadeBy_23, ↓r_X5_fadeBy_25, ↓r_X5_fadeBy_26, ↓r_X5_fadeBy_29, ↓r_X5_fadeBy_31, ↓r_X5_fadeBy_32, ↓r_X5_fadeBy_33, ↓r_X5_fadeBy_34, ↓r_X5_fadeBy_37, ↓r_X5_fadeBy_39, ↓r_X5_fadeBy_40, ↓r_X5_fadeBy_43, ↓r_X5_fadeBy_45, ↓r_X5_fadeBy_46, ↓r_X5_fadeBy_47, ↓r_X5_fadeBy_50, ↓r_X5_fadeBy_51, ↓r_X5_fadeBy_52, ↓r_X5_fadeBy_53, ↓r_X5_fadeBy_54, ↓r_X5_fadeBy_56, ↓r_X5_fadeBy_57, ↓r_X5_fadeBy_58, ↓r_X5_fadeBy_61, ↓r_X5_fadeBy_62, ↓r_X5_fadeBy_63, ↓r_X5_fadeBy_64, ↓r_X5_fadeBy_65, ↓r_X5_fadeBy_66, ↓r_X5_fadeBy_69, ↓r_X5_fadeBy_72, ↓r_X5_fadeBy_73, ↓r_X5_fadeBy_76, ↓r_X5_fadeBy_77, ↓r_X5_fadeBy_80, ↓r_X5_fadeBy_81, ↓r_X5_fadeBy_84, ↓r_X5_fadeBy_87, ↓r_X5_fadeBy_88, ↓r_X5_fadeBy_89, ↓r_X5_fadeBy_92, ↓r_X5_fadeBy_93, ↓r_X5_fadeBy_95, ↓r_X5_fadeBy_96, ↓r_X5_fadeBy_98, ↓r_X5_fadeBy_100, ↓r_X5_fadeBy_102, ↓r_X5_fadeBy_105, ↓r_X5_fadeBy_106, ↓r_X5_fadeBy_109, ↓r_X5_fadeBy_111, ↓r_X5_fadeBy_114, ↓r_X5_fadeBy_117, ↓r_X5_fadeBy_118, ↓r_X5_fadeBy_121, ↓r_X5_fadeBy_123, ↓r_X5_fadeBy_124, ↓r_X5_fadeBy_125, ↓r_X5_fadeBy_128, ↓r_X5_fadeBy_130, ↓r_X5_fadeBy_131, ↓r_X5_fadeBy_134, ↓r_X5_fadeBy_137, ↓r_X5_fadeBy_140, ↓r_X5_fadeBy_143, ↓r_X5_fadeBy_145, ↓x2_0, ↓f5_2, ↓lf_J6_bitCount_0f7a4, ↓x4_4n, ↓x4_4i, ↓x4_4r, ↓x0, ↓x4_5n, ↓x4_5i, ↓x4_5r, ↓x1_5, ↓x32_3, ↓x2_3, ↓f6_1, ↓f5_0, ↓f6_0, ↓x25, ↓x1_1, ↓x9, ↓x21, ↓x1_4, ↓x10, ↓x19, ↓x7_5n, ↓x7_5i, ↓x7_5r, ↓x33, ↓v6_4, ↓x1_2, ↓v5_2, ↓x4_6n, ↓x4_6i, ↓x4_6r, ↓x1_6, ↓lf_X8_isIn, ↓x31_0, ↓x31b0, ↓x32_0, ↓x7_6n, ↓x7_6i, ↓x7_6r, ↓x48_0, ↓l_2, ↓s_2, ↓l_3, ↓s_3, ↓l_4, ↓s_4, ↓l_5, ↓s_5, ↓l_6, ↓s_6, ↓l_7, ↓l_9, ↓s_9, ↓l_10, ↓s_10, ↓l_11, ↓s_11, ↓l_12, ↓l_13, ↓l_15, ↓s_15, ↓l_16, ↓s_16, ↓l_r1, ↓s_r1, ↓l_r2, ↓s_r2, ↓l_w1, ↓s_w1, ↓l_w2, ↓s_w2, and_self, and_true, true_and, implies_true, true_implies, Int.reduceEq, Int.reduceLE, Int.reduceLT, not_true_eq_false, not_false_eq_true, false_implies, RTf_eq]
    refine ⟨fun q => by omega, fun _ => ⟨fun q => ?_, fun q => ⟨fun q2 => ?_, fun q2 => ?_⟩⟩⟩
    · simp only [q] at ih
      simpa using ih
    · simp only [q2] at ih
      simpa using ih
    · simp only [q, q2] at ih
      simpa using ih
theorem l_fadeC1 {g : GT} {lm : Nat × Nat} {RT : RTy} {r e fl n : Int} (hr0 : 0 ≤ r ∧ r < 64) (he : 0 ≤ e ∧ e ≤ 1000) {m : Set8} (hn : n = cntb m 8) (hsh : ∀ j, 0 ≤ j → j < 8 → 0 ≤ M (18 + 3 * r) j ∧ M (18 + 3 * r) j ≤ 1000) (hk : ∀ q : Nat, run E g mi_X5_fadeBy 4 lm RT lfF pm_X5_fadeBy (q + 100) 72 [some (vr (17 + 3 * r)), some (vi e), some (vi fl), some (vr 8), some (vi n), some (vi 8), none] [] (toAH S (putv (putv M 10 0 (M (18 + 3 * r))) 9 0 (fdP m e (M (18 + 3 * r)))))) :
    ∀ j : Nat, j ≤ 8 → G E g mi_X5_fadeBy 4 lm RT 12 [some (vr (17 + 3 * r)), some (vi e), some (vi fl), some (vr 8), some (vi n), some (vi (j : Int)), none] [] (toAH S (putv (putv M 10 0 (bl j (M (18 + 3 * r)) (M 10))) 9 0 (bl j (fdP m e (M (18 + 3 * r))) (M 9)))) := by
  have hc := cntb_rng m 8
  refine down ?_ ?_
  · have e0 : putv (putv M 10 0 (bl 8 (M (18 + 3 * r)) (M 10))) 9 0 (bl 8 (fdP m e (M (18 + 3 * r))) (M 9)) = putv (putv M 10 0 (M (18 + 3 * r))) 9 0 (fdP m e (M (18 + 3 * r))) := by
      rw [putv_congr (f := bl 8 (fdP m e (M (18 + 3 * r))) (M 9)) (fun k h1 h2 => bl_8 h2), putv_congr (M := M) (fun k h1 h2 => bl_8 h2)]
    rw [e0]
    refine q_X5_fadeBy_12 303 (lfok E (by omega)) ?_
    simp +contextual (disch := first | omega | exact Nat.le_of_ble_eq_true rfl | assumption) only [↓r_X5_fadeBy_12, ↓r_X5_fadeBy_14, ↓r_X5_fadeBy_16, ↓x1_5, ↓x0, ↓x32_3]
    exact ⟨fun _ => hk 201, fun q => absurd (by omega) q⟩
  · intro j hj ih
    have h1 := hsh j (by omega) (by omega)
    have h2 := fdP_rng (m := m) (v := M (18 + 3 * r)) he h1
    have ei : fdP m e (M (18 + 3 * r)) (j : Int) = M (18 + 3 * r) j * (1000 - e) * n + 1000 * e := by rw [hn]; rfl
    rw [← hn] at h2
    have ec : ∀ f g : Vec, ∀ z, putv (putv M 10 0 f) 9 0 g (18 + 3 * r) z = M (18 + 3 * r) z := fun f g z => by rw [putv_ne (by omega), putv_ne (by omega)]
    have ec2 : ∀ f g : Vec, ∀ z a b, up2 (putv (putv M 10 0 f) 9 0 g) 10 a b (18 + 3 * r) z = M (18 + 3 * r) z := fun f g z a b => by rw [up2_c (by omega), ec]
    have eu : ∀ (f g : Vec) (a b : Int), up2 (up2 (putv (putv M 10 0 f) 9 0 g) 10 (j : Int) a) 9 (j : Int) b = putv (putv M 10 0 (upv f j a)) 9 0 (upv g j b) := fun f g a b => by
      rw [putv_comm (by omega), up2_putv0 (by omega) (by omega), putv_comm (by omega), up2_putv0 (by omega) (by omega)]
    rw [← bl_s, ← bl_s, ei, ← eu] at ih
    refine q_X5_fadeBy_12 400 (lfok E (by omega)) ?_
    simp +contextual (disch := first | omega | exact Nat.le_of_ble_eq_true rfl | assumption) only [↓r_X5_fadeBy_0, ↓r_X5_fadeBy_1, ↓r_X5_fadeBy_4, ↓r_X5_fadeBy_7, ↓r_X5_fadeBy_9, ↓r_X5_fadeBy_10, ↓r_X5_fadeBy_12, ↓r_X5_fadeBy_14, ↓r_X5_fadeBy_16, ↓r_X5_fadeBy_19, ↓r_X5_fadeBy_20, ↓r_X5_fadeBy_23, ↓r_X5_fadeBy_25, ↓r_X5_fadeBy_26, ↓r_X5_fadeBy_29, ↓r_X5_fadeBy_31, ↓r_X5_fadeBy_32, ↓r_X5_fadeBy_33, ↓r_X5_fadeBy_34, ↓r_X5_fadeBy_37, ↓r_X5_fadeBy_39, ↓r_X5_fadeBy_40, ↓r_X5_fadeBy_43, ↓r_X5_fadeBy_45, ↓r_X5_fadeBy_46, ↓r_X5_fadeBy_47, ↓r_X5_fadeBy_50, ↓r_X5_fadeBy_51, ↓r_X5_fadeBy_52, ↓r_X5_fadeBy_53, ↓r_X5_fadeBy_54, ↓r_X5_fadeBy_56, ↓r_X5_fadeBy_57, ↓r_X5_fadeBy_58, ↓r_X5_fadeBy_61, ↓r_X5_fadeBy_62, ↓r_X5_fadeBy_63, ↓r_X5_fadeBy_64, ↓r_X5_fadeBy_65, ↓r_X5_fadeBy_66, ↓r_X5_fadeBy_69, ↓r_X5_fadeBy_72, ↓r_X5_fadeBy_73, ↓r_X5_fadeBy_76, ↓r_X5_fadeBy_77, ↓r_X5_fadeBy_80, ↓r_X5_fadeBy_81, ↓r_X5_fadeBy_84, ↓r_X5_fadeBy_87, ↓r_X5_fadeBy_88, ↓r_X5_fadeBy_89, ↓r_X5_fadeBy_92, ↓r_X5_fadeBy_93, ↓r_X5_fadeBy_95, ↓r_X5_fadeBy_96, ↓r_X5_fadeBy_98, ↓r_X5_fadeBy_100, ↓r_X5_fadeBy_102, ↓r_X5_fadeBy_105, ↓r_X5_fadeBy_106, ↓r_X5_fadeBy_109, ↓r_X5_fadeBy_111, ↓r_X5_fadeBy_114, ↓r_X5_fadeBy_117, ↓r_X5_fadeBy_118, ↓r_X5_fadeBy_121, ↓r_X5_fadeBy_123, ↓r_X5_fadeBy_124, ↓r_X5_fadeBy_125, ↓r_X5_fadeBy_128, ↓r_X5_fadeBy_130, ↓r_X5_fadeBy_131, ↓r_X5_fadeBy_134, ↓r_X5_fadeBy_137, ↓r_X5_fadeBy_140, ↓r_X5_fadeBy_143, ↓r_X5_fadeBy_145, ↓x2_0, ↓f5_2, ↓lf_J6_bitCount_0f7a4, ↓x4_4n, ↓x4_4i, ↓x4_4r, ↓x0, ↓x4_5n, ↓x4_5i, ↓x4_5r, ↓x1_5, ↓x32_3, ↓x2_3, ↓f6_1, ↓f5_0, ↓f6_0, ↓x25, ↓x1_1, ↓x9, ↓x21, ↓x1_4, ↓x10, ↓x19, ↓x7_5n, ↓x7_5i, ↓x7_5r, ↓x33, ↓v6_4, ↓x1_2, ↓v5_2, ↓x4_6n, ↓x4_6i, ↓x4_6r, ↓x1_6, ↓lf_X8_isIn, ↓x31_0, ↓x31b0, ↓x32_0, ↓x7_6n, ↓x7_6i, ↓x7_6r, ↓x48_0, ↓l_2, ↓s_2, ↓l_3, ↓s_3, ↓l_4, ↓s_4, ↓l_5, ↓s_5, ↓l_6, ↓s_6, ↓l_7, ↓l_9, ↓s_9, ↓l_10, ↓s_10, ↓l_11, ↓s_11, ↓l_12, ↓l_13, ↓l_15, ↓s_15, ↓l_16, ↓s_16, ↓l_r1, ↓s_r1, ↓l_r2, ↓s_r2, ↓l_w1, ↓s_w1, ↓l_w2, ↓s_w2, and_self, and_true, true_and, implies_true, true_implies, Int.reduceEq, Int.reduceLE, Int.reduceLT, not_true_eq_false, not_false_eq_true, false_implies, RTf_eq, ec, ec2]
    exact ⟨fun q => by omega, fun _ => ih⟩
theorem c_fadeC {r e fl : Int} {m : Set8} {v : Vec} (em : m = bs (M (17 + 3 * r) 2)) (ev : v = M (18 + 3 * r)) (hr0 : 0 ≤ r ∧ r < 64) (hs : 0 ≤ M (17 + 3 * r) 2 ∧ M (17 + 3 * r) 2 < 256) (he : 0 ≤ e ∧ e ≤ 1000) (hf : 0 ≤ fl ∧ fl ≤ 100) (hsh : ∀ j, 0 ≤ j → j < 8 → 0 ≤ v j ∧ v j ≤ 1000) (hv : RV m v) :
    ∃ b' p' w' : Vec, Ctr E 4 26 [vr (17 + 3 * r), vi e, vi fl, vr 8] (toAH S M) (some (vi (cntb (dif m (fdF fl m e v) v) 8))) (toAH S (putv (putv (putv (putv M 10 0 b') 9 0 p') 11 0 w') (18 + 3 * r) 0 (fdF fl m e v))) := by
  obtain ⟨s, hs1⟩ : ∃ s, s = M (17 + 3 * r) 2 := ⟨_, rfl⟩
  rw [← hs1] at hs em
  have hp := pop_cnt hs.1 hs.2
  rw [← em] at hp
  have hc := cntb_rng m 8
  obtain ⟨n, hn⟩ : ∃ n, n = cntb m 8 := ⟨_, rfl⟩
  rw [← hn] at hp
  obtain ⟨N1, hN1⟩ : ∃ N1, N1 = putv (putv M 10 0 v) 9 0 (fdP m e v) := ⟨_, rfl⟩
  have h9 : ∀ k, 0 ≤ k → k < 8 → N1 9 k = fdP m e v k := fun k a b => by rw [hN1, putv_at0 a b]
  have hcc : ∀ k, N1 (18 + 3 * r) k = v k := fun k => by rw [hN1, putv_ne (by omega), putv_ne (by omega), ev]
  have h17 : N1 (17 + 3 * r) 2 = s := by rw [hN1, putv_ne (by omega), putv_ne (by omega), hs1]
  obtain ⟨N2, hN2⟩ : ∃ N2, N2 = (if 0 < smv m (N1 9) 8 then shM N1 (18 + 3 * r) (shF 1000 m (N1 9) (N1 (18 + 3 * r)) (N1 11)) else putv N1 (18 + 3 * r) 0 (evF 1000 m (getv N1 (18 + 3 * r) 0))) := ⟨_, rfl⟩
  have hoV : smv m (N1 9) 8 = smv m (fdP m e v) 8 := smv_congr 8 (fun k a b => ⟨rfl, fun _ => h9 k a (by omega)⟩)
  obtain ⟨w', hw'⟩ : ∃ w' : Vec, N2 = putv (putv N1 11 0 w') (18 + 3 * r) 0 (N2 (18 + 3 * r)) := by
    by_cases hV : 0 < smv m (N1 9) 8
    · rw [if_pos hV] at hN2
      refine ⟨(shF 1000 m (N1 9) (N1 (18 + 3 * r)) (N1 11)).2, ?_⟩
      have e1 : N2 = putv (putv N1 11 0 (shF 1000 m (N1 9) (N1 (18 + 3 * r)) (N1 11)).2) (18 + 3 * r) 0 (shF 1000 m (N1 9) (N1 (18 + 3 * r)) (N1 11)).1 := by
        rw [hN2]
        unfold shM
        rw [putv_comm (by omega)]
      have e3 : ∀ k, 0 ≤ k → k < 8 → (shF 1000 m (N1 9) (N1 (18 + 3 * r)) (N1 11)).1 k = N2 (18 + 3 * r) k := fun k a b => by rw [e1, putv_at0 a b]
      rw [putv_congr e3] at e1
      exact e1
    · rw [if_neg hV] at hN2
      refine ⟨N1 11, ?_⟩
      have e2 : putv N1 11 0 (N1 11) = N1 := putv_id (fun k a b => by rw [Int.zero_add])
      rw [e2]
      have e3 : ∀ k, 0 ≤ k → k < 8 → evF 1000 m (getv N1 (18 + 3 * r) 0) k = N2 (18 + 3 * r) k := fun k a b => by rw [hN2, putv_at0 a b]
      rw [← putv_congr e3]
      exact hN2
  have hW : ∀ k, 0 ≤ k → k < 8 → N2 (18 + 3 * r) k = (if cntb m 8 = 0 then v else sh1 1000 m (fdP m e v) v) k := by
    intro k a b
    by_cases hc0 : cntb m 8 = 0
    · rw [if_pos hc0]
      have hV : ¬ 0 < smv m (N1 9) 8 := by
        have h2 := smv_lec (m := m) (v := N1 9) (x := 10000000) 8 (fun k a b c => by rw [h9 k a (by omega)]; exact (fdP_rng (m := m) he (hsh k a (by omega))).2.2.2)
        rw [hc0] at h2
        omega
      rw [if_neg hV] at hN2
      rw [hN2, putv_at0 a b, evF_none hc0 k a b, getv0]
      exact hcc k
    · rw [if_neg hc0]
      have hcp : 0 < cntb m 8 := by omega
      have hsum := fdP_sum (e := e) (hv.2 hcp)
      have hV : 0 < smv m (N1 9) 8 := by rw [hoV]; omega
      rw [if_pos hV] at hN2
      rw [hN2, shM_c (by omega) a b]
      have hpp : ∀ k, 0 ≤ k → k < 8 → m k = true → 0 ≤ fdP m e v k := fun k a b _ => (fdP_rng (m := m) he (hsh k a b)).2.2.1
      by_cases hb : m k = true
      · exact shF_eqv (fun _ _ _ => rfl) (fun j x y _ => h9 j x y) k a b hb
      · have hb' : m k = false := by simpa using hb
        rw [(shF_ok (by omega) (fun j x y z => by rw [h9 j x y]; exact hpp j x y z) hV hcp).2.2 k hb']
        unfold sh1
        rw [(shF_ok (by omega) hpp (by omega) hcp).2.2 k hb']
        exact hcc k
  have hRVw : RV m (if cntb m 8 = 0 then v else sh1 1000 m (fdP m e v) v) ∧ ∀ k, m k = false → (if cntb m 8 = 0 then v else sh1 1000 m (fdP m e v) v) k = v k := by
    split
    · exact ⟨hv, fun _ _ => rfl⟩
    · rename_i h
      exact fdW_ok he hv h
  have hRV2 : RV m (N2 (18 + 3 * r)) := RV_congr (fun _ _ _ => rfl) (fun k a b _ => (hW k a b).symm) hRVw.1
  have hnear2 : N2 (17 + 3 * r) 2 = s := by rw [hw', putv_ne (by omega), putv_ne (by omega), h17]
  have hrg2 : ∀ k, 0 ≤ k → k < 8 → rg (N2 (18 + 3 * r) k) := fun k a b => by
    by_cases hb : m k = true
    · have := hRV2.1 k a b hb
      omega
    · rw [hW k a b, hRVw.2 k (by simpa using hb)]
      have := hsh k a b
      omega
  have hfd : fdF fl m e v = liF m fl (if cntb m 8 = 0 then v else sh1 1000 m (fdP m e v) v) := by
    unfold fdF
    split
    · rename_i h
      have hno : loF m v fl 8 = -9 := by
        rcases loF_rng (m := m) (v := v) (fl := fl) 8 (by omega) with q | q
        · exact q
        · have := cntb_pos (m := m) (by omega) q.2.2.1 8 (by omega)
          omega
      rw [liF_end hno]
    · rfl
  obtain ⟨N3, hN3⟩ : ∃ N3, N3 = putv N2 (18 + 3 * r) 0 (liF m fl (N2 (18 + 3 * r))) := ⟨_, rfl⟩
  have hfin : N3 = putv (putv (putv (putv M 10 0 v) 9 0 (fdP m e v)) 11 0 w') (18 + 3 * r) 0 (fdF fl m e v) := by
    rw [hN3, hfd, ← hN1]
    have e2 : ∀ f : Vec, putv N2 (18 + 3 * r) 0 f = putv (putv N1 11 0 w') (18 + 3 * r) 0 f := fun f => by rw [hw', putv_putv]
    rw [e2]
    exact putv_congr (liF_congr8 hf hRV2 hW)
  have h3c : ∀ k, 0 ≤ k → k < 8 → N3 (18 + 3 * r) k = fdF fl m e v k := fun k a b => by rw [hfin, putv_at0 a b]
  have h310 : ∀ k, 0 ≤ k → k < 8 → N3 10 k = v k := fun k a b => by rw [hfin, putv_ne (by omega), putv_ne (by omega), putv_ne (by omega), putv_at0 a b]
  have h317 : N3 (17 + 3 * r) 2 = s := by rw [hN3, putv_ne (by omega), hnear2]
  have hcnt : cntb (dif m (N3 (18 + 3 * r)) (N3 10)) 8 = cntb (dif m (fdF fl m e v) v) 8 := cntb_congr 8 (fun k a b => by unfold dif; rw [h3c k a (by omega), h310 k a (by omega)])
  have hok := fdF_ok hf he hv
  have hrg3 : ∀ k, 0 ≤ k → k < 8 → rg (N3 (18 + 3 * r) k) := fun k a b => by
    rw [h3c k a b]
    by_cases hb : m k = true
    · have := hok.1.1 k a b hb
      omega
    · rw [hok.2 k a b (by simpa using hb)]
      have := hsh k a b
      omega
  refine ⟨v, fdP m e v, w', ?_⟩
  rw [← hfin, ← hcnt]
  refine Ctr_f mi_X5_fadeBy mo_X5_fadeBy (Nat.le_of_ble_eq_true rfl) ⟨Nat.le_refl _, Nat.le_refl _⟩ (fun g lm => ?_)
  rw [show entL mi_X5_fadeBy.2.2.1 [vr (17 + 3 * r), vi e, vi fl, vr 8] = [some (vr (17 + 3 * r)), some (vi e), some (vi fl), some (vr 8), none, none, none] from rfl]
  refine e_X5_fadeBy 400 (lfok E (by omega)) ?_
  simp +contextual (disch := first | omega | exact Nat.le_of_ble_eq_true rfl | assumption) only [↓r_X5_fadeBy_0, ↓r_X5_fadeBy_1, ↓r_X5_fadeBy_4, ↓r_X5_fadeBy_7, ↓r_X5_fadeBy_9, ↓r_X5_fadeBy_10, ↓r_X5_fadeBy_12, ↓r_X5_fadeBy_14, ↓r_X5_fadeBy_16, ↓r_X5_fadeBy_19, ↓r_X5_fadeBy_20, ↓r_X5_fadeBy_23, ↓r_X5_fadeBy_25, ↓r_X5_fadeBy_26, ↓r_X5_fadeBy_29, ↓r_X5_fadeBy_31, ↓r_X5_fadeBy_32, ↓r_X5_fadeBy_33, ↓r_X5_fadeBy_34, ↓r_X5_fadeBy_37, ↓r_X5_fadeBy_39, ↓r_X5_fadeBy_40, ↓r_X5_fadeBy_43, ↓r_X5_fadeBy_45, ↓r_X5_fadeBy_46, ↓r_X5_fadeBy_47, ↓r_X5_fadeBy_50, ↓r_X5_fadeBy_51, ↓r_X5_fadeBy_52, ↓r_X5_fadeBy_53, ↓r_X5_fadeBy_54, ↓r_X5_fadeBy_56, ↓r_X5_fadeBy_57, ↓r_X5_fadeBy_58, ↓r_X5_fadeBy_61, ↓r_X5_fadeBy_62, ↓r_X5_fadeBy_63, ↓r_X5_fadeBy_64, ↓r_X5_fadeBy_65, ↓r_X5_fadeBy_66, ↓r_X5_fadeBy_69, ↓r_X5_fadeBy_72, ↓r_X5_fadeBy_73, ↓r_X5_fadeBy_76, ↓r_X5_fadeBy_77, ↓r_X5_fadeBy_80, ↓r_X5_fadeBy_81, ↓r_X5_fadeBy_84, ↓r_X5_fadeBy_87, ↓r_X5_fadeBy_88, ↓r_X5_fadeBy_89, ↓r_X5_fadeBy_92, ↓r_X5_fadeBy_93, ↓r_X5_fadeBy_95, ↓r_X5_fadeBy_96, ↓r_X5_fadeBy_98, ↓r_X5_fadeBy_100, ↓r_X5_fadeBy_102, ↓r_X5_fadeBy_105, ↓r_X5_fadeBy_106, ↓r_X5_fadeBy_109, ↓r_X5_fadeBy_111, ↓r_X5_fadeBy_114, ↓r_X5_fadeBy_117, ↓r_X5_fadeBy_118, ↓r_X5_fadeBy_121, ↓r_X5_fadeBy_123, ↓r_X5_fadeBy_124, ↓r_X5_fadeBy_125, ↓r_X5_fadeBy_128, ↓r_X5_fadeBy_130, ↓r_X5_fadeBy_131, ↓r_X5_fadeBy_134, ↓r_X5_fadeBy_137, ↓r_X5_fadeBy_140, ↓r_X5_fadeBy_143, ↓r_X5_fadeBy_145, ↓x2_0, ↓f5_2, ↓lf_J6_bitCount_0f7a4, ↓x4_4n, ↓x4_4i, ↓x4_4r, ↓x0, ↓x4_5n, ↓x4_5i, ↓x4_5r, ↓x1_5, ↓x32_3, ↓x2_3, ↓f6_1, ↓f5_0, ↓f6_0, ↓x25, ↓x1_1, ↓x9, ↓x21, ↓x1_4, ↓x10, ↓x19, ↓x7_5n, ↓x7_5i, ↓x7_5r, ↓x33, ↓v6_4, ↓x1_2, ↓v5_2, ↓x4_6n, ↓x4_6i, ↓x4_6r, ↓x1_6, ↓lf_X8_isIn, ↓x31_0, ↓x31b0, ↓x32_0, ↓x7_6n, ↓x7_6i, ↓x7_6r, ↓x48_0, ↓l_2, ↓s_2, ↓l_3, ↓s_3, ↓l_4, ↓s_4, ↓l_5, ↓s_5, ↓l_6, ↓s_6, ↓l_7, ↓l_9, ↓s_9, ↓l_10, ↓s_10, ↓l_11, ↓s_11, ↓l_12, ↓l_13, ↓l_15, ↓s_15, ↓l_16, ↓s_16, ↓l_r1, ↓s_r1, ↓l_r2, ↓s_r2, ↓l_w1, ↓s_w1, ↓l_w2, ↓s_w2, and_self, and_true, true_and, implies_true, true_implies, Int.reduceEq, Int.reduceLE, Int.reduceLT, not_true_eq_false, not_false_eq_true, false_implies, RTf_eq, ← hs1, hp]
  have := l_fadeC1 (E := E) (S := S) (M := M) (g := g) (lm := lm) (RT := RTf (some (vi (cntb (dif m (N3 (18 + 3 * r)) (N3 10)) 8))) (toAH S N3)) (fl := fl) hr0 he hn (by rw [← ev]; exact hsh) ?_ 0 (by omega)
  · have h0 : putv (putv M 10 0 (bl 0 (M (18 + 3 * r)) (M 10))) 9 0 (bl 0 (fdP m e (M (18 + 3 * r))) (M 9)) = M := by
      have e1 : putv M 10 0 (bl 0 (M (18 + 3 * r)) (M 10)) = M := putv_id (fun k a b => by rw [bl_0 a, Int.zero_add])
      rw [e1]
      exact putv_id (fun k a b => by rw [bl_0 a, Int.zero_add])
    rw [h0] at this
    exact this
  · intro q
    rw [← ev, ← hN1]
    simp +contextual (disch := first | omega | exact Nat.le_of_ble_eq_true rfl | assumption) only [↓r_X5_fadeBy_0, ↓r_X5_fadeBy_1, ↓r_X5_fadeBy_4, ↓r_X5_fadeBy_7, ↓r_X5_fadeBy_9, ↓r_X5_fadeBy_10, ↓r_X5_fadeBy_12, ↓r_X5_fadeBy_14, ↓r_X5_fadeBy_16, ↓r_X5_fadeBy_19, ↓r_X5_fadeBy_20, ↓r_X5_fadeBy_23, ↓r_X5_fadeBy_25, ↓r_X5_fadeBy_26, ↓r_X5_fadeBy_29, ↓r_X5_fadeBy_31, ↓r_X5_fadeBy_32, ↓r_X5_fadeBy_33, ↓r_X5_fadeBy_34, ↓r_X5_fadeBy_37, ↓r_X5_fadeBy_39, ↓r_X5_fadeBy_40, ↓r_X5_fadeBy_43, ↓r_X5_fadeBy_45, ↓r_X5_fadeBy_46, ↓r_X5_fadeBy_47, ↓r_X5_fadeBy_50, ↓r_X5_fadeBy_51, ↓r_X5_fadeBy_52, ↓r_X5_fadeBy_53, ↓r_X5_fadeBy_54, ↓r_X5_fadeBy_56, ↓r_X5_fadeBy_57, ↓r_X5_fadeBy_58, ↓r_X5_fadeBy_61, ↓r_X5_fadeBy_62, ↓r_X5_fadeBy_63, ↓r_X5_fadeBy_64, ↓r_X5_fadeBy_65, ↓r_X5_fadeBy_66, ↓r_X5_fadeBy_69, ↓r_X5_fadeBy_72, ↓r_X5_fadeBy_73, ↓r_X5_fadeBy_76, ↓r_X5_fadeBy_77, ↓r_X5_fadeBy_80, ↓r_X5_fadeBy_81, ↓r_X5_fadeBy_84, ↓r_X5_fadeBy_87, ↓r_X5_fadeBy_88, ↓r_X5_fadeBy_89, ↓r_X5_fadeBy_92, ↓r_X5_fadeBy_93, ↓r_X5_fadeBy_95, ↓r_X5_fadeBy_96, ↓r_X5_fadeBy_98, ↓r_X5_fadeBy_100, ↓r_X5_fadeBy_102, ↓r_X5_fadeBy_105, ↓r_X5_fadeBy_106, ↓r_X5_fadeBy_109, ↓r_X5_fadeBy_111, ↓r_X5_fadeBy_114, ↓r_X5_fadeBy_117, ↓r_X5_fadeBy_118, ↓r_X5_fadeBy_121, ↓r_X5_fadeBy_123, ↓r_X5_fadeBy_124, ↓r_X5_fadeBy_125, ↓r_X5_fadeBy_128, ↓r_X5_fadeBy_130, ↓r_X5_fadeBy_131, ↓r_X5_fadeBy_134, ↓r_X5_fadeBy_137, ↓r_X5_fadeBy_140, ↓r_X5_fadeBy_143, ↓r_X5_fadeBy_145, ↓x2_0, ↓f5_2, ↓lf_J6_bitCount_0f7a4, ↓x4_4n, ↓x4_4i, ↓x4_4r, ↓x0, ↓x4_5n, ↓x4_5i, ↓x4_5r, ↓x1_5, ↓x32_3, ↓x2_3, ↓f6_1, ↓f5_0, ↓f6_0, ↓x25, ↓x1_1, ↓x9, ↓x21, ↓x1_4, ↓x10, ↓x19, ↓x7_5n, ↓x7_5i, ↓x7_5r, ↓x33, ↓v6_4, ↓x1_2, ↓v5_2, ↓x4_6n, ↓x4_6i, ↓x4_6r, ↓x1_6, ↓lf_X8_isIn, ↓x31_0, ↓x31b0, ↓x32_0, ↓x7_6n, ↓x7_6i, ↓x7_6r, ↓x48_0, ↓l_2, ↓s_2, ↓l_3, ↓s_3, ↓l_4, ↓s_4, ↓l_5, ↓s_5, ↓l_6, ↓s_6, ↓l_7, ↓l_9, ↓s_9, ↓l_10, ↓s_10, ↓l_11, ↓s_11, ↓l_12, ↓l_13, ↓l_15, ↓s_15, ↓l_16, ↓s_16, ↓l_r1, ↓s_r1, ↓l_r2, ↓s_r2, ↓l_w1, ↓s_w1, ↓l_w2, ↓s_w2, and_self, and_true, true_and, implies_true, true_implies, Int.reduceEq, Int.reduceLE, Int.reduceLT, not_true_eq_false, not_false_eq_true, false_implies, RTf_eq, h17]
    refine ck_v (c_shareOutC hs hr0 (by omega) (fun k a b _ => by rw [h9 k a b]; exact ⟨(fdP_rng (m := m) he (hsh k a b)).2.2.1, (fdP_rng (m := m) he (hsh k a b)).2.2.2⟩)) (by omega) (by simp) ?_
    rw [← em, ← hN2]
    simp +contextual (disch := first | omega | exact Nat.le_of_ble_eq_true rfl | assumption) only [↓r_X5_fadeBy_0, ↓r_X5_fadeBy_1, ↓r_X5_fadeBy_4, ↓r_X5_fadeBy_7, ↓r_X5_fadeBy_9, ↓r_X5_fadeBy_10, ↓r_X5_fadeBy_12, ↓r_X5_fadeBy_14, ↓r_X5_fadeBy_16, ↓r_X5_fadeBy_19, ↓r_X5_fadeBy_20, ↓r_X5_fadeBy_23, ↓r_X5_fadeBy_25, ↓r_X5_fadeBy_26, ↓r_X5_fadeBy_29, ↓r_X5_fadeBy_31, ↓r_X5_fadeBy_32, ↓r_X5_fadeBy_33, ↓r_X5_fadeBy_34, ↓r_X5_fadeBy_37, ↓r_X5_fadeBy_39, ↓r_X5_fadeBy_40, ↓r_X5_fadeBy_43, ↓r_X5_fadeBy_45, ↓r_X5_fadeBy_46, ↓r_X5_fadeBy_47, ↓r_X5_fadeBy_50, ↓r_X5_fadeBy_51, ↓r_X5_fadeBy_52, ↓r_X5_fadeBy_53, ↓r_X5_fadeBy_54, ↓r_X5_fadeBy_56, ↓r_X5_fadeBy_57, ↓r_X5_fadeBy_58, ↓r_X5_fadeBy_61, ↓r_X5_fadeBy_62, ↓r_X5_fadeBy_63, ↓r_X5_fadeBy_64, ↓r_X5_fadeBy_65, ↓r_X5_fadeBy_66, ↓r_X5_fadeBy_69, ↓r_X5_fadeBy_72, ↓r_X5_fadeBy_73, ↓r_X5_fadeBy_76, ↓r_X5_fadeBy_77, ↓r_X5_fadeBy_80, ↓r_X5_fadeBy_81, ↓r_X5_fadeBy_84, ↓r_X5_fadeBy_87, ↓r_X5_fadeBy_88, ↓r_X5_fadeBy_89, ↓r_X5_fadeBy_92, ↓r_X5_fadeBy_93, ↓r_X5_fadeBy_95, ↓r_X5_fadeBy_96, ↓r_X5_fadeBy_98, ↓r_X5_fadeBy_100, ↓r_X5_fadeBy_102, ↓r_X5_fadeBy_105, ↓r_X5_fadeBy_106, ↓r_X5_fadeBy_109, ↓r_X5_fadeBy_111, ↓r_X5_fadeBy_114, ↓r_X5_fadeBy_117, ↓r_X5_fadeBy_118, ↓r_X5_fadeBy_121, ↓r_X5_fadeBy_123, ↓r_X5_fadeBy_124, ↓r_X5_fadeBy_125, ↓r_X5_fadeBy_128, ↓r_X5_fadeBy_130, ↓r_X5_fadeBy_131, ↓r_X5_fadeBy_134, ↓r_X5_fadeBy_137, ↓r_X5_fadeBy_140, ↓r_X5_fadeBy_143, ↓r_X5_fadeBy_145, ↓x2_0, ↓f5_2, ↓lf_J6_bitCount_0f7a4, ↓x4_4n, ↓x4_4i, ↓x4_4r, ↓x0, ↓x4_5n, ↓x4_5i, ↓x4_5r, ↓x1_5, ↓x32_3, ↓x2_3, ↓f6_1, ↓f5_0, ↓f6_0, ↓x25, ↓x1_1, ↓x9, ↓x21, ↓x1_4, ↓x10, ↓x19, ↓x7_5n, ↓x7_5i, ↓x7_5r, ↓x33, ↓v6_4, ↓x1_2, ↓v5_2, ↓x4_6n, ↓x4_6i, ↓x4_6r, ↓x1_6, ↓lf_X8_isIn, ↓x31_0, ↓x31b0, ↓x32_0, ↓x7_6n, ↓x7_6i, ↓x7_6r, ↓x48_0, ↓l_2, ↓s_2, ↓l_3, ↓s_3, ↓l_4, ↓s_4, ↓l_5, ↓s_5, ↓l_6, ↓s_6, ↓l_7, ↓l_9, ↓s_9, ↓l_10, ↓s_10, ↓l_11, ↓s_11, ↓l_12, ↓l_13, ↓l_15, ↓s_15, ↓l_16, ↓s_16, ↓l_r1, ↓s_r1, ↓l_r2, ↓s_r2, ↓l_w1, ↓s_w1, ↓l_w2, ↓s_w2, and_self, and_true, true_and, implies_true, true_implies, Int.reduceEq, Int.reduceLE, Int.reduceLT, not_true_eq_false, not_false_eq_true, false_implies, RTf_eq]
    refine ck_v (c_lift5 hr0 (by rw [hnear2]; exact hs) hf (by rw [hnear2, ← em]; exact hRV2) hrg2) (by omega) (by simp) ?_
    rw [hnear2, ← em, ← hN3]
    simp +contextual (disch := first | omega | exact Nat.le_of_ble_eq_true rfl | assumption) only [↓r_X5_fadeBy_0, ↓r_X5_fadeBy_1, ↓r_X5_fadeBy_4, ↓r_X5_fadeBy_7, ↓r_X5_fadeBy_9, ↓r_X5_fadeBy_10, ↓r_X5_fadeBy_12, ↓r_X5_fadeBy_14, ↓r_X5_fadeBy_16, ↓r_X5_fadeBy_19, ↓r_X5_fadeBy_20, ↓r_X5_fadeBy_23, ↓r_X5_fadeBy_25, ↓r_X5_fadeBy_26, ↓r_X5_fadeBy_29, ↓r_X5_fadeBy_31, ↓r_X5_fadeBy_32, ↓r_X5_fadeBy_33, ↓r_X5_fadeBy_34, ↓r_X5_fadeBy_37, ↓r_X5_fadeBy_39, ↓r_X5_fadeBy_40, ↓r_X5_fadeBy_43, ↓r_X5_fadeBy_45, ↓r_X5_fadeBy_46, ↓r_X5_fadeBy_47, ↓r_X5_fadeBy_50, ↓r_X5_fadeBy_51, ↓r_X5_fadeBy_52, ↓r_X5_fadeBy_53, ↓r_X5_fadeBy_54, ↓r_X5_fadeBy_56, ↓r_X5_fadeBy_57, ↓r_X5_fadeBy_58, ↓r_X5_fadeBy_61, ↓r_X5_fadeBy_62, ↓r_X5_fadeBy_63, ↓r_X5_fadeBy_64, ↓r_X5_fadeBy_65, ↓r_X5_fadeBy_66, ↓r_X5_fadeBy_69, ↓r_X5_fadeBy_72, ↓r_X5_fadeBy_73, ↓r_X5_fadeBy_76, ↓r_X5_fadeBy_77, ↓r_X5_fadeBy_80, ↓r_X5_fadeBy_81, ↓r_X5_fadeBy_84, ↓r_X5_fadeBy_87, ↓r_X5_fadeBy_88, ↓r_X5_fadeBy_89, ↓r_X5_fadeBy_92, ↓r_X5_fadeBy_93, ↓r_X5_fadeBy_95, ↓r_X5_fadeBy_96, ↓r_X5_fadeBy_98, ↓r_X5_fadeBy_100, ↓r_X5_fadeBy_102, ↓r_X5_fadeBy_105, ↓r_X5_fadeBy_106, ↓r_X5_fadeBy_109, ↓r_X5_fadeBy_111, ↓r_X5_fadeBy_114, ↓r_X5_fadeBy_117, ↓r_X5_fadeBy_118, ↓r_X5_fadeBy_121, ↓r_X5_fadeBy_123, ↓r_X5_fadeBy_124, ↓r_X5_fadeBy_125, ↓r_X5_fadeBy_128, ↓r_X5_fadeBy_130, ↓r_X5_fadeBy_131, ↓r_X5_fadeBy_134, ↓r_X5_fadeBy_137, ↓r_X5_fadeBy_140, ↓r_X5_fadeBy_143, ↓r_X5_fadeBy_145, ↓x2_0, ↓f5_2, ↓lf_J6_bitCount_0f7a4, ↓x4_4n, ↓x4_4i, ↓x4_4r, ↓x0, ↓x4_5n, ↓x4_5i, ↓x4_5r, ↓x1_5, ↓x32_3, ↓x2_3, ↓f6_1, ↓f5_0, ↓f6_0, ↓x25, ↓x1_1, ↓x9, ↓x21, ↓x1_4, ↓x10, ↓x19, ↓x7_5n, ↓x7_5i, ↓x7_5r, ↓x33, ↓v6_4, ↓x1_2, ↓v5_2, ↓x4_6n, ↓x4_6i, ↓x4_6r, ↓x1_6, ↓lf_X8_isIn, ↓x31_0, ↓x31b0, ↓x32_0, ↓x7_6n, ↓x7_6i, ↓x7_6r, ↓x48_0, ↓l_2, ↓s_2, ↓l_3, ↓s_3, ↓l_4, ↓s_4, ↓l_5, ↓s_5, ↓l_6, ↓s_6, ↓l_7, ↓l_9, ↓s_9, ↓l_10, ↓s_10, ↓l_11, ↓s_11, ↓l_12, ↓l_13, ↓l_15, ↓s_15, ↓l_16, ↓s_16, ↓l_r1, ↓s_r1, ↓l_r2, ↓s_r2, ↓l_w1, ↓s_w1, ↓l_w2, ↓s_w2, and_self, and_true, true_and, implies_true, true_implies, Int.reduceEq, Int.reduceLE, Int.reduceLT, not_true_eq_false, not_false_eq_true, false_implies, RTf_eq]
    exact l_fadeC2 (E := E) (S := S) (M := N3) (g := g) (lm := lm) hr0 (by rw [h317]; exact em) (by rw [h317]; exact hs) hrg3 (fun k a b => by rw [h310 k a b]; have := hsh k a b; omega) ⟨rfl, rfl⟩ 0 (by omega)
end
