/-! ===== send ===== -/
def seR (kd st am : Int) : Int := if ¬ ((0 ≤ st ∧ st ≤ 7) ∧ (0 ≤ am ∧ am ≤ 7)) then -1 else if ¬ (0 ≤ kd ∧ kd ≤ 2) then -2 else if st = am then -3 else 0
theorem seR_0 {kd st am : Int} (h : seR kd st am = 0) : ((0 ≤ st ∧ st ≤ 7) ∧ (0 ≤ am ∧ am ≤ 7)) ∧ (0 ≤ kd ∧ kd ≤ 2) ∧ ¬ st = am := by
  unfold seR at h
  by_cases c1 : (0 ≤ st ∧ st ≤ 7) ∧ (0 ≤ am ∧ am ≤ 7)
  · rw [if_neg (fun f => f c1)] at h
    by_cases c2 : 0 ≤ kd ∧ kd ≤ 2
    · rw [if_neg (fun f => f c2)] at h
      by_cases c3 : st = am
      · rw [if_pos c3] at h; omega
      · exact ⟨c1, c2, c3⟩
    · rw [if_pos c2] at h; omega
  · rw [if_pos c1] at h; omega
def seM (M : Mem) (w kd st am : Int) : Mem := rmX (soM M w kd st am) w st (M 0 10) (-9)
def seN (M : Mem) (w kd st am : Int) : Mem := up2 (up2 (up2 (up2 (up2 (up2 (up2 (up2 (up2 (up2 M 259 w kd) 260 w st) 261 w am) 262 w 0) 263 w (-9)) 266 w 0) 267 w 1) 268 (8 * w) st) 269 (8 * w) (M 248 12)) 258 w 1
section
variable {M A B : Mem} {T : Int} {E : ET} {S : SCR}
theorem seM_eq {w kd st am : Int} : seM M w kd st am = up2 (up2 (up2 (soM M w kd st am) (210 + 3 * w) 0 st) (211 + 3 * w) 0 (M 0 10)) (209 + 3 * w) 2 1 := by
  have h2 : soM M w kd st am (209 + 3 * w) 2 = 0 := by unfold soM; rw [up2_same]
  unfold seM rmX
  rw [if_pos rfl, h2, if_pos (by omega)]
  rfl
theorem seM_ot {w kd st am c z : Int} (h : ¬ (c = 209 + 3 * w ∧ (z = 2 ∨ z = 3 ∨ z = 4 ∨ z = 5 ∨ z = 6 ∨ z = 7 ∨ z = 8 ∨ z = 11)) ∧ ¬ (c = 210 + 3 * w ∧ z = 0) ∧ ¬ (c = 211 + 3 * w ∧ z = 0)) : seM M w kd st am c z = M c z := by
  rw [seM_eq, up2_other (by omega), up2_other (by omega), up2_other (by omega)]
  unfold soM
  rw [up2_other (by omega), up2_other (by omega), up2_other (by omega), up2_other (by omega), up2_other (by omega), up2_other (by omega), up2_other (by omega), up2_other (by omega)]
theorem seM_at {w kd st am : Int} : (seM M w kd st am (209 + 3 * w) 3 = 1 ∧ seM M w kd st am (209 + 3 * w) 4 = 0 ∧ seM M w kd st am (209 + 3 * w) 5 = kd ∧ seM M w kd st am (209 + 3 * w) 6 = st ∧ seM M w kd st am (209 + 3 * w) 7 = am ∧ seM M w kd st am (209 + 3 * w) 8 = -9 ∧ seM M w kd st am (209 + 3 * w) 11 = 0 ∧ seM M w kd st am (209 + 3 * w) 2 = 1) ∧ seM M w kd st am (210 + 3 * w) 0 = st ∧ seM M w kd st am (211 + 3 * w) 0 = M 0 10 := by
  rw [seM_eq]
  unfold soM
  refine ⟨⟨?_, ?_, ?_, ?_, ?_, ?_, ?_, ?_⟩, ?_, ?_⟩
  · rw [up2_other (by omega), up2_other (by omega), up2_other (by omega), up2_other (by omega), up2_other (by omega), up2_other (by omega), up2_other (by omega), up2_other (by omega), up2_other (by omega), up2_other (by omega), up2_same]
  · rw [up2_other (by omega), up2_other (by omega), up2_other (by omega), up2_other (by omega), up2_other (by omega), up2_other (by omega), up2_other (by omega), up2_other (by omega), up2_other (by omega), up2_same]
  · rw [up2_other (by omega), up2_other (by omega), up2_other (by omega), up2_other (by omega), up2_other (by omega), up2_other (by omega), up2_other (by omega), up2_other (by omega), up2_same]
  · rw [up2_other (by omega), up2_other (by omega), up2_other (by omega), up2_other (by omega), up2_other (by omega), up2_other (by omega), up2_other (by omega), up2_same]
  · rw [up2_other (by omega), up2_other (by omega), up2_other (by omega), up2_other (by omega), up2_other (by omega), up2_other (by omega), up2_same]
  · rw [up2_other (by omega), up2_other (by omega), up2_other (by omega), up2_other (by omega), up2_other (by omega), up2_same]
  · rw [up2_other (by omega), up2_other (by omega), up2_other (by omega), up2_other (by omega), up2_same]
  · rw [up2_same]
  · rw [up2_other (by omega), up2_other (by omega), up2_same]
  · rw [up2_other (by omega), up2_same]
theorem CW_se {w kd st am : Int} (hW : CW M) (hw : 0 ≤ w ∧ w < 12) (h1 : 0 ≤ kd ∧ kd ≤ 2) (h2 : 0 ≤ st ∧ st ≤ 7) (h3 : 0 ≤ am ∧ am ≤ 7) : CW (seM M w kd st am) := by
  have hv := hW.2.2.2.2.2.2.2.2.2.1
  obtain ⟨⟨s3, s4, s5, s6, s7, s8, s11, s2⟩, n0, t0⟩ := seM_at (M := M) (w := w) (kd := kd) (st := st) (am := am)
  refine CW_of (w := w) hW (fun c z q1 q2 => seM_ot (by omega)) (Or.inr s3) (Or.inl s4) (by rw [s8]; exact ⟨by omega, by omega⟩) (by rw [s2]; omega) (fun j a b => ?_) (by rw [s5]; exact h1) (by rw [s7]; exact h3) hw
  by_cases q : j = 0
  · rw [q, n0]; exact h2
  · rw [seM_ot (by omega)]; exact hv w j hw.1 hw.2 a b
theorem seN_ot {w kd st am c z : Int} (h : ¬ (z = w ∧ (c = 258 ∨ c = 259 ∨ c = 260 ∨ c = 261 ∨ c = 262 ∨ c = 263 ∨ c = 266 ∨ c = 267)) ∧ ¬ (c = 268 ∧ z = 8 * w) ∧ ¬ (c = 269 ∧ z = 8 * w)) : seN M w kd st am c z = M c z := by
  unfold seN
  rw [up2_other (by omega), up2_other (by omega), up2_other (by omega), up2_other (by omega), up2_other (by omega), up2_other (by omega), up2_other (by omega), up2_other (by omega), up2_other (by omega), up2_other (by omega)]
theorem seN_at {w kd st am : Int} : (seN M w kd st am 258 w = 1 ∧ seN M w kd st am 262 w = 0 ∧ seN M w kd st am 259 w = kd ∧ seN M w kd st am 260 w = st ∧ seN M w kd st am 261 w = am ∧ seN M w kd st am 263 w = -9 ∧ seN M w kd st am 266 w = 0 ∧ seN M w kd st am 267 w = 1) ∧ seN M w kd st am 268 (8 * w) = st ∧ seN M w kd st am 269 (8 * w) = M 248 12 := by
  unfold seN
  refine ⟨⟨?_, ?_, ?_, ?_, ?_, ?_, ?_, ?_⟩, ?_, ?_⟩
  · rw [up2_same]
  · rw [up2_other (by omega), up2_other (by omega), up2_other (by omega), up2_other (by omega), up2_other (by omega), up2_other (by omega), up2_same]
  · rw [up2_other (by omega), up2_other (by omega), up2_other (by omega), up2_other (by omega), up2_other (by omega), up2_other (by omega), up2_other (by omega), up2_other (by omega), up2_other (by omega), up2_same]
  · rw [up2_other (by omega), up2_other (by omega), up2_other (by omega), up2_other (by omega), up2_other (by omega), up2_other (by omega), up2_other (by omega), up2_other (by omega), up2_same]
  · rw [up2_other (by omega), up2_other (by omega), up2_other (by omega), up2_other (by omega), up2_other (by omega), up2_other (by omega), up2_other (by omega), up2_same]
  · rw [up2_other (by omega), up2_other (by omega), up2_other (by omega), up2_other (by omega), up2_other (by omega), up2_same]
  · rw [up2_other (by omega), up2_other (by omega), up2_other (by omega), up2_other (by omega), up2_same]
  · rw [up2_other (by omega), up2_other (by omega), up2_other (by omega), up2_same]
  · rw [up2_other (by omega), up2_other (by omega), up2_same]
  · rw [up2_other (by omega), up2_same]
theorem MW_se {w kd st am : Int} (hW : MW M) (hw : 0 ≤ w ∧ w < 12) (h1 : 0 ≤ kd ∧ kd ≤ 2) (h2 : 0 ≤ st ∧ st ≤ 7) (h3 : 0 ≤ am ∧ am ≤ 7) : MW (seN M w kd st am) := by
  have hv := hW.2.2.2.2.2.2.1
  obtain ⟨⟨s3, s4, s5, s6, s7, s8, s11, s2⟩, n0, t0⟩ := seN_at (M := M) (w := w) (kd := kd) (st := st) (am := am)
  refine MW_of (w := w) hW (fun c z q1 q2 q3 q4 q5 => seN_ot (by omega)) (Or.inr s3) (Or.inl s4) (by rw [s8]; exact ⟨by omega, by omega⟩) (by rw [s2]; omega) (fun j a b => ?_) (by rw [s5]; exact h1) (by rw [s7]; exact h3) hw
  by_cases q : j = 0
  · rw [q, Int.add_zero, n0]; exact h2
  · rw [seN_ot (by omega)]; exact hv (8 * w + j) (by omega) (by omega)
theorem c_send8n {kd st am : Int} (hk : rg kd) (hs : rg st) (ha : rg am) (hn : ¬ seR kd st am = 0) : Ctr E 6 56 [vr 0, vi kd, vi st, vi am] (toAH S M) (some (vi (seR kd st am))) (toAH S M) := by
  obtain ⟨A, hA⟩ : ∃ A, A = seR kd st am := ⟨_, rfl⟩
  rw [← hA] at hn ⊢
  unfold seR at hA
  refine Ctr_f mi_X8_send mo_X8_send (Nat.le_of_ble_eq_true rfl) ⟨Nat.le_refl _, Nat.le_refl _⟩ (fun g lm => ?_)
  rw [show entL mi_X8_send.2.2.1 [vr 0, vi kd, vi st, vi am] = [some (vr 0), some (vi kd), some (vi st), some (vi am), none, none] from rfl]
  refine e_X8_send 400 (lfok E (by omega)) ?_
  by_cases c1 : (0 ≤ st ∧ st ≤ 7) ∧ (0 ≤ am ∧ am ≤ 7)
  · have a1 : b2 (0 ≤ st ∧ st ≤ 7) = 1 := by simp [b2, c1.1]
    have a2 : b2 (0 ≤ am ∧ am ≤ 7) = 1 := by simp [b2, c1.2]
    rw [if_neg (fun f => f c1)] at hA
    by_cases c2 : 0 ≤ kd ∧ kd ≤ 2
    · rw [if_neg (fun f => f c2)] at hA
      by_cases c3 : st = am
      · rw [if_pos c3] at hA
        subst hA
        simp +contextual (disch := first | omega | exact Nat.le_of_ble_eq_true rfl | assumption) only [↓r_X8_send_0, ↓r_X8_send_1, ↓r_X8_send_4, ↓r_X8_send_7, ↓r_X8_send_8, ↓r_X8_send_11, ↓r_X8_send_14, ↓r_X8_send_15, ↓r_X8_send_16, ↓r_X8_send_17, ↓r_X8_send_20, ↓r_X8_send_21, ↓r_X8_send_22, ↓r_X8_send_25, ↓r_X8_send_27, ↓r_X8_send_28, ↓r_X8_send_29, ↓r_X8_send_30, ↓r_X8_send_33, ↓r_X8_send_35, ↓r_X8_send_36, ↓r_X8_send_37, ↓r_X8_send_40, ↓r_X8_send_42, ↓r_X8_send_44, ↓r_X8_send_46, ↓r_X8_send_49, ↓r_X8_send_51, ↓r_X8_send_52, ↓r_X8_send_53, ↓r_X8_send_56, ↓r_X8_send_58, ↓r_X8_send_59, ↓r_X8_send_61, ↓r_X8_send_63, ↓r_X8_send_64, ↓r_X8_send_65, ↓r_X8_send_66, ↓r_X8_send_67, ↓r_X8_send_70, ↓r_X8_send_73, ↓r_X8_send_74, ↓r_X8_send_76, ↓r_X8_send_77, ↓r_X8_send_80, ↓r_X8_send_82, ↓r_X8_send_85, ↓r_X8_send_88, ↓r_X8_send_90, ↓r_X8_send_93, ↓r_X8_send_95, ↓x1_2, ↓lf_X8_isNode, ↓x31_0, ↓x31b0, ↓x1_3, ↓x31_1, ↓x31b1, ↓x0, ↓x48_0, ↓x1_1, ↓x31_2, ↓x32_2, ↓x32_1, ↓x2_0, ↓v8_1, ↓x4_4n, ↓x4_4i, ↓x4_4r, ↓x1_4, ↓f8_3, ↓x5_5n, ↓x5_5i, ↓x5_5r, ↓x2_5, ↓f8_10, ↓v7_5, ↓v8_3, ↓f7_3, ↓x33, ↓l_2, ↓l_3, ↓l_4, ↓l_5, ↓l_6, ↓l_7, ↓l_9, ↓l_10, ↓l_11, ↓l_12, ↓l_13, ↓l_15, ↓l_16, ↓l_r1, ↓l_r2, ↓l_w1, ↓l_w2, and_self, and_true, true_and, implies_true, true_implies, Int.reduceEq, Int.reduceLE, Int.reduceLT, not_true_eq_false, not_false_eq_true, false_implies, RTf_eq, a1, a2]
        (repeat' first | rfl | (refine And.intro ?_ ?_) | intro _ | (exfalso; omega))
      · rw [if_neg c3] at hA; exact absurd hA hn
    · rw [if_pos c2] at hA
      subst hA
      simp +contextual (disch := first | omega | exact Nat.le_of_ble_eq_true rfl | assumption) only [↓r_X8_send_0, ↓r_X8_send_1, ↓r_X8_send_4, ↓r_X8_send_7, ↓r_X8_send_8, ↓r_X8_send_11, ↓r_X8_send_14, ↓r_X8_send_15, ↓r_X8_send_16, ↓r_X8_send_17, ↓r_X8_send_20, ↓r_X8_send_21, ↓r_X8_send_22, ↓r_X8_send_25, ↓r_X8_send_27, ↓r_X8_send_28, ↓r_X8_send_29, ↓r_X8_send_30, ↓r_X8_send_33, ↓r_X8_send_35, ↓r_X8_send_36, ↓r_X8_send_37, ↓r_X8_send_40, ↓r_X8_send_42, ↓r_X8_send_44, ↓r_X8_send_46, ↓r_X8_send_49, ↓r_X8_send_51, ↓r_X8_send_52, ↓r_X8_send_53, ↓r_X8_send_56, ↓r_X8_send_58, ↓r_X8_send_59, ↓r_X8_send_61, ↓r_X8_send_63, ↓r_X8_send_64, ↓r_X8_send_65, ↓r_X8_send_66, ↓r_X8_send_67, ↓r_X8_send_70, ↓r_X8_send_73, ↓r_X8_send_74, ↓r_X8_send_76, ↓r_X8_send_77, ↓r_X8_send_80, ↓r_X8_send_82, ↓r_X8_send_85, ↓r_X8_send_88, ↓r_X8_send_90, ↓r_X8_send_93, ↓r_X8_send_95, ↓x1_2, ↓lf_X8_isNode, ↓x31_0, ↓x31b0, ↓x1_3, ↓x31_1, ↓x31b1, ↓x0, ↓x48_0, ↓x1_1, ↓x31_2, ↓x32_2, ↓x32_1, ↓x2_0, ↓v8_1, ↓x4_4n, ↓x4_4i, ↓x4_4r, ↓x1_4, ↓f8_3, ↓x5_5n, ↓x5_5i, ↓x5_5r, ↓x2_5, ↓f8_10, ↓v7_5, ↓v8_3, ↓f7_3, ↓x33, ↓l_2, ↓l_3, ↓l_4, ↓l_5, ↓l_6, ↓l_7, ↓l_9, ↓l_10, ↓l_11, ↓l_12, ↓l_13, ↓l_15, ↓l_16, ↓l_r1, ↓l_r2, ↓l_w1, ↓l_w2, and_self, and_true, true_and, implies_true, true_implies, Int.reduceEq, Int.reduceLE, Int.reduceLT, not_true_eq_false, not_false_eq_true, false_implies, RTf_eq, a1, a2]
      (repeat' first | rfl | (refine And.intro ?_ ?_) | intro _ | (exfalso; omega))
  · rw [if_pos c1] at hA
    subst hA
    simp +contextual (disch := first | omega | exact Nat.le_of_ble_eq_true rfl | assumption) only [↓r_X8_send_0, ↓r_X8_send_1, ↓r_X8_send_4, ↓r_X8_send_7, ↓r_X8_send_8, ↓r_X8_send_11, ↓r_X8_send_14, ↓r_X8_send_15, ↓r_X8_send_16, ↓r_X8_send_17, ↓r_X8_send_20, ↓r_X8_send_21, ↓r_X8_send_22, ↓r_X8_send_25, ↓r_X8_send_27, ↓r_X8_send_28, ↓r_X8_send_29, ↓r_X8_send_30, ↓r_X8_send_33, ↓r_X8_send_35, ↓r_X8_send_36, ↓r_X8_send_37, ↓r_X8_send_40, ↓r_X8_send_42, ↓r_X8_send_44, ↓r_X8_send_46, ↓r_X8_send_49, ↓r_X8_send_51, ↓r_X8_send_52, ↓r_X8_send_53, ↓r_X8_send_56, ↓r_X8_send_58, ↓r_X8_send_59, ↓r_X8_send_61, ↓r_X8_send_63, ↓r_X8_send_64, ↓r_X8_send_65, ↓r_X8_send_66, ↓r_X8_send_67, ↓r_X8_send_70, ↓r_X8_send_73, ↓r_X8_send_74, ↓r_X8_send_76, ↓r_X8_send_77, ↓r_X8_send_80, ↓r_X8_send_82, ↓r_X8_send_85, ↓r_X8_send_88, ↓r_X8_send_90, ↓r_X8_send_93, ↓r_X8_send_95, ↓x1_2, ↓lf_X8_isNode, ↓x31_0, ↓x31b0, ↓x1_3, ↓x31_1, ↓x31b1, ↓x0, ↓x48_0, ↓x1_1, ↓x31_2, ↓x32_2, ↓x32_1, ↓x2_0, ↓v8_1, ↓x4_4n, ↓x4_4i, ↓x4_4r, ↓x1_4, ↓f8_3, ↓x5_5n, ↓x5_5i, ↓x5_5r, ↓x2_5, ↓f8_10, ↓v7_5, ↓v8_3, ↓f7_3, ↓x33, ↓l_2, ↓l_3, ↓l_4, ↓l_5, ↓l_6, ↓l_7, ↓l_9, ↓l_10, ↓l_11, ↓l_12, ↓l_13, ↓l_15, ↓l_16, ↓l_r1, ↓l_r2, ↓l_w1, ↓l_w2, and_self, and_true, true_and, implies_true, true_implies, Int.reduceEq, Int.reduceLE, Int.reduceLT, not_true_eq_false, not_false_eq_true, false_implies, RTf_eq]
    (repeat' first | rfl | (refine And.intro ?_ ?_) | intro _ | (exfalso; omega))
theorem c_send9n {kd st am : Int} (hk : rg kd) (hs : rg st) (ha : rg am) (hn : ¬ seR kd st am = 0) : Ctr E 6 126 [vr 248, vi kd, vi st, vi am] (toAH S M) (some (vi (seR kd st am))) (toAH S M) := by
  obtain ⟨A, hA⟩ : ∃ A, A = seR kd st am := ⟨_, rfl⟩
  rw [← hA] at hn ⊢
  unfold seR at hA
  refine Ctr_f mi_X9_send mo_X9_send (Nat.le_of_ble_eq_true rfl) ⟨Nat.le_refl _, Nat.le_refl _⟩ (fun g lm => ?_)
  rw [show entL mi_X9_send.2.2.1 [vr 248, vi kd, vi st, vi am] = [some (vr 248), some (vi kd), some (vi st), some (vi am), none] from rfl]
  refine e_X9_send 400 (lfok E (by omega)) ?_
  by_cases c1 : (0 ≤ st ∧ st ≤ 7) ∧ (0 ≤ am ∧ am ≤ 7)
  · have a1 : b2 (0 ≤ st ∧ st ≤ 7) = 1 := by simp [b2, c1.1]
    have a2 : b2 (0 ≤ am ∧ am ≤ 7) = 1 := by simp [b2, c1.2]
    rw [if_neg (fun f => f c1)] at hA
    by_cases c2 : 0 ≤ kd ∧ kd ≤ 2
    · have a3 : b2 (0 ≤ kd ∧ kd ≤ 2) = 1 := by simp [b2, c2]
      rw [if_neg (fun f => f c2)] at hA
      by_cases c3 : st = am
      · rw [if_pos c3] at hA
        subst hA
        simp +contextual (disch := first | omega | exact Nat.le_of_ble_eq_true rfl | assumption) only [↓r_X9_send_0, ↓r_X9_send_1, ↓r_X9_send_4, ↓r_X9_send_7, ↓r_X9_send_8, ↓r_X9_send_11, ↓r_X9_send_14, ↓r_X9_send_15, ↓r_X9_send_16, ↓r_X9_send_17, ↓r_X9_send_18, ↓r_X9_send_19, ↓r_X9_send_22, ↓r_X9_send_25, ↓r_X9_send_27, ↓r_X9_send_28, ↓r_X9_send_29, ↓r_X9_send_30, ↓r_X9_send_33, ↓r_X9_send_35, ↓r_X9_send_36, ↓r_X9_send_37, ↓r_X9_send_39, ↓r_X9_send_41, ↓r_X9_send_43, ↓r_X9_send_46, ↓r_X9_send_47, ↓r_X9_send_50, ↓r_X9_send_52, ↓r_X9_send_53, ↓r_X9_send_56, ↓r_X9_send_59, ↓r_X9_send_62, ↓r_X9_send_64, ↓r_X9_send_66, ↓r_X9_send_69, ↓r_X9_send_71, ↓r_X9_send_72, ↓r_X9_send_73, ↓r_X9_send_76, ↓r_X9_send_78, ↓r_X9_send_79, ↓r_X9_send_80, ↓r_X9_send_81, ↓r_X9_send_84, ↓r_X9_send_86, ↓r_X9_send_87, ↓r_X9_send_88, ↓r_X9_send_89, ↓r_X9_send_92, ↓r_X9_send_94, ↓r_X9_send_95, ↓r_X9_send_96, ↓r_X9_send_97, ↓r_X9_send_100, ↓r_X9_send_102, ↓r_X9_send_103, ↓r_X9_send_104, ↓r_X9_send_105, ↓r_X9_send_108, ↓r_X9_send_110, ↓r_X9_send_112, ↓r_X9_send_113, ↓r_X9_send_114, ↓r_X9_send_117, ↓r_X9_send_119, ↓r_X9_send_120, ↓r_X9_send_121, ↓r_X9_send_122, ↓r_X9_send_125, ↓r_X9_send_127, ↓r_X9_send_128, ↓r_X9_send_129, ↓r_X9_send_130, ↓r_X9_send_133, ↓r_X9_send_135, ↓r_X9_send_137, ↓r_X9_send_138, ↓r_X9_send_139, ↓r_X9_send_140, ↓r_X9_send_141, ↓r_X9_send_144, ↓r_X9_send_146, ↓r_X9_send_148, ↓r_X9_send_149, ↓r_X9_send_150, ↓r_X9_send_153, ↓r_X9_send_154, ↓r_X9_send_155, ↓r_X9_send_158, ↓r_X9_send_160, ↓r_X9_send_161, ↓r_X9_send_162, ↓r_X9_send_163, ↓r_X9_send_165, ↓r_X9_send_166, ↓r_X9_send_169, ↓r_X9_send_172, ↓r_X9_send_174, ↓r_X9_send_177, ↓r_X9_send_179, ↓x1_2, ↓lf_X9_isNode, ↓x31_0, ↓x31b0, ↓x1_3, ↓x31_1, ↓x31b1, ↓x0, ↓x48_0, ↓x1_1, ↓lf_X9_within, ↓x32_1, ↓x4_4n, ↓x4_4i, ↓x4_4r, ↓x1_4, ↓x32_3, ↓x2_0, ↓f9_17, ↓x7_4n, ↓x7_4i, ↓x7_4r, ↓x33, ↓f9_18, ↓f9_19, ↓f9_20, ↓f9_21, ↓f9_22, ↓f9_25, ↓f9_26, ↓f9_27, ↓x10, ↓f9_28, ↓f9_12, ↓v9_3, ↓l_249, ↓s_249, ↓l_250, ↓s_250, ↓l_251, ↓s_251, ↓l_252, ↓s_252, ↓l_253, ↓s_253, ↓l_254, ↓s_254, ↓l_255, ↓s_255, ↓l_256, ↓s_256, ↓l_257, ↓s_257, ↓l_258, ↓s_258, ↓l_259, ↓s_259, ↓l_260, ↓s_260, ↓l_261, ↓s_261, ↓l_262, ↓s_262, ↓l_263, ↓s_263, ↓l_264, ↓s_264, ↓l_265, ↓s_265, ↓l_266, ↓s_266, ↓l_267, ↓s_267, ↓l_268, ↓s_268, ↓l_269, ↓s_269, ↓l_270, ↓s_270, ↓l_271, ↓s_271, ↓l_272, ↓s_272, ↓l_273, ↓s_273, ↓l_274, ↓s_274, and_self, and_true, true_and, implies_true, true_implies, Int.reduceEq, Int.reduceLE, Int.reduceLT, not_true_eq_false, not_false_eq_true, false_implies, RTf_eq, a1, a2, a3]
        (repeat' first | rfl | (refine And.intro ?_ ?_) | intro _ | (exfalso; omega))
      · rw [if_neg c3] at hA; exact absurd hA hn
    · have a3 : b2 (0 ≤ kd ∧ kd ≤ 2) = 0 := by simp [b2, c2]
      rw [if_pos c2] at hA
      subst hA
      simp +contextual (disch := first | omega | exact Nat.le_of_ble_eq_true rfl | assumption) only [↓r_X9_send_0, ↓r_X9_send_1, ↓r_X9_send_4, ↓r_X9_send_7, ↓r_X9_send_8, ↓r_X9_send_11, ↓r_X9_send_14, ↓r_X9_send_15, ↓r_X9_send_16, ↓r_X9_send_17, ↓r_X9_send_18, ↓r_X9_send_19, ↓r_X9_send_22, ↓r_X9_send_25, ↓r_X9_send_27, ↓r_X9_send_28, ↓r_X9_send_29, ↓r_X9_send_30, ↓r_X9_send_33, ↓r_X9_send_35, ↓r_X9_send_36, ↓r_X9_send_37, ↓r_X9_send_39, ↓r_X9_send_41, ↓r_X9_send_43, ↓r_X9_send_46, ↓r_X9_send_47, ↓r_X9_send_50, ↓r_X9_send_52, ↓r_X9_send_53, ↓r_X9_send_56, ↓r_X9_send_59, ↓r_X9_send_62, ↓r_X9_send_64, ↓r_X9_send_66, ↓r_X9_send_69, ↓r_X9_send_71, ↓r_X9_send_72, ↓r_X9_send_73, ↓r_X9_send_76, ↓r_X9_send_78, ↓r_X9_send_79, ↓r_X9_send_80, ↓r_X9_send_81, ↓r_X9_send_84, ↓r_X9_send_86, ↓r_X9_send_87, ↓r_X9_send_88, ↓r_X9_send_89, ↓r_X9_send_92, ↓r_X9_send_94, ↓r_X9_send_95, ↓r_X9_send_96, ↓r_X9_send_97, ↓r_X9_send_100, ↓r_X9_send_102, ↓r_X9_send_103, ↓r_X9_send_104, ↓r_X9_send_105, ↓r_X9_send_108, ↓r_X9_send_110, ↓r_X9_send_112, ↓r_X9_send_113, ↓r_X9_send_114, ↓r_X9_send_117, ↓r_X9_send_119, ↓r_X9_send_120, ↓r_X9_send_121, ↓r_X9_send_122, ↓r_X9_send_125, ↓r_X9_send_127, ↓r_X9_send_128, ↓r_X9_send_129, ↓r_X9_send_130, ↓r_X9_send_133, ↓r_X9_send_135, ↓r_X9_send_137, ↓r_X9_send_138, ↓r_X9_send_139, ↓r_X9_send_140, ↓r_X9_send_141, ↓r_X9_send_144, ↓r_X9_send_146, ↓r_X9_send_148, ↓r_X9_send_149, ↓r_X9_send_150, ↓r_X9_send_153, ↓r_X9_send_154, ↓r_X9_send_155, ↓r_X9_send_158, ↓r_X9_send_160, ↓r_X9_send_161, ↓r_X9_send_162, ↓r_X9_send_163, ↓r_X9_send_165, ↓r_X9_send_166, ↓r_X9_send_169, ↓r_X9_send_172, ↓r_X9_send_174, ↓r_X9_send_177, ↓r_X9_send_179, ↓x1_2, ↓lf_X9_isNode, ↓x31_0, ↓x31b0, ↓x1_3, ↓x31_1, ↓x31b1, ↓x0, ↓x48_0, ↓x1_1, ↓lf_X9_within, ↓x32_1, ↓x4_4n, ↓x4_4i, ↓x4_4r, ↓x1_4, ↓x32_3, ↓x2_0, ↓f9_17, ↓x7_4n, ↓x7_4i, ↓x7_4r, ↓x33, ↓f9_18, ↓f9_19, ↓f9_20, ↓f9_21, ↓f9_22, ↓f9_25, ↓f9_26, ↓f9_27, ↓x10, ↓f9_28, ↓f9_12, ↓v9_3, ↓l_249, ↓s_249, ↓l_250, ↓s_250, ↓l_251, ↓s_251, ↓l_252, ↓s_252, ↓l_253, ↓s_253, ↓l_254, ↓s_254, ↓l_255, ↓s_255, ↓l_256, ↓s_256, ↓l_257, ↓s_257, ↓l_258, ↓s_258, ↓l_259, ↓s_259, ↓l_260, ↓s_260, ↓l_261, ↓s_261, ↓l_262, ↓s_262, ↓l_263, ↓s_263, ↓l_264, ↓s_264, ↓l_265, ↓s_265, ↓l_266, ↓s_266, ↓l_267, ↓s_267, ↓l_268, ↓s_268, ↓l_269, ↓s_269, ↓l_270, ↓s_270, ↓l_271, ↓s_271, ↓l_272, ↓s_272, ↓l_273, ↓s_273, ↓l_274, ↓s_274, and_self, and_true, true_and, implies_true, true_implies, Int.reduceEq, Int.reduceLE, Int.reduceLT, not_true_eq_false, not_false_eq_true, false_implies, RTf_eq, a1, a2, a3]
  · rw [if_pos c1] at hA
    subst hA
    simp +contextual (disch := first | omega | exact Nat.le_of_ble_eq_true rfl | assumption) only [↓r_X9_send_0, ↓r_X9_send_1, ↓r_X9_send_4, ↓r_X9_send_7, ↓r_X9_send_8, ↓r_X9_send_11, ↓r_X9_send_14, ↓r_X9_send_15, ↓r_X9_send_16, ↓r_X9_send_17, ↓r_X9_send_18, ↓r_X9_send_19, ↓r_X9_send_22, ↓r_X9_send_25, ↓r_X9_send_27, ↓r_X9_send_28, ↓r_X9_send_29, ↓r_X9_send_30, ↓r_X9_send_33, ↓r_X9_send_35, ↓r_X9_send_36, ↓r_X9_send_37, ↓r_X9_send_39, ↓r_X9_send_41, ↓r_X9_send_43, ↓r_X9_send_46, ↓r_X9_send_47, ↓r_X9_send_50, ↓r_X9_send_52, ↓r_X9_send_53, ↓r_X9_send_56, ↓r_X9_send_59, ↓r_X9_send_62, ↓r_X9_send_64, ↓r_X9_send_66, ↓r_X9_send_69, ↓r_X9_send_71, ↓r_X9_send_72, ↓r_X9_send_73, ↓r_X9_send_76, ↓r_X9_send_78, ↓r_X9_send_79, ↓r_X9_send_80, ↓r_X9_send_81, ↓r_X9_send_84, ↓r_X9_send_86, ↓r_X9_send_87, ↓r_X9_send_88, ↓r_X9_send_89, ↓r_X9_send_92, ↓r_X9_send_94, ↓r_X9_send_95, ↓r_X9_send_96, ↓r_X9_send_97, ↓r_X9_send_100, ↓r_X9_send_102, ↓r_X9_send_103, ↓r_X9_send_104, ↓r_X9_send_105, ↓r_X9_send_108, ↓r_X9_send_110, ↓r_X9_send_112, ↓r_X9_send_113, ↓r_X9_send_114, ↓r_X9_send_117, ↓r_X9_send_119, ↓r_X9_send_120, ↓r_X9_send_121, ↓r_X9_send_122, ↓r_X9_send_125, ↓r_X9_send_127, ↓r_X9_send_128, ↓r_X9_send_129, ↓r_X9_send_130, ↓r_X9_send_133, ↓r_X9_send_135, ↓r_X9_send_137, ↓r_X9_send_138, ↓r_X9_send_139, ↓r_X9_send_140, ↓r_X9_send_141, ↓r_X9_send_144, ↓r_X9_send_146, ↓r_X9_send_148, ↓r_X9_send_149, ↓r_X9_send_150, ↓r_X9_send_153, ↓r_X9_send_154, ↓r_X9_send_155, ↓r_X9_send_158, ↓r_X9_send_160, ↓r_X9_send_161, ↓r_X9_send_162, ↓r_X9_send_163, ↓r_X9_send_165, ↓r_X9_send_166, ↓r_X9_send_169, ↓r_X9_send_172, ↓r_X9_send_174, ↓r_X9_send_177, ↓r_X9_send_179, ↓x1_2, ↓lf_X9_isNode, ↓x31_0, ↓x31b0, ↓x1_3, ↓x31_1, ↓x31b1, ↓x0, ↓x48_0, ↓x1_1, ↓lf_X9_within, ↓x32_1, ↓x4_4n, ↓x4_4i, ↓x4_4r, ↓x1_4, ↓x32_3, ↓x2_0, ↓f9_17, ↓x7_4n, ↓x7_4i, ↓x7_4r, ↓x33, ↓f9_18, ↓f9_19, ↓f9_20, ↓f9_21, ↓f9_22, ↓f9_25, ↓f9_26, ↓f9_27, ↓x10, ↓f9_28, ↓f9_12, ↓v9_3, ↓l_249, ↓s_249, ↓l_250, ↓s_250, ↓l_251, ↓s_251, ↓l_252, ↓s_252, ↓l_253, ↓s_253, ↓l_254, ↓s_254, ↓l_255, ↓s_255, ↓l_256, ↓s_256, ↓l_257, ↓s_257, ↓l_258, ↓s_258, ↓l_259, ↓s_259, ↓l_260, ↓s_260, ↓l_261, ↓s_261, ↓l_262, ↓s_262, ↓l_263, ↓s_263, ↓l_264, ↓s_264, ↓l_265, ↓s_265, ↓l_266, ↓s_266, ↓l_267, ↓s_267, ↓l_268, ↓s_268, ↓l_269, ↓s_269, ↓l_270, ↓s_270, ↓l_271, ↓s_271, ↓l_272, ↓s_272, ↓l_273, ↓s_273, ↓l_274, ↓s_274, and_self, and_true, true_and, implies_true, true_implies, Int.reduceEq, Int.reduceLE, Int.reduceLT, not_true_eq_false, not_false_eq_true, false_implies, RTf_eq]
    (repeat' first | rfl | (refine And.intro ?_ ?_) | intro _ | (exfalso; omega))
def fw8 (M : Mem) : Int := fi (fun j => decide (M (209 + 3 * j) 3 = 0)) 0 12
def fw9 (M : Mem) : Int := fi (fun j => decide (M 258 j = 0)) 0 12
theorem c_send8f {kd st am : Int} (hy : seR kd st am = 0) (hW : CW M) (hf : fw8 M = -9) : Ctr E 6 56 [vr 0, vi kd, vi st, vi am] (toAH S M) (some (vi (-4))) (toAH S M) := by
  obtain ⟨c1, c2, c3⟩ := seR_0 hy
  have a1 : b2 (0 ≤ st ∧ st ≤ 7) = 1 := by simp [b2, c1.1]
  have a2 : b2 (0 ≤ am ∧ am ≤ 7) = 1 := by simp [b2, c1.2]
  have cF := c_freeWalker (E := E) (S := S) (M := M) hW.1
  rw [show fi (fun j => decide (M (209 + 3 * j) 3 = 0)) 0 12 = fw8 M from rfl, hf] at cF
  refine Ctr_f mi_X8_send mo_X8_send (Nat.le_of_ble_eq_true rfl) ⟨Nat.le_refl _, Nat.le_refl _⟩ (fun g lm => ?_)
  rw [show entL mi_X8_send.2.2.1 [vr 0, vi kd, vi st, vi am] = [some (vr 0), some (vi kd), some (vi st), some (vi am), none, none] from rfl]
  refine e_X8_send 400 (lfok E (by omega)) ?_
  simp +contextual (disch := first | omega | exact Nat.le_of_ble_eq_true rfl | assumption) only [↓r_X8_send_0, ↓r_X8_send_1, ↓r_X8_send_4, ↓r_X8_send_7, ↓r_X8_send_8, ↓r_X8_send_11, ↓r_X8_send_14, ↓r_X8_send_15, ↓r_X8_send_16, ↓r_X8_send_17, ↓r_X8_send_20, ↓r_X8_send_21, ↓r_X8_send_22, ↓r_X8_send_25, ↓r_X8_send_27, ↓r_X8_send_28, ↓r_X8_send_29, ↓r_X8_send_30, ↓r_X8_send_33, ↓r_X8_send_35, ↓r_X8_send_36, ↓r_X8_send_37, ↓r_X8_send_40, ↓r_X8_send_42, ↓r_X8_send_44, ↓r_X8_send_46, ↓r_X8_send_49, ↓r_X8_send_51, ↓r_X8_send_52, ↓r_X8_send_53, ↓r_X8_send_56, ↓r_X8_send_58, ↓r_X8_send_59, ↓r_X8_send_61, ↓r_X8_send_63, ↓r_X8_send_64, ↓r_X8_send_65, ↓r_X8_send_66, ↓r_X8_send_67, ↓r_X8_send_70, ↓r_X8_send_73, ↓r_X8_send_74, ↓r_X8_send_76, ↓r_X8_send_77, ↓r_X8_send_80, ↓r_X8_send_82, ↓r_X8_send_85, ↓r_X8_send_88, ↓r_X8_send_90, ↓r_X8_send_93, ↓r_X8_send_95, ↓x1_2, ↓lf_X8_isNode, ↓x31_0, ↓x31b0, ↓x1_3, ↓x31_1, ↓x31b1, ↓x0, ↓x48_0, ↓x1_1, ↓x31_2, ↓x32_2, ↓x32_1, ↓x2_0, ↓v8_1, ↓x4_4n, ↓x4_4i, ↓x4_4r, ↓x1_4, ↓f8_3, ↓x5_5n, ↓x5_5i, ↓x5_5r, ↓x2_5, ↓f8_10, ↓v7_5, ↓v8_3, ↓f7_3, ↓x33, ↓l_2, ↓l_3, ↓l_4, ↓l_5, ↓l_6, ↓l_7, ↓l_9, ↓l_10, ↓l_11, ↓l_12, ↓l_13, ↓l_15, ↓l_16, ↓l_r1, ↓l_r2, ↓l_w1, ↓l_w2, and_self, and_true, true_and, implies_true, true_implies, Int.reduceEq, Int.reduceLE, Int.reduceLT, not_true_eq_false, not_false_eq_true, false_implies, RTf_eq, a1, a2]
  refine ⟨fun f => by omega, fun _ => ⟨fun _ => ⟨fun _ => ?_, fun f => absurd c3 f⟩, fun f => by omega⟩⟩
  refine ck_r cF (by omega) (by simp) ?_
  simp +contextual (disch := first | omega | exact Nat.le_of_ble_eq_true rfl | assumption) only [↓r_X8_send_0, ↓r_X8_send_1, ↓r_X8_send_4, ↓r_X8_send_7, ↓r_X8_send_8, ↓r_X8_send_11, ↓r_X8_send_14, ↓r_X8_send_15, ↓r_X8_send_16, ↓r_X8_send_17, ↓r_X8_send_20, ↓r_X8_send_21, ↓r_X8_send_22, ↓r_X8_send_25, ↓r_X8_send_27, ↓r_X8_send_28, ↓r_X8_send_29, ↓r_X8_send_30, ↓r_X8_send_33, ↓r_X8_send_35, ↓r_X8_send_36, ↓r_X8_send_37, ↓r_X8_send_40, ↓r_X8_send_42, ↓r_X8_send_44, ↓r_X8_send_46, ↓r_X8_send_49, ↓r_X8_send_51, ↓r_X8_send_52, ↓r_X8_send_53, ↓r_X8_send_56, ↓r_X8_send_58, ↓r_X8_send_59, ↓r_X8_send_61, ↓r_X8_send_63, ↓r_X8_send_64, ↓r_X8_send_65, ↓r_X8_send_66, ↓r_X8_send_67, ↓r_X8_send_70, ↓r_X8_send_73, ↓r_X8_send_74, ↓r_X8_send_76, ↓r_X8_send_77, ↓r_X8_send_80, ↓r_X8_send_82, ↓r_X8_send_85, ↓r_X8_send_88, ↓r_X8_send_90, ↓r_X8_send_93, ↓r_X8_send_95, ↓x1_2, ↓lf_X8_isNode, ↓x31_0, ↓x31b0, ↓x1_3, ↓x31_1, ↓x31b1, ↓x0, ↓x48_0, ↓x1_1, ↓x31_2, ↓x32_2, ↓x32_1, ↓x2_0, ↓v8_1, ↓x4_4n, ↓x4_4i, ↓x4_4r, ↓x1_4, ↓f8_3, ↓x5_5n, ↓x5_5i, ↓x5_5r, ↓x2_5, ↓f8_10, ↓v7_5, ↓v8_3, ↓f7_3, ↓x33, ↓l_2, ↓l_3, ↓l_4, ↓l_5, ↓l_6, ↓l_7, ↓l_9, ↓l_10, ↓l_11, ↓l_12, ↓l_13, ↓l_15, ↓l_16, ↓l_r1, ↓l_r2, ↓l_w1, ↓l_w2, and_self, and_true, true_and, implies_true, true_implies, Int.reduceEq, Int.reduceLE, Int.reduceLT, not_true_eq_false, not_false_eq_true, false_implies, RTf_eq]
theorem c_send8y {kd st am : Int} (hy : seR kd st am = 0) (hW : CW M) (hf : ¬ fw8 M = -9) : Ctr E 6 56 [vr 0, vi kd, vi st, vi am] (toAH S M) (some (vi (if goM (seM M (fw8 M) kd st am) (fw8 M) st (209 + 3 * fw8 M) 3 = 0 then -9 else fw8 M))) (toAH S (goM (seM M (fw8 M) kd st am) (fw8 M) st)) := by
  obtain ⟨c1, c2, c3⟩ := seR_0 hy
  have a1 : b2 (0 ≤ st ∧ st ≤ 7) = 1 := by simp [b2, c1.1]
  have a2 : b2 (0 ≤ am ∧ am ≤ 7) = 1 := by simp [b2, c1.2]
  have cF := c_freeWalker (E := E) (S := S) (M := M) hW.1
  rw [show fi (fun j => decide (M (209 + 3 * j) 3 = 0)) 0 12 = fw8 M from rfl] at cF
  have fr := fi_rng (p := fun j => decide (M (209 + 3 * j) 3 = 0)) 12 0 (by omega)
  have hw : 0 ≤ fw8 M ∧ fw8 M < 12 := by
    rcases fr with q | q
    · exact absurd q hf
    · exact ⟨q.1, by have := q.2.1; unfold fw8; omega⟩
  obtain ⟨w, ew⟩ : ∃ w, w = fw8 M := ⟨_, rfl⟩
  rw [← ew] at cF hw hf ⊢
  have hv := hW.2.2.2.2.2.2.2.2.2.1
  have cS := c_setOut (E := E) (S := S) (M := M) (w := w) (kd := kd) (st := st) (am := am) (t := M 0 10) hw ⟨by omega, by omega⟩ (fun k a b => by have := hv w k hw.1 hw.2 a b; exact ⟨by omega, by omega⟩)
  rw [show rmX (soM M w kd st am) w st (M 0 10) (-9) = seM M w kd st am from rfl] at cS
  have hW2 := CW_se hW hw c2 c1.1 c1.2
  have cG := c_goOn (E := E) (S := S) (M := seM M w kd st am) (w := w) (i := st) hW2 hw (by omega) (by rw [seM_at.1.2.2.2.2.2.2.1]; exact ⟨by omega, by omega⟩)
  have g3 : goM (seM M w kd st am) w st (209 + 3 * w) 3 = 0 ∨ goM (seM M w kd st am) w st (209 + 3 * w) 3 = 1 := by
    have s3 := (seM_at (M := M) (w := w) (kd := kd) (st := st) (am := am)).1.1
    have lo : ∀ N : Mem, loM N w (209 + 3 * w) 3 = 0 := fun N => by unfold loM; rw [up2_other (by omega), up2_other (by omega), up2_same]
    unfold goM
    split
    · exact Or.inl (lo _)
    · split
      · exact Or.inl (lo _)
      · right
        unfold trM
        rw [up2_other (by omega), up2_other (by omega), up2_other (by omega), up2_other (by omega), pk8M_ot (by omega) (by omega)]
        exact s3
  obtain ⟨Z, hZ⟩ : ∃ Z, Z = goM (seM M w kd st am) w st := ⟨_, rfl⟩
  rw [← hZ] at cG g3 ⊢
  obtain ⟨R, hR⟩ : ∃ R, R = (if Z (209 + 3 * w) 3 = 0 then -9 else w) := ⟨_, rfl⟩
  rw [← hR]
  refine Ctr_f mi_X8_send mo_X8_send (Nat.le_of_ble_eq_true rfl) ⟨Nat.le_refl _, Nat.le_refl _⟩ (fun g lm => ?_)
  rw [show entL mi_X8_send.2.2.1 [vr 0, vi kd, vi st, vi am] = [some (vr 0), some (vi kd), some (vi st), some (vi am), none, none] from rfl]
  refine e_X8_send 400 (lfok E (by omega)) ?_
  simp +contextual (disch := first | omega | exact Nat.le_of_ble_eq_true rfl | assumption) only [↓r_X8_send_0, ↓r_X8_send_1, ↓r_X8_send_4, ↓r_X8_send_7, ↓r_X8_send_8, ↓r_X8_send_11, ↓r_X8_send_14, ↓r_X8_send_15, ↓r_X8_send_16, ↓r_X8_send_17, ↓r_X8_send_20, ↓r_X8_send_21, ↓r_X8_send_22, ↓r_X8_send_25, ↓r_X8_send_27, ↓r_X8_send_28, ↓r_X8_send_29, ↓r_X8_send_30, ↓r_X8_send_33, ↓r_X8_send_35, ↓r_X8_send_36, ↓r_X8_send_37, ↓r_X8_send_40, ↓r_X8_send_42, ↓r_X8_send_44, ↓r_X8_send_46, ↓r_X8_send_49, ↓r_X8_send_51, ↓r_X8_send_52, ↓r_X8_send_53, ↓r_X8_send_56, ↓r_X8_send_58, ↓r_X8_send_59, ↓r_X8_send_61, ↓r_X8_send_63, ↓r_X8_send_64, ↓r_X8_send_65, ↓r_X8_send_66, ↓r_X8_send_67, ↓r_X8_send_70, ↓r_X8_send_73, ↓r_X8_send_74, ↓r_X8_send_76, ↓r_X8_send_77, ↓r_X8_send_80, ↓r_X8_send_82, ↓r_X8_send_85, ↓r_X8_send_88, ↓r_X8_send_90, ↓r_X8_send_93, ↓r_X8_send_95, ↓x1_2, ↓lf_X8_isNode, ↓x31_0, ↓x31b0, ↓x1_3, ↓x31_1, ↓x31b1, ↓x0, ↓x48_0, ↓x1_1, ↓x31_2, ↓x32_2, ↓x32_1, ↓x2_0, ↓v8_1, ↓x4_4n, ↓x4_4i, ↓x4_4r, ↓x1_4, ↓f8_3, ↓x5_5n, ↓x5_5i, ↓x5_5r, ↓x2_5, ↓f8_10, ↓v7_5, ↓v8_3, ↓f7_3, ↓x33, ↓l_2, ↓l_3, ↓l_4, ↓l_5, ↓l_6, ↓l_7, ↓l_9, ↓l_10, ↓l_11, ↓l_12, ↓l_13, ↓l_15, ↓l_16, ↓l_r1, ↓l_r2, ↓l_w1, ↓l_w2, and_self, and_true, true_and, implies_true, true_implies, Int.reduceEq, Int.reduceLE, Int.reduceLT, not_true_eq_false, not_false_eq_true, false_implies, RTf_eq, a1, a2]
  refine ⟨fun f => by omega, fun _ => ⟨fun _ => ⟨fun _ => ?_, fun f => absurd c3 f⟩, fun f => by omega⟩⟩
  refine ck_r cF (by omega) (by simp) ?_
  simp +contextual (disch := first | omega | exact Nat.le_of_ble_eq_true rfl | assumption) only [↓r_X8_send_0, ↓r_X8_send_1, ↓r_X8_send_4, ↓r_X8_send_7, ↓r_X8_send_8, ↓r_X8_send_11, ↓r_X8_send_14, ↓r_X8_send_15, ↓r_X8_send_16, ↓r_X8_send_17, ↓r_X8_send_20, ↓r_X8_send_21, ↓r_X8_send_22, ↓r_X8_send_25, ↓r_X8_send_27, ↓r_X8_send_28, ↓r_X8_send_29, ↓r_X8_send_30, ↓r_X8_send_33, ↓r_X8_send_35, ↓r_X8_send_36, ↓r_X8_send_37, ↓r_X8_send_40, ↓r_X8_send_42, ↓r_X8_send_44, ↓r_X8_send_46, ↓r_X8_send_49, ↓r_X8_send_51, ↓r_X8_send_52, ↓r_X8_send_53, ↓r_X8_send_56, ↓r_X8_send_58, ↓r_X8_send_59, ↓r_X8_send_61, ↓r_X8_send_63, ↓r_X8_send_64, ↓r_X8_send_65, ↓r_X8_send_66, ↓r_X8_send_67, ↓r_X8_send_70, ↓r_X8_send_73, ↓r_X8_send_74, ↓r_X8_send_76, ↓r_X8_send_77, ↓r_X8_send_80, ↓r_X8_send_82, ↓r_X8_send_85, ↓r_X8_send_88, ↓r_X8_send_90, ↓r_X8_send_93, ↓r_X8_send_95, ↓x1_2, ↓lf_X8_isNode, ↓x31_0, ↓x31b0, ↓x1_3, ↓x31_1, ↓x31b1, ↓x0, ↓x48_0, ↓x1_1, ↓x31_2, ↓x32_2, ↓x32_1, ↓x2_0, ↓v8_1, ↓x4_4n, ↓x4_4i, ↓x4_4r, ↓x1_4, ↓f8_3, ↓x5_5n, ↓x5_5i, ↓x5_5r, ↓x2_5, ↓f8_10, ↓v7_5, ↓v8_3, ↓f7_3, ↓x33, ↓l_2, ↓l_3, ↓l_4, ↓l_5, ↓l_6, ↓l_7, ↓l_9, ↓l_10, ↓l_11, ↓l_12, ↓l_13, ↓l_15, ↓l_16, ↓l_r1, ↓l_r2, ↓l_w1, ↓l_w2, and_self, and_true, true_and, implies_true, true_implies, Int.reduceEq, Int.reduceLE, Int.reduceLT, not_true_eq_false, not_false_eq_true, false_implies, RTf_eq]
  refine ⟨fun _ => ?_, fun f => absurd hf f⟩
  refine ck_v cS (by omega) (by simp) ?_
  simp +contextual (disch := first | omega | exact Nat.le_of_ble_eq_true rfl | assumption) only [↓r_X8_send_0, ↓r_X8_send_1, ↓r_X8_send_4, ↓r_X8_send_7, ↓r_X8_send_8, ↓r_X8_send_11, ↓r_X8_send_14, ↓r_X8_send_15, ↓r_X8_send_16, ↓r_X8_send_17, ↓r_X8_send_20, ↓r_X8_send_21, ↓r_X8_send_22, ↓r_X8_send_25, ↓r_X8_send_27, ↓r_X8_send_28, ↓r_X8_send_29, ↓r_X8_send_30, ↓r_X8_send_33, ↓r_X8_send_35, ↓r_X8_send_36, ↓r_X8_send_37, ↓r_X8_send_40, ↓r_X8_send_42, ↓r_X8_send_44, ↓r_X8_send_46, ↓r_X8_send_49, ↓r_X8_send_51, ↓r_X8_send_52, ↓r_X8_send_53, ↓r_X8_send_56, ↓r_X8_send_58, ↓r_X8_send_59, ↓r_X8_send_61, ↓r_X8_send_63, ↓r_X8_send_64, ↓r_X8_send_65, ↓r_X8_send_66, ↓r_X8_send_67, ↓r_X8_send_70, ↓r_X8_send_73, ↓r_X8_send_74, ↓r_X8_send_76, ↓r_X8_send_77, ↓r_X8_send_80, ↓r_X8_send_82, ↓r_X8_send_85, ↓r_X8_send_88, ↓r_X8_send_90, ↓r_X8_send_93, ↓r_X8_send_95, ↓x1_2, ↓lf_X8_isNode, ↓x31_0, ↓x31b0, ↓x1_3, ↓x31_1, ↓x31b1, ↓x0, ↓x48_0, ↓x1_1, ↓x31_2, ↓x32_2, ↓x32_1, ↓x2_0, ↓v8_1, ↓x4_4n, ↓x4_4i, ↓x4_4r, ↓x1_4, ↓f8_3, ↓x5_5n, ↓x5_5i, ↓x5_5r, ↓x2_5, ↓f8_10, ↓v7_5, ↓v8_3, ↓f7_3, ↓x33, ↓l_2, ↓l_3, ↓l_4, ↓l_5, ↓l_6, ↓l_7, ↓l_9, ↓l_10, ↓l_11, ↓l_12, ↓l_13, ↓l_15, ↓l_16, ↓l_r1, ↓l_r2, ↓l_w1, ↓l_w2, and_self, and_true, true_and, implies_true, true_implies, Int.reduceEq, Int.reduceLE, Int.reduceLT, not_true_eq_false, not_false_eq_true, false_implies, RTf_eq]
  refine ck_v cG (by omega) (by simp) ?_
  simp +contextual (disch := first | omega | exact Nat.le_of_ble_eq_true rfl | assumption) only [↓r_X8_send_0, ↓r_X8_send_1, ↓r_X8_send_4, ↓r_X8_send_7, ↓r_X8_send_8, ↓r_X8_send_11, ↓r_X8_send_14, ↓r_X8_send_15, ↓r_X8_send_16, ↓r_X8_send_17, ↓r_X8_send_20, ↓r_X8_send_21, ↓r_X8_send_22, ↓r_X8_send_25, ↓r_X8_send_27, ↓r_X8_send_28, ↓r_X8_send_29, ↓r_X8_send_30, ↓r_X8_send_33, ↓r_X8_send_35, ↓r_X8_send_36, ↓r_X8_send_37, ↓r_X8_send_40, ↓r_X8_send_42, ↓r_X8_send_44, ↓r_X8_send_46, ↓r_X8_send_49, ↓r_X8_send_51, ↓r_X8_send_52, ↓r_X8_send_53, ↓r_X8_send_56, ↓r_X8_send_58, ↓r_X8_send_59, ↓r_X8_send_61, ↓r_X8_send_63, ↓r_X8_send_64, ↓r_X8_send_65, ↓r_X8_send_66, ↓r_X8_send_67, ↓r_X8_send_70, ↓r_X8_send_73, ↓r_X8_send_74, ↓r_X8_send_76, ↓r_X8_send_77, ↓r_X8_send_80, ↓r_X8_send_82, ↓r_X8_send_85, ↓r_X8_send_88, ↓r_X8_send_90, ↓r_X8_send_93, ↓r_X8_send_95, ↓x1_2, ↓lf_X8_isNode, ↓x31_0, ↓x31b0, ↓x1_3, ↓x31_1, ↓x31b1, ↓x0, ↓x48_0, ↓x1_1, ↓x31_2, ↓x32_2, ↓x32_1, ↓x2_0, ↓v8_1, ↓x4_4n, ↓x4_4i, ↓x4_4r, ↓x1_4, ↓f8_3, ↓x5_5n, ↓x5_5i, ↓x5_5r, ↓x2_5, ↓f8_10, ↓v7_5, ↓v8_3, ↓f7_3, ↓x33, ↓l_2, ↓l_3, ↓l_4, ↓l_5, ↓l_6, ↓l_7, ↓l_9, ↓l_10, ↓l_11, ↓l_12, ↓l_13, ↓l_15, ↓l_16, ↓l_r1, ↓l_r2, ↓l_w1, ↓l_w2, and_self, and_true, true_and, implies_true, true_implies, Int.reduceEq, Int.reduceLE, Int.reduceLT, not_true_eq_false, not_false_eq_true, false_implies, RTf_eq]
  refine ⟨fun q => ?_, fun q => ?_⟩
  · rw [hR, if_pos q]
  · rw [hR, if_neg q]
theorem l_send9 {g : GT} {lm : Nat × Nat} {RT : RTy} {kd st am : Int} (hs : 0 ≤ st ∧ st ≤ 7) (hk : 0 ≤ kd ∧ kd ≤ 2) (ha : 0 ≤ am ∧ am ≤ 7) (hW : MW M) :
    ∀ (n k : Nat), k + n = 12 → RT (some (vi (if fi (fun j => decide (M 258 j = 0)) (k : Int) n = -9 then -4 else if kn9 (seN M (fi (fun j => decide (M 258 j = 0)) (k : Int) n) kd st am) (fi (fun j => decide (M 258 j = 0)) (k : Int) n) st = -9 then -9 else fi (fun j => decide (M 258 j = 0)) (k : Int) n))) (toAH S (if fi (fun j => decide (M 258 j = 0)) (k : Int) n = -9 then M else goN (seN M (fi (fun j => decide (M 258 j = 0)) (k : Int) n) kd st am) (fi (fun j => decide (M 258 j = 0)) (k : Int) n) st)) → G E g mi_X9_send 6 lm RT 39 [some (vr 248), some (vi kd), some (vi st), some (vi am), some (vi (k : Int))] [] (toAH S M) := by
  intro n
  induction n with
  | zero =>
    intro k hk' hr
    have k12 : k = 12 := by omega
    subst k12
    rw [show fi (fun j => decide (M 258 j = 0)) ((12 : Nat) : Int) 0 = -9 from rfl, if_pos rfl, if_pos rfl] at hr
    refine q_X9_send_39 400 (lfok E (by omega)) ?_
    simp +contextual (disch := first | omega | exact Nat.le_of_ble_eq_true rfl | assumption) only [↓r_X9_send_0, ↓r_X9_send_1, ↓r_X9_send_4, ↓r_X9_send_7, ↓r_X9_send_8, ↓r_X9_send_11, ↓r_X9_send_14, ↓r_X9_send_15, ↓r_X9_send_16, ↓r_X9_send_17, ↓r_X9_send_18, ↓r_X9_send_19, ↓r_X9_send_22, ↓r_X9_send_25, ↓r_X9_send_27, ↓r_X9_send_28, ↓r_X9_send_29, ↓r_X9_send_30, ↓r_X9_send_33, ↓r_X9_send_35, ↓r_X9_send_36, ↓r_X9_send_37, ↓r_X9_send_39, ↓r_X9_send_41, ↓r_X9_send_43, ↓r_X9_send_46, ↓r_X9_send_47, ↓r_X9_send_50, ↓r_X9_send_52, ↓r_X9_send_53, ↓r_X9_send_56, ↓r_X9_send_59, ↓r_X9_send_62, ↓r_X9_send_64, ↓r_X9_send_66, ↓r_X9_send_69, ↓r_X9_send_71, ↓r_X9_send_72, ↓r_X9_send_73, ↓r_X9_send_76, ↓r_X9_send_78, ↓r_X9_send_79, ↓r_X9_send_80, ↓r_X9_send_81, ↓r_X9_send_84, ↓r_X9_send_86, ↓r_X9_send_87, ↓r_X9_send_88, ↓r_X9_send_89, ↓r_X9_send_92, ↓r_X9_send_94, ↓r_X9_send_95, ↓r_X9_send_96, ↓r_X9_send_97, ↓r_X9_send_100, ↓r_X9_send_102, ↓r_X9_send_103, ↓r_X9_send_104, ↓r_X9_send_105, ↓r_X9_send_108, ↓r_X9_send_110, ↓r_X9_send_112, ↓r_X9_send_113, ↓r_X9_send_114, ↓r_X9_send_117, ↓r_X9_send_119, ↓r_X9_send_120, ↓r_X9_send_121, ↓r_X9_send_122, ↓r_X9_send_125, ↓r_X9_send_127, ↓r_X9_send_128, ↓r_X9_send_129, ↓r_X9_send_130, ↓r_X9_send_133, ↓r_X9_send_135, ↓r_X9_send_137, ↓r_X9_send_138, ↓r_X9_send_139, ↓r_X9_send_140, ↓r_X9_send_141, ↓r_X9_send_144, ↓r_X9_send_146, ↓r_X9_send_148, ↓r_X9_send_149, ↓r_X9_send_150, ↓r_X9_send_153, ↓r_X9_send_154, ↓r_X9_send_155, ↓r_X9_send_158, ↓r_X9_send_160, ↓r_X9_send_161, ↓r_X9_send_162, ↓r_X9_send_163, ↓r_X9_send_165, ↓r_X9_send_166, ↓r_X9_send_169, ↓r_X9_send_172, ↓r_X9_send_174, ↓r_X9_send_177, ↓r_X9_send_179, ↓x1_2, ↓lf_X9_isNode, ↓x31_0, ↓x31b0, ↓x1_3, ↓x31_1, ↓x31b1, ↓x0, ↓x48_0, ↓x1_1, ↓lf_X9_within, ↓x32_1, ↓x4_4n, ↓x4_4i, ↓x4_4r, ↓x1_4, ↓x32_3, ↓x2_0, ↓f9_17, ↓x7_4n, ↓x7_4i, ↓x7_4r, ↓x33, ↓f9_18, ↓f9_19, ↓f9_20, ↓f9_21, ↓f9_22, ↓f9_25, ↓f9_26, ↓f9_27, ↓x10, ↓f9_28, ↓f9_12, ↓v9_3, ↓l_249, ↓s_249, ↓l_250, ↓s_250, ↓l_251, ↓s_251, ↓l_252, ↓s_252, ↓l_253, ↓s_253, ↓l_254, ↓s_254, ↓l_255, ↓s_255, ↓l_256, ↓s_256, ↓l_257, ↓s_257, ↓l_258, ↓s_258, ↓l_259, ↓s_259, ↓l_260, ↓s_260, ↓l_261, ↓s_261, ↓l_262, ↓s_262, ↓l_263, ↓s_263, ↓l_264, ↓s_264, ↓l_265, ↓s_265, ↓l_266, ↓s_266, ↓l_267, ↓s_267, ↓l_268, ↓s_268, ↓l_269, ↓s_269, ↓l_270, ↓s_270, ↓l_271, ↓s_271, ↓l_272, ↓s_272, ↓l_273, ↓s_273, ↓l_274, ↓s_274, and_self, and_true, true_and, implies_true, true_implies, Int.reduceEq, Int.reduceLE, Int.reduceLT, not_true_eq_false, not_false_eq_true, false_implies, RTf_eq]
    exact ⟨fun _ => ⟨fun q => absurd (by omega) q, fun _ => hr⟩, fun q => absurd (by omega) q⟩
  | succ n ih =>
    intro k hk' hr
    have h3 := hW.1 k (by omega) (by omega)
    have ef : fi (fun j => decide (M 258 j = 0)) (k : Int) (n + 1) = if decide (M 258 (k : Int) = 0) = true then (k : Int) else fi (fun j => decide (M 258 j = 0)) ((k : Int) + 1) n := rfl
    rw [ef] at hr
    refine q_X9_send_39 400 (lfok E (by omega)) ?_
    by_cases c : M 258 (k : Int) = 0
    · have kne : ¬ (k : Int) = -9 := by omega
      rw [if_pos (decide_eq_true c), if_neg kne, if_neg kne] at hr
      obtain ⟨w, ew⟩ : ∃ w : Int, w = (k : Int) := ⟨_, rfl⟩
      rw [← ew] at hr c ⊢
      have hw : 0 ≤ w ∧ w < 12 := by omega
      have hW2 := MW_se hW hw hk hs ha
      have cG := c_goesOn (E := E) (S := S) (M := seN M w kd st am) (w := w) (i := st) hW2 hw (by omega) (by rw [seN_at.1.2.2.2.2.2.2.1]; exact ⟨by omega, by omega⟩)
      have e12 : up2 (up2 (up2 (up2 (up2 (up2 (up2 (up2 M 259 w kd) 260 w st) 261 w am) 262 w 0) 263 w (-9)) 266 w 0) 267 w 1) 268 (8 * w) st 248 12 = M 248 12 := by
        rw [up2_other (by omega), up2_other (by omega), up2_other (by omega), up2_other (by omega), up2_other (by omega), up2_other (by omega), up2_other (by omega), up2_other (by omega)]
      have eN : up2 (up2 (up2 (up2 (up2 (up2 (up2 (up2 (up2 (up2 M 259 w kd) 260 w st) 261 w am) 262 w 0) 263 w (-9)) 266 w 0) 267 w 1) 268 (8 * w) st) 269 (8 * w) (M 248 12)) 258 w 1 = seN M w kd st am := rfl
      obtain ⟨N, hN⟩ : ∃ N, N = seN M w kd st am := ⟨_, rfl⟩
      rw [← hN] at cG hr eN
      simp +contextual (disch := first | omega | exact Nat.le_of_ble_eq_true rfl | assumption) only [↓r_X9_send_0, ↓r_X9_send_1, ↓r_X9_send_4, ↓r_X9_send_7, ↓r_X9_send_8, ↓r_X9_send_11, ↓r_X9_send_14, ↓r_X9_send_15, ↓r_X9_send_16, ↓r_X9_send_17, ↓r_X9_send_18, ↓r_X9_send_19, ↓r_X9_send_22, ↓r_X9_send_25, ↓r_X9_send_27, ↓r_X9_send_28, ↓r_X9_send_29, ↓r_X9_send_30, ↓r_X9_send_33, ↓r_X9_send_35, ↓r_X9_send_36, ↓r_X9_send_37, ↓r_X9_send_39, ↓r_X9_send_41, ↓r_X9_send_43, ↓r_X9_send_46, ↓r_X9_send_47, ↓r_X9_send_50, ↓r_X9_send_52, ↓r_X9_send_53, ↓r_X9_send_56, ↓r_X9_send_59, ↓r_X9_send_62, ↓r_X9_send_64, ↓r_X9_send_66, ↓r_X9_send_69, ↓r_X9_send_71, ↓r_X9_send_72, ↓r_X9_send_73, ↓r_X9_send_76, ↓r_X9_send_78, ↓r_X9_send_79, ↓r_X9_send_80, ↓r_X9_send_81, ↓r_X9_send_84, ↓r_X9_send_86, ↓r_X9_send_87, ↓r_X9_send_88, ↓r_X9_send_89, ↓r_X9_send_92, ↓r_X9_send_94, ↓r_X9_send_95, ↓r_X9_send_96, ↓r_X9_send_97, ↓r_X9_send_100, ↓r_X9_send_102, ↓r_X9_send_103, ↓r_X9_send_104, ↓r_X9_send_105, ↓r_X9_send_108, ↓r_X9_send_110, ↓r_X9_send_112, ↓r_X9_send_113, ↓r_X9_send_114, ↓r_X9_send_117, ↓r_X9_send_119, ↓r_X9_send_120, ↓r_X9_send_121, ↓r_X9_send_122, ↓r_X9_send_125, ↓r_X9_send_127, ↓r_X9_send_128, ↓r_X9_send_129, ↓r_X9_send_130, ↓r_X9_send_133, ↓r_X9_send_135, ↓r_X9_send_137, ↓r_X9_send_138, ↓r_X9_send_139, ↓r_X9_send_140, ↓r_X9_send_141, ↓r_X9_send_144, ↓r_X9_send_146, ↓r_X9_send_148, ↓r_X9_send_149, ↓r_X9_send_150, ↓r_X9_send_153, ↓r_X9_send_154, ↓r_X9_send_155, ↓r_X9_send_158, ↓r_X9_send_160, ↓r_X9_send_161, ↓r_X9_send_162, ↓r_X9_send_163, ↓r_X9_send_165, ↓r_X9_send_166, ↓r_X9_send_169, ↓r_X9_send_172, ↓r_X9_send_174, ↓r_X9_send_177, ↓r_X9_send_179, ↓x1_2, ↓lf_X9_isNode, ↓x31_0, ↓x31b0, ↓x1_3, ↓x31_1, ↓x31b1, ↓x0, ↓x48_0, ↓x1_1, ↓lf_X9_within, ↓x32_1, ↓x4_4n, ↓x4_4i, ↓x4_4r, ↓x1_4, ↓x32_3, ↓x2_0, ↓f9_17, ↓x7_4n, ↓x7_4i, ↓x7_4r, ↓x33, ↓f9_18, ↓f9_19, ↓f9_20, ↓f9_21, ↓f9_22, ↓f9_25, ↓f9_26, ↓f9_27, ↓x10, ↓f9_28, ↓f9_12, ↓v9_3, ↓l_249, ↓s_249, ↓l_250, ↓s_250, ↓l_251, ↓s_251, ↓l_252, ↓s_252, ↓l_253, ↓s_253, ↓l_254, ↓s_254, ↓l_255, ↓s_255, ↓l_256, ↓s_256, ↓l_257, ↓s_257, ↓l_258, ↓s_258, ↓l_259, ↓s_259, ↓l_260, ↓s_260, ↓l_261, ↓s_261, ↓l_262, ↓s_262, ↓l_263, ↓s_263, ↓l_264, ↓s_264, ↓l_265, ↓s_265, ↓l_266, ↓s_266, ↓l_267, ↓s_267, ↓l_268, ↓s_268, ↓l_269, ↓s_269, ↓l_270, ↓s_270, ↓l_271, ↓s_271, ↓l_272, ↓s_272, ↓l_273, ↓s_273, ↓l_274, ↓s_274, and_self, and_true, true_and, implies_true, true_implies, Int.reduceEq, Int.reduceLE, Int.reduceLT, not_true_eq_false, not_false_eq_true, false_implies, RTf_eq, e12, eN]
      refine ⟨fun q => by omega, fun _ => ⟨fun _ => ⟨fun _ => ?_, fun q => by omega⟩, fun q => absurd c q⟩⟩
      refine ck_r cG (by omega) (by simp) ?_
      by_cases z : kn9 N w st = -9
      · rw [if_pos z] at hr
        have a1 : b2 (¬ kn9 N w st = -9) = 0 := by simp [b2, z]
        simp +contextual (disch := first | omega | exact Nat.le_of_ble_eq_true rfl | assumption) only [↓r_X9_send_0, ↓r_X9_send_1, ↓r_X9_send_4, ↓r_X9_send_7, ↓r_X9_send_8, ↓r_X9_send_11, ↓r_X9_send_14, ↓r_X9_send_15, ↓r_X9_send_16, ↓r_X9_send_17, ↓r_X9_send_18, ↓r_X9_send_19, ↓r_X9_send_22, ↓r_X9_send_25, ↓r_X9_send_27, ↓r_X9_send_28, ↓r_X9_send_29, ↓r_X9_send_30, ↓r_X9_send_33, ↓r_X9_send_35, ↓r_X9_send_36, ↓r_X9_send_37, ↓r_X9_send_39, ↓r_X9_send_41, ↓r_X9_send_43, ↓r_X9_send_46, ↓r_X9_send_47, ↓r_X9_send_50, ↓r_X9_send_52, ↓r_X9_send_53, ↓r_X9_send_56, ↓r_X9_send_59, ↓r_X9_send_62, ↓r_X9_send_64, ↓r_X9_send_66, ↓r_X9_send_69, ↓r_X9_send_71, ↓r_X9_send_72, ↓r_X9_send_73, ↓r_X9_send_76, ↓r_X9_send_78, ↓r_X9_send_79, ↓r_X9_send_80, ↓r_X9_send_81, ↓r_X9_send_84, ↓r_X9_send_86, ↓r_X9_send_87, ↓r_X9_send_88, ↓r_X9_send_89, ↓r_X9_send_92, ↓r_X9_send_94, ↓r_X9_send_95, ↓r_X9_send_96, ↓r_X9_send_97, ↓r_X9_send_100, ↓r_X9_send_102, ↓r_X9_send_103, ↓r_X9_send_104, ↓r_X9_send_105, ↓r_X9_send_108, ↓r_X9_send_110, ↓r_X9_send_112, ↓r_X9_send_113, ↓r_X9_send_114, ↓r_X9_send_117, ↓r_X9_send_119, ↓r_X9_send_120, ↓r_X9_send_121, ↓r_X9_send_122, ↓r_X9_send_125, ↓r_X9_send_127, ↓r_X9_send_128, ↓r_X9_send_129, ↓r_X9_send_130, ↓r_X9_send_133, ↓r_X9_send_135, ↓r_X9_send_137, ↓r_X9_send_138, ↓r_X9_send_139, ↓r_X9_send_140, ↓r_X9_send_141, ↓r_X9_send_144, ↓r_X9_send_146, ↓r_X9_send_148, ↓r_X9_send_149, ↓r_X9_send_150, ↓r_X9_send_153, ↓r_X9_send_154, ↓r_X9_send_155, ↓r_X9_send_158, ↓r_X9_send_160, ↓r_X9_send_161, ↓r_X9_send_162, ↓r_X9_send_163, ↓r_X9_send_165, ↓r_X9_send_166, ↓r_X9_send_169, ↓r_X9_send_172, ↓r_X9_send_174, ↓r_X9_send_177, ↓r_X9_send_179, ↓x1_2, ↓lf_X9_isNode, ↓x31_0, ↓x31b0, ↓x1_3, ↓x31_1, ↓x31b1, ↓x0, ↓x48_0, ↓x1_1, ↓lf_X9_within, ↓x32_1, ↓x4_4n, ↓x4_4i, ↓x4_4r, ↓x1_4, ↓x32_3, ↓x2_0, ↓f9_17, ↓x7_4n, ↓x7_4i, ↓x7_4r, ↓x33, ↓f9_18, ↓f9_19, ↓f9_20, ↓f9_21, ↓f9_22, ↓f9_25, ↓f9_26, ↓f9_27, ↓x10, ↓f9_28, ↓f9_12, ↓v9_3, ↓l_249, ↓s_249, ↓l_250, ↓s_250, ↓l_251, ↓s_251, ↓l_252, ↓s_252, ↓l_253, ↓s_253, ↓l_254, ↓s_254, ↓l_255, ↓s_255, ↓l_256, ↓s_256, ↓l_257, ↓s_257, ↓l_258, ↓s_258, ↓l_259, ↓s_259, ↓l_260, ↓s_260, ↓l_261, ↓s_261, ↓l_262, ↓s_262, ↓l_263, ↓s_263, ↓l_264, ↓s_264, ↓l_265, ↓s_265, ↓l_266, ↓s_266, ↓l_267, ↓s_267, ↓l_268, ↓s_268, ↓l_269, ↓s_269, ↓l_270, ↓s_270, ↓l_271, ↓s_271, ↓l_272, ↓s_272, ↓l_273, ↓s_273, ↓l_274, ↓s_274, and_self, and_true, true_and, implies_true, true_implies, Int.reduceEq, Int.reduceLE, Int.reduceLT, not_true_eq_false, not_false_eq_true, false_implies, RTf_eq, a1]
        exact hr
      · rw [if_neg z] at hr
        have a1 : b2 (¬ kn9 N w st = -9) = 1 := by simp [b2, z]
        simp +contextual (disch := first | omega | exact Nat.le_of_ble_eq_true rfl | assumption) only [↓r_X9_send_0, ↓r_X9_send_1, ↓r_X9_send_4, ↓r_X9_send_7, ↓r_X9_send_8, ↓r_X9_send_11, ↓r_X9_send_14, ↓r_X9_send_15, ↓r_X9_send_16, ↓r_X9_send_17, ↓r_X9_send_18, ↓r_X9_send_19, ↓r_X9_send_22, ↓r_X9_send_25, ↓r_X9_send_27, ↓r_X9_send_28, ↓r_X9_send_29, ↓r_X9_send_30, ↓r_X9_send_33, ↓r_X9_send_35, ↓r_X9_send_36, ↓r_X9_send_37, ↓r_X9_send_39, ↓r_X9_send_41, ↓r_X9_send_43, ↓r_X9_send_46, ↓r_X9_send_47, ↓r_X9_send_50, ↓r_X9_send_52, ↓r_X9_send_53, ↓r_X9_send_56, ↓r_X9_send_59, ↓r_X9_send_62, ↓r_X9_send_64, ↓r_X9_send_66, ↓r_X9_send_69, ↓r_X9_send_71, ↓r_X9_send_72, ↓r_X9_send_73, ↓r_X9_send_76, ↓r_X9_send_78, ↓r_X9_send_79, ↓r_X9_send_80, ↓r_X9_send_81, ↓r_X9_send_84, ↓r_X9_send_86, ↓r_X9_send_87, ↓r_X9_send_88, ↓r_X9_send_89, ↓r_X9_send_92, ↓r_X9_send_94, ↓r_X9_send_95, ↓r_X9_send_96, ↓r_X9_send_97, ↓r_X9_send_100, ↓r_X9_send_102, ↓r_X9_send_103, ↓r_X9_send_104, ↓r_X9_send_105, ↓r_X9_send_108, ↓r_X9_send_110, ↓r_X9_send_112, ↓r_X9_send_113, ↓r_X9_send_114, ↓r_X9_send_117, ↓r_X9_send_119, ↓r_X9_send_120, ↓r_X9_send_121, ↓r_X9_send_122, ↓r_X9_send_125, ↓r_X9_send_127, ↓r_X9_send_128, ↓r_X9_send_129, ↓r_X9_send_130, ↓r_X9_send_133, ↓r_X9_send_135, ↓r_X9_send_137, ↓r_X9_send_138, ↓r_X9_send_139, ↓r_X9_send_140, ↓r_X9_send_141, ↓r_X9_send_144, ↓r_X9_send_146, ↓r_X9_send_148, ↓r_X9_send_149, ↓r_X9_send_150, ↓r_X9_send_153, ↓r_X9_send_154, ↓r_X9_send_155, ↓r_X9_send_158, ↓r_X9_send_160, ↓r_X9_send_161, ↓r_X9_send_162, ↓r_X9_send_163, ↓r_X9_send_165, ↓r_X9_send_166, ↓r_X9_send_169, ↓r_X9_send_172, ↓r_X9_send_174, ↓r_X9_send_177, ↓r_X9_send_179, ↓x1_2, ↓lf_X9_isNode, ↓x31_0, ↓x31b0, ↓x1_3, ↓x31_1, ↓x31b1, ↓x0, ↓x48_0, ↓x1_1, ↓lf_X9_within, ↓x32_1, ↓x4_4n, ↓x4_4i, ↓x4_4r, ↓x1_4, ↓x32_3, ↓x2_0, ↓f9_17, ↓x7_4n, ↓x7_4i, ↓x7_4r, ↓x33, ↓f9_18, ↓f9_19, ↓f9_20, ↓f9_21, ↓f9_22, ↓f9_25, ↓f9_26, ↓f9_27, ↓x10, ↓f9_28, ↓f9_12, ↓v9_3, ↓l_249, ↓s_249, ↓l_250, ↓s_250, ↓l_251, ↓s_251, ↓l_252, ↓s_252, ↓l_253, ↓s_253, ↓l_254, ↓s_254, ↓l_255, ↓s_255, ↓l_256, ↓s_256, ↓l_257, ↓s_257, ↓l_258, ↓s_258, ↓l_259, ↓s_259, ↓l_260, ↓s_260, ↓l_261, ↓s_261, ↓l_262, ↓s_262, ↓l_263, ↓s_263, ↓l_264, ↓s_264, ↓l_265, ↓s_265, ↓l_266, ↓s_266, ↓l_267, ↓s_267, ↓l_268, ↓s_268, ↓l_269, ↓s_269, ↓l_270, ↓s_270, ↓l_271, ↓s_271, ↓l_272, ↓s_272, ↓l_273, ↓s_273, ↓l_274, ↓s_274, and_self, and_true, true_and, implies_true, true_implies, Int.reduceEq, Int.reduceLE, Int.reduceLT, not_true_eq_false, not_false_eq_true, false_implies, RTf_eq, a1]
        exact hr
    · have cne : ¬ decide (M 258 (k : Int) = 0) = true := by simp [c]
      rw [if_neg cne] at hr
      have i1 := ih (k + 1) (by omega)
      rw [show (((k + 1 : Nat)) : Int) = (k : Int) + 1 by omega] at i1
      simp +contextual (disch := first | omega | exact Nat.le_of_ble_eq_true rfl | assumption) only [↓r_X9_send_0, ↓r_X9_send_1, ↓r_X9_send_4, ↓r_X9_send_7, ↓r_X9_send_8, ↓r_X9_send_11, ↓r_X9_send_14, ↓r_X9_send_15, ↓r_X9_send_16, ↓r_X9_send_17, ↓r_X9_send_18, ↓r_X9_send_19, ↓r_X9_send_22, ↓r_X9_send_25, ↓r_X9_send_27, ↓r_X9_send_28, ↓r_X9_send_29, ↓r_X9_send_30, ↓r_X9_send_33, ↓r_X9_send_35, ↓r_X9_send_36, ↓r_X9_send_37, ↓r_X9_send_39, ↓r_X9_send_41, ↓r_X9_send_43, ↓r_X9_send_46, ↓r_X9_send_47, ↓r_X9_send_50, ↓r_X9_send_52, ↓r_X9_send_53, ↓r_X9_send_56, ↓r_X9_send_59, ↓r_X9_send_62, ↓r_X9_send_64, ↓r_X9_send_66, ↓r_X9_send_69, ↓r_X9_send_71, ↓r_X9_send_72, ↓r_X9_send_73, ↓r_X9_send_76, ↓r_X9_send_78, ↓r_X9_send_79, ↓r_X9_send_80, ↓r_X9_send_81, ↓r_X9_send_84, ↓r_X9_send_86, ↓r_X9_send_87, ↓r_X9_send_88, ↓r_X9_send_89, ↓r_X9_send_92, ↓r_X9_send_94, ↓r_X9_send_95, ↓r_X9_send_96, ↓r_X9_send_97, ↓r_X9_send_100, ↓r_X9_send_102, ↓r_X9_send_103, ↓r_X9_send_104, ↓r_X9_send_105, ↓r_X9_send_108, ↓r_X9_send_110, ↓r_X9_send_112, ↓r_X9_send_113, ↓r_X9_send_114, ↓r_X9_send_117, ↓r_X9_send_119, ↓r_X9_send_120, ↓r_X9_send_121, ↓r_X9_send_122, ↓r_X9_send_125, ↓r_X9_send_127, ↓r_X9_send_128, ↓r_X9_send_129, ↓r_X9_send_130, ↓r_X9_send_133, ↓r_X9_send_135, ↓r_X9_send_137, ↓r_X9_send_138, ↓r_X9_send_139, ↓r_X9_send_140, ↓r_X9_send_141, ↓r_X9_send_144, ↓r_X9_send_146, ↓r_X9_send_148, ↓r_X9_send_149, ↓r_X9_send_150, ↓r_X9_send_153, ↓r_X9_send_154, ↓r_X9_send_155, ↓r_X9_send_158, ↓r_X9_send_160, ↓r_X9_send_161, ↓r_X9_send_162, ↓r_X9_send_163, ↓r_X9_send_165, ↓r_X9_send_166, ↓r_X9_send_169, ↓r_X9_send_172, ↓r_X9_send_174, ↓r_X9_send_177, ↓r_X9_send_179, ↓x1_2, ↓lf_X9_isNode, ↓x31_0, ↓x31b0, ↓x1_3, ↓x31_1, ↓x31b1, ↓x0, ↓x48_0, ↓x1_1, ↓lf_X9_within, ↓x32_1, ↓x4_4n, ↓x4_4i, ↓x4_4r, ↓x1_4, ↓x32_3, ↓x2_0, ↓f9_17, ↓x7_4n, ↓x7_4i, ↓x7_4r, ↓x33, ↓f9_18, ↓f9_19, ↓f9_20, ↓f9_21, ↓f9_22, ↓f9_25, ↓f9_26, ↓f9_27, ↓x10, ↓f9_28, ↓f9_12, ↓v9_3, ↓l_249, ↓s_249, ↓l_250, ↓s_250, ↓l_251, ↓s_251, ↓l_252, ↓s_252, ↓l_253, ↓s_253, ↓l_254, ↓s_254, ↓l_255, ↓s_255, ↓l_256, ↓s_256, ↓l_257, ↓s_257, ↓l_258, ↓s_258, ↓l_259, ↓s_259, ↓l_260, ↓s_260, ↓l_261, ↓s_261, ↓l_262, ↓s_262, ↓l_263, ↓s_263, ↓l_264, ↓s_264, ↓l_265, ↓s_265, ↓l_266, ↓s_266, ↓l_267, ↓s_267, ↓l_268, ↓s_268, ↓l_269, ↓s_269, ↓l_270, ↓s_270, ↓l_271, ↓s_271, ↓l_272, ↓s_272, ↓l_273, ↓s_273, ↓l_274, ↓s_274, and_self, and_true, true_and, implies_true, true_implies, Int.reduceEq, Int.reduceLE, Int.reduceLT, not_true_eq_false, not_false_eq_true, false_implies, RTf_eq]
      exact ⟨fun q => by omega, fun _ => ⟨fun q => absurd q c, fun _ => i1 hr⟩⟩
theorem c_send9y {kd st am : Int} (hy : seR kd st am = 0) (hW : MW M) : Ctr E 6 126 [vr 248, vi kd, vi st, vi am] (toAH S M) (some (vi (if fw9 M = -9 then -4 else if kn9 (seN M (fw9 M) kd st am) (fw9 M) st = -9 then -9 else fw9 M))) (toAH S (if fw9 M = -9 then M else goN (seN M (fw9 M) kd st am) (fw9 M) st)) := by
  obtain ⟨c1, c2, c3⟩ := seR_0 hy
  have a1 : b2 (0 ≤ st ∧ st ≤ 7) = 1 := by simp [b2, c1.1]
  have a2 : b2 (0 ≤ am ∧ am ≤ 7) = 1 := by simp [b2, c1.2]
  have a3 : b2 (0 ≤ kd ∧ kd ≤ 2) = 1 := by simp [b2, c2]
  refine Ctr_f mi_X9_send mo_X9_send (Nat.le_of_ble_eq_true rfl) ⟨Nat.le_refl _, Nat.le_refl _⟩ (fun g lm => ?_)
  rw [show entL mi_X9_send.2.2.1 [vr 248, vi kd, vi st, vi am] = [some (vr 248), some (vi kd), some (vi st), some (vi am), none] from rfl]
  refine e_X9_send 400 (lfok E (by omega)) ?_
  have hl := l_send9 (E := E) (S := S) (M := M) (g := g) (lm := lm) (RT := RTf (some (vi (if fw9 M = -9 then -4 else if kn9 (seN M (fw9 M) kd st am) (fw9 M) st = -9 then -9 else fw9 M))) (toAH S (if fw9 M = -9 then M else goN (seN M (fw9 M) kd st am) (fw9 M) st))) c1.1 c2 c1.2 hW 12 0 (by omega) ⟨rfl, rfl⟩
  obtain ⟨R, hR⟩ : ∃ R, R = (if fw9 M = -9 then -4 else if kn9 (seN M (fw9 M) kd st am) (fw9 M) st = -9 then -9 else fw9 M) := ⟨_, rfl⟩
  obtain ⟨Z, hZ⟩ : ∃ Z, Z = (if fw9 M = -9 then M else goN (seN M (fw9 M) kd st am) (fw9 M) st) := ⟨_, rfl⟩
  rw [← hR, ← hZ] at hl ⊢
  simp +contextual (disch := first | omega | exact Nat.le_of_ble_eq_true rfl | assumption) only [↓r_X9_send_0, ↓r_X9_send_1, ↓r_X9_send_4, ↓r_X9_send_7, ↓r_X9_send_8, ↓r_X9_send_11, ↓r_X9_send_14, ↓r_X9_send_15, ↓r_X9_send_16, ↓r_X9_send_17, ↓r_X9_send_18, ↓r_X9_send_19, ↓r_X9_send_22, ↓r_X9_send_25, ↓r_X9_send_27, ↓r_X9_send_28, ↓r_X9_send_29, ↓r_X9_send_30, ↓r_X9_send_33, ↓r_X9_send_35, ↓r_X9_send_36, ↓r_X9_send_37, ↓r_X9_send_39, ↓r_X9_send_41, ↓r_X9_send_43, ↓r_X9_send_46, ↓r_X9_send_47, ↓r_X9_send_50, ↓r_X9_send_52, ↓r_X9_send_53, ↓r_X9_send_56, ↓r_X9_send_59, ↓r_X9_send_62, ↓r_X9_send_64, ↓r_X9_send_66, ↓r_X9_send_69, ↓r_X9_send_71, ↓r_X9_send_72, ↓r_X9_send_73, ↓r_X9_send_76, ↓r_X9_send_78, ↓r_X9_send_79, ↓r_X9_send_80, ↓r_X9_send_81, ↓r_X9_send_84, ↓r_X9_send_86, ↓r_X9_send_87, ↓r_X9_send_88, ↓r_X9_send_89, ↓r_X9_send_92, ↓r_X9_send_94, ↓r_X9_send_95, ↓r_X9_send_96, ↓r_X9_send_97, ↓r_X9_send_100, ↓r_X9_send_102, ↓r_X9_send_103, ↓r_X9_send_104, ↓r_X9_send_105, ↓r_X9_send_108, ↓r_X9_send_110, ↓r_X9_send_112, ↓r_X9_send_113, ↓r_X9_send_114, ↓r_X9_send_117, ↓r_X9_send_119, ↓r_X9_send_120, ↓r_X9_send_121, ↓r_X9_send_122, ↓r_X9_send_125, ↓r_X9_send_127, ↓r_X9_send_128, ↓r_X9_send_129, ↓r_X9_send_130, ↓r_X9_send_133, ↓r_X9_send_135, ↓r_X9_send_137, ↓r_X9_send_138, ↓r_X9_send_139, ↓r_X9_send_140, ↓r_X9_send_141, ↓r_X9_send_144, ↓r_X9_send_146, ↓r_X9_send_148, ↓r_X9_send_149, ↓r_X9_send_150, ↓r_X9_send_153, ↓r_X9_send_154, ↓r_X9_send_155, ↓r_X9_send_158, ↓r_X9_send_160, ↓r_X9_send_161, ↓r_X9_send_162, ↓r_X9_send_163, ↓r_X9_send_165, ↓r_X9_send_166, ↓r_X9_send_169, ↓r_X9_send_172, ↓r_X9_send_174, ↓r_X9_send_177, ↓r_X9_send_179, ↓x1_2, ↓lf_X9_isNode, ↓x31_0, ↓x31b0, ↓x1_3, ↓x31_1, ↓x31b1, ↓x0, ↓x48_0, ↓x1_1, ↓lf_X9_within, ↓x32_1, ↓x4_4n, ↓x4_4i, ↓x4_4r, ↓x1_4, ↓x32_3, ↓x2_0, ↓f9_17, ↓x7_4n, ↓x7_4i, ↓x7_4r, ↓x33, ↓f9_18, ↓f9_19, ↓f9_20, ↓f9_21, ↓f9_22, ↓f9_25, ↓f9_26, ↓f9_27, ↓x10, ↓f9_28, ↓f9_12, ↓v9_3, ↓l_249, ↓s_249, ↓l_250, ↓s_250, ↓l_251, ↓s_251, ↓l_252, ↓s_252, ↓l_253, ↓s_253, ↓l_254, ↓s_254, ↓l_255, ↓s_255, ↓l_256, ↓s_256, ↓l_257, ↓s_257, ↓l_258, ↓s_258, ↓l_259, ↓s_259, ↓l_260, ↓s_260, ↓l_261, ↓s_261, ↓l_262, ↓s_262, ↓l_263, ↓s_263, ↓l_264, ↓s_264, ↓l_265, ↓s_265, ↓l_266, ↓s_266, ↓l_267, ↓s_267, ↓l_268, ↓s_268, ↓l_269, ↓s_269, ↓l_270, ↓s_270, ↓l_271, ↓s_271, ↓l_272, ↓s_272, ↓l_273, ↓s_273, ↓l_274, ↓s_274, and_self, and_true, true_and, implies_true, true_implies, Int.reduceEq, Int.reduceLE, Int.reduceLT, not_true_eq_false, not_false_eq_true, false_implies, RTf_eq, a1, a2, a3]
  exact ⟨fun _ => hl, fun f => absurd c3 f⟩
theorem fw_eq (h : Rel T A B) : fw8 A = fw9 B := fi_congr 12 0 (fun u u1 u2 => by rw [(h.2.2.2.2 u u1 (by omega)).2.2.1])
theorem sim_send {kd st am : Int} (hk : rg kd) (hs : rg st) (ha : rg am) : SIM E S 56 126 [vi kd, vi st, vi am] T T := by
  intro A B0 h0
  by_cases c : seR kd st am = 0
  · obtain ⟨c1, c2, c3⟩ := seR_0 c
    by_cases cf : fw8 A = -9
    · refine ⟨_, A, 6, by omega, c_send8f c (Rel_CW h0) cf, fun _ _ _ => rfl, fun B h => ⟨B, 6, by omega, ?_, fun _ _ _ => rfl, h⟩⟩
      have := c_send9y (E := E) (S := S) (M := B) c (Rel_MW h)
      rw [← fw_eq h, if_pos cf, if_pos cf] at this
      exact this
    · have fr := fi_rng (p := fun j => decide (A (209 + 3 * j) 3 = 0)) 12 0 (by omega)
      have hw : 0 ≤ fw8 A ∧ fw8 A < 12 := by
        rcases fr with q | q
        · exact absurd q cf
        · exact ⟨q.1, by have := q.2.1; unfold fw8; omega⟩
      have cC := c_send8y (E := E) (S := S) (M := A) c (Rel_CW h0) cf
      obtain ⟨w, ew⟩ : ∃ w, w = fw8 A := ⟨_, rfl⟩
      rw [← ew] at cC hw cf
      refine ⟨_, _, 6, by omega, cC, fun c z q => ?_, fun B h => ?_⟩
      · have lo : ∀ N : Mem, loM N w c z = N c z := fun N => by unfold loM; rw [up2_other (by omega), up2_other (by omega), up2_other (by omega)]
        have se : seM A w kd st am c z = A c z := seM_ot (by omega)
        unfold goM
        split
        · rw [lo, se]
        · split
          · rw [lo, pk8M_ot (by omega) (by omega), se]
          · unfold trM
            rw [up2_other (by omega), up2_other (by omega), up2_other (by omega), up2_other (by omega), pk8M_ot (by omega) (by omega), se]
      · have cM := c_send9y (E := E) (S := S) (M := B) c (Rel_MW h)
        rw [← fw_eq h, ← ew, if_neg cf, if_neg cf] at cM
        obtain ⟨⟨s3, s4, s5, s6, s7, s8, s11, s2⟩, n0, t0⟩ := seM_at (M := A) (w := w) (kd := kd) (st := st) (am := am)
        obtain ⟨⟨u3, u4, u5, u6, u7, u8, u11, u2⟩, m0, v0⟩ := seN_at (M := B) (w := w) (kd := kd) (st := st) (am := am)
        have hx : RX T (seM A w kd st am) (seN B w kd st am) w := by
          refine RX_step (Rel_w (w := w) h) (by omega) (fun c z _ _ _ _ _ _ _ _ _ q => seM_ot (by omega)) (seM_ot (by omega)) (fun c z _ q1 q2 _ _ _ _ _ _ => seN_ot (by omega)) ?_
          unfold RS
          rw [show seM A w kd st am 0 = A 0 from funext fun z => seM_ot (by omega), show seM A w kd st am 14 = A 14 from funext fun z => seM_ot (by omega), show seN B w kd st am 248 = B 248 from funext fun z => seN_ot (by omega)]
          exact h.2.2.2.1
        have hv := (h.2.2.2.2 w hw.1 hw.2).1.2.2.2.2.1
        have hv2 := (h.2.2.2.2 w hw.1 hw.2).2.1.2.2.2.2.1
        have tm := h.2.2.2.1.2.2.1
        have key := go_rel hx hw (CW_se (Rel_CW h) hw c2 c1.1 c1.2) (MW_se (Rel_MW h) hw c2 c1.1 c1.2) ⟨Or.inr s3, Or.inl s4, by rw [s8]; exact ⟨by omega, by omega⟩, by rw [s2]; omega, fun j a b => by
            by_cases q : j = 0
            · rw [q, n0]; exact c1.1
            · rw [seM_ot (by omega)]; exact hv j a b, by rw [s5]; exact c2, by rw [s7]; exact c1.2⟩ ⟨Or.inr u3, Or.inl u4, by rw [u8]; exact ⟨by omega, by omega⟩, by rw [u2]; omega, fun j a b => by
            by_cases q : j = 0
            · rw [q, Int.add_zero, m0]; exact c1.1
            · rw [seN_ot (by omega)]; exact hv2 j a b, by rw [u5]; exact c2, by rw [u7]; exact c1.2⟩ s3 u3 ⟨⟨by rw [s5, u5], by rw [s6, u6], by rw [s7, u7], by rw [s4, u4], by rw [s8, u8], by rw [s11, u11], by rw [s2, u2]⟩, by rw [s11]; omega, by rw [s2]; omega, fun j a b => by
            rw [s2] at b
            rw [show j = 0 by omega, Int.add_zero, n0, m0, t0, v0, show seM A w kd st am 0 10 = A 0 10 from seM_ot (by omega), tm.1]
            omega, fun j j' a b d => by rw [s2] at d; omega⟩ s4 s8 (fun j a b => by
            rw [s2] at b
            rw [show j = 0 by omega, n0, s7]; exact c3) (i := st) (by omega)
        refine ⟨_, 6, by omega, ?_, fun c z q => ?_, key.1⟩
        · rw [key.2]
          by_cases y : kn9 (seN B w kd st am) w st = -9
          · rw [if_pos y] at cM
            rw [if_pos (by simp [b2, y])]
            exact cM
          · rw [if_neg y] at cM
            rw [if_neg (by simp [b2, y])]
            exact cM
        · have lo : ∀ N : Mem, loN N w c z = N c z := fun N => by unfold loN; rw [up2_other (by omega), up2_other (by omega)]
          have se : seN B w kd st am c z = B c z := seN_ot (by omega)
          unfold goN
          split
          · rw [lo, kp9_ot (by omega), se]
          · rw [up2_other (by omega), up2_other (by omega), up2_other (by omega), up2_other (by omega), kp9_ot (by omega), se]
  · exact ⟨_, A, 6, by omega, c_send8n hk hs ha c, fun _ _ _ => rfl, fun B h => ⟨B, 6, by omega, c_send9n hk hs ha c, fun _ _ _ => rfl, h⟩⟩
end
