/-! ===== the kinds of walkers ===== -/
section
variable {E : ET} {S : SCR} {M : Mem} {d nx : Nat} {lm : Nat × Nat} {RT : RTy} {F : FT} {K : KT} {L : LV} {st : List AV} {tb : List Nat}
theorem shp_kind {kd : Int} (h : 0 ≤ kd ∧ kd ≤ 2) : shp (245 + kd) = some (if kd = 0 then 14 else if kd = 1 then 12 else 11, 0) := by
  have : kd = 0 ∨ kd = 1 ∨ kd = 2 := by omega
  rcases this with rfl | rfl | rfl <;> rfl
theorem y46w {kd a b : Int} (h : 0 ≤ kd ∧ kd ≤ 2) : exI E d lm RT F K (46, ((0 : Nat) : Int), ((3 : Nat) : Int), nx, tb) L (vi a :: vi b :: vr (245 + kd) :: st) (toAH S M) = callK E d lm K nx (if kd = 0 then 17 else 5) [vr (245 + kd), vi b, vi a] L st (toAH S M) := by
  have : kd = 0 ∨ kd = 1 ∨ kd = 2 := by omega
  rcases this with rfl | rfl | rfl <;> exact propext Iff.rfl
theorem y46r {kd a b c : Int} (h : 0 ≤ kd ∧ kd ≤ 2) : exI E d lm RT F K (46, ((1 : Nat) : Int), ((4 : Nat) : Int), nx, tb) L (vi a :: vi b :: vi c :: vr (245 + kd) :: st) (toAH S M) = callK E d lm K nx (if kd = 2 then 3 else 18) [vr (245 + kd), vi c, vi b, vi a] L st (toAH S M) := by
  have : kd = 0 ∨ kd = 1 ∨ kd = 2 := by omega
  rcases this with rfl | rfl | rfl <;> exact propext Iff.rfl
theorem v1_4 {a1 a2 a3 : AV} {j : Nat} : exI E d lm RT F K (51, ((j : Nat) : Int), ((4 : Nat) : Int), nx, [1]) L (a3 :: a2 :: a1 :: vr 247 :: st) (toAH S M) = callK E d lm K nx j [vr 247, a1, a2, a3] L st (toAH S M) := y51 (as := [a3, a2, a1]) (by omega) rfl rfl
end
section
variable {E : ET} {S : SCR} {M : Mem}
theorem c_weightP {c a b : Int} : Ctr E 2 17 [vr c, vi a, vi b] (toAH S M) (some (vi a)) (toAH S M) := by
  refine Ctr_f mi_X4_weight mo_X4_weight (Nat.le_of_ble_eq_true rfl) ⟨Nat.le_refl _, Nat.le_refl _⟩ (fun g lm => ?_)
  rw [show entL mi_X4_weight.2.2.1 [vr c, vi a, vi b] = [some (vr c), some (vi a), some (vi b)] from rfl]
  refine e_X4_weight 400 (lfok E (by omega)) ?_
  simp +contextual (disch := first | omega | exact Nat.le_of_ble_eq_true rfl | assumption) only [↓r_X4_weight_0, ↓r_X4_weight_1, ↓x1_1, ↓x48_0, and_self, and_true, true_and, implies_true, true_implies, Int.reduceEq, Int.reduceLE, Int.reduceLT, not_true_eq_false, not_false_eq_true, false_implies, RTf_eq]
theorem c_weightH {c a b : Int} (ha : 0 ≤ a ∧ a ≤ 1000) (hb : 0 ≤ b ∧ b ≤ 1000) : Ctr E 2 5 [vr c, vi a, vi b] (toAH S M) (some (vi (a / (1 + b)))) (toAH S M) := by
  refine Ctr_f mi_X2_weight mo_X2_weight (Nat.le_of_ble_eq_true rfl) ⟨Nat.le_refl _, Nat.le_refl _⟩ (fun g lm => ?_)
  rw [show entL mi_X2_weight.2.2.1 [vr c, vi a, vi b] = [some (vr c), some (vi a), some (vi b)] from rfl]
  refine e_X2_weight 400 (lfok E (by omega)) ?_
  simp +contextual (disch := first | omega | exact Nat.le_of_ble_eq_true rfl | assumption) only [↓r_X2_weight_0, ↓r_X2_weight_1, ↓r_X2_weight_4, ↓r_X2_weight_5, ↓r_X2_weight_8, ↓r_X2_weight_9, ↓r_X2_weight_10, ↓r_X2_weight_11, ↓r_X2_weight_12, ↓r_X2_weight_13, ↓x1_2, ↓x31_3, ↓x1_1, ↓x33, ↓x0, ↓x8, ↓x11, ↓x48_0, and_self, and_true, true_and, implies_true, true_implies, Int.reduceEq, Int.reduceLE, Int.reduceLT, not_true_eq_false, not_false_eq_true, false_implies, RTf_eq]
  exact ⟨fun _ => by rw [Int.add_comm b 1], fun q => by omega⟩
theorem rw_rng {gn b t : Int} (hg : 0 ≤ gn ∧ gn ≤ 1000) (hb : 0 ≤ b ∧ b ≤ t) (ht : 0 < t ∧ t ≤ 2000000) : (0 ≤ gn * b ∧ gn * b ≤ 2000000000) ∧ 0 ≤ gn * b / t ∧ gn * b / t ≤ 1000 := by
  have h1 : 0 ≤ gn * b := Int.mul_nonneg hg.1 hb.1
  have h2 : gn * b ≤ 1000 * b := Int.mul_le_mul_of_nonneg_right hg.2 hb.1
  have h3 : gn * b / t ≤ 1000 * t / t := Int.ediv_le_ediv ht.1 (by omega)
  rw [Int.mul_ediv_cancel 1000 (by omega : t ≠ 0)] at h3
  exact ⟨⟨h1, by omega⟩, Int.ediv_nonneg h1 (by omega), h3⟩
theorem c_rewardP {d0 : Nat} {c gn b t : Int} (hd0 : 2 ≤ d0) (hg : 0 ≤ gn ∧ gn ≤ 1000) (hb : 0 ≤ b ∧ b ≤ t) (ht : 0 < t ∧ t ≤ 2000000) : Ctr E d0 18 [vr c, vi gn, vi b, vi t] (toAH S M) (some (vi (gn * b / t))) (toAH S M) := by
  have h := rw_rng hg hb ht
  refine Ctr_f mi_X4_reward mo_X4_reward (Nat.le_of_ble_eq_true rfl) ⟨Nat.le_refl _, Nat.le_refl _⟩ (fun g lm => ?_)
  rw [show entL mi_X4_reward.2.2.1 [vr c, vi gn, vi b, vi t] = [some (vr c), some (vi gn), some (vi b), some (vi t)] from rfl]
  refine e_X4_reward 400 (lfok E (by omega)) ?_
  simp +contextual (disch := first | omega | exact Nat.le_of_ble_eq_true rfl | assumption) only [↓r_X4_reward_0, ↓r_X4_reward_1, ↓r_X4_reward_4, ↓r_X4_reward_5, ↓r_X4_reward_8, ↓r_X4_reward_9, ↓r_X4_reward_10, ↓r_X4_reward_11, ↓r_X4_reward_12, ↓r_X4_reward_13, ↓x1_3, ↓x31_4, ↓x0, ↓x33, ↓x1_1, ↓x1_2, ↓x10, ↓x11, ↓x48_0, and_self, and_true, true_and, implies_true, true_implies, Int.reduceEq, Int.reduceLE, Int.reduceLT, not_true_eq_false, not_false_eq_true, false_implies, RTf_eq]
  exact fun q => by omega
theorem c_rewardE {gn b t : Int} (hg : 0 ≤ gn ∧ gn ≤ 1000) (hb : 0 ≤ b ∧ b ≤ t) (ht : 0 < t ∧ t ≤ 2000000) : Ctr E 3 3 [vr 247, vi gn, vi b, vi t] (toAH S M) (some (vi (gn * b / t + (1000 - gn * b / t) / 4))) (toAH S M) := by
  have h := rw_rng hg hb ht
  refine Ctr_f mi_X1_reward mo_X1_reward (Nat.le_of_ble_eq_true rfl) ⟨Nat.le_refl _, Nat.le_refl _⟩ (fun g lm => ?_)
  rw [show entL mi_X1_reward.2.2.1 [vr 247, vi gn, vi b, vi t] = [some (vr 247), some (vi gn), some (vi b), some (vi t), none] from rfl]
  refine e_X1_reward 400 (lfok E (by omega)) ?_
  simp +contextual (disch := first | omega | exact Nat.le_of_ble_eq_true rfl | assumption) only [↓r_X1_reward_0, ↓r_X1_reward_1, ↓r_X1_reward_2, ↓r_X1_reward_3, ↓r_X1_reward_4, ↓r_X1_reward_7, ↓r_X1_reward_9, ↓r_X1_reward_11, ↓r_X1_reward_14, ↓r_X1_reward_16, ↓r_X1_reward_17, ↓r_X1_reward_18, ↓r_X1_reward_19, ↓r_X1_reward_20, ↓x2_0, ↓x1_1, ↓x1_2, ↓x1_3, ↓x4_4n, ↓x4_4i, ↓x4_4r, ↓x1_4, ↓x0, ↓x9, ↓x11, ↓x8, ↓x48_0, and_self, and_true, true_and, implies_true, true_implies, Int.reduceEq, Int.reduceLE, Int.reduceLT, not_true_eq_false, not_false_eq_true, false_implies, RTf_eq, ↓v1_4]
  refine ck_r (c_rewardP (Nat.le_refl 2) hg hb ht) (by omega) (by simp) ?_
  simp +contextual (disch := first | omega | exact Nat.le_of_ble_eq_true rfl | assumption) only [↓r_X1_reward_0, ↓r_X1_reward_1, ↓r_X1_reward_2, ↓r_X1_reward_3, ↓r_X1_reward_4, ↓r_X1_reward_7, ↓r_X1_reward_9, ↓r_X1_reward_11, ↓r_X1_reward_14, ↓r_X1_reward_16, ↓r_X1_reward_17, ↓r_X1_reward_18, ↓r_X1_reward_19, ↓r_X1_reward_20, ↓x2_0, ↓x1_1, ↓x1_2, ↓x1_3, ↓x4_4n, ↓x4_4i, ↓x4_4r, ↓x1_4, ↓x0, ↓x9, ↓x11, ↓x8, ↓x48_0, and_self, and_true, true_and, implies_true, true_implies, Int.reduceEq, Int.reduceLE, Int.reduceLT, not_true_eq_false, not_false_eq_true, false_implies, RTf_eq]
end
