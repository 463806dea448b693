/-! ===== raising a neighbour, in the class ===== -/
theorem wo_all : ∀ s, s < 256 → ∀ k, k < 8 → (0 ≤ ian ((s : Nat) : Int) (ixo (isl 1 ((k : Nat) : Int)) (-1)) ∧ ian ((s : Nat) : Int) (ixo (isl 1 ((k : Nat) : Int)) (-1)) < 256) ∧ ∀ j, j < 8 → bzd (ian ((s : Nat) : Int) (ixo (isl 1 ((k : Nat) : Int)) (-1))) ((j : Nat) : Int) = (bzd ((s : Nat) : Int) ((j : Nat) : Int) && decide (¬ ((j : Nat) : Int) = ((k : Nat) : Int))) := by decide +kernel
theorem wo_at {s k : Int} (h1 : 0 ≤ s) (h2 : s < 256) (h3 : 0 ≤ k) (h4 : k < 8) : (0 ≤ ian s (ixo (isl 1 k) (-1)) ∧ ian s (ixo (isl 1 k) (-1)) < 256) ∧ ∀ j, 0 ≤ j → j < 8 → bs (ian s (ixo (isl 1 k) (-1))) j = wob (bs s) k j := by
  have h := wo_all s.toNat (by omega) k.toNat (by omega)
  rw [Int.toNat_of_nonneg h1, Int.toNat_of_nonneg h3] at h
  refine ⟨h.1, fun j a b => ?_⟩
  have h5 := h.2 j.toNat (by omega)
  rw [Int.toNat_of_nonneg a] at h5
  exact h5
theorem bs_zero {s : Int} (h1 : 0 ≤ s) (h2 : s < 256) : s = 0 ↔ cntb (bs s) 8 = 0 := by
  have key : ∀ s, s < 256 → (((s : Nat) : Int) = 0 ↔ cntb (bs ((s : Nat) : Int)) 8 = 0) := by decide +kernel
  have := key s.toNat (by omega)
  rw [Int.toNat_of_nonneg h1] at this
  exact this
theorem liF_congr8 {m : Set8} {fl : Int} {a b : Vec} (hf : 0 ≤ fl ∧ fl ≤ 100) (ha : RV m a) (h : ∀ j, 0 ≤ j → j < 8 → a j = b j) : ∀ j, 0 ≤ j → j < 8 → liF m fl a j = liF m fl b j := by
  intro j h1 h2
  have he : eqv m a b := fun k x y _ => h k x y
  have hb : RV m b := RV_congr (fun _ _ _ => rfl) he ha
  by_cases hm : m j = true
  · exact liN_congr (fun _ _ _ => rfl) 1000 a b he j h1 h2 hm
  · have hm' : m j = false := by simpa using hm
    have d1 := dfv_le hf ha
    have d2 := dfv_le hf hb
    rw [(liF_ok hf 1000 a ha (by omega)).2 j h1 h2 hm', (liF_ok hf 1000 b hb (by omega)).2 j h1 h2 hm', h j h1 h2]
section
variable {E : ET} {S : SCR} {M : Mem}
theorem l_raiseC {g : GT} {lm : Nat × Nat} {RT : RTy} {r k0 rr fl o : Int} (hr0 : 0 ≤ r ∧ r < 64) (hsh : ∀ j, 0 ≤ j → j < 8 → 0 ≤ M (18 + 3 * r) j ∧ M (18 + 3 * r) j ≤ 1000) (hk : ∀ n : Nat, run E g mi_X5_raiseBy 4 lm RT lfF pm_X5_raiseBy (n + 100) 50 [some (vr (17 + 3 * r)), some (vi k0), some (vi rr), some (vi fl), some (vr 8), some (vi o), some (vi 8)] [] (toAH S (putv M 9 0 (M (18 + 3 * r))))) :
    ∀ j : Nat, j ≤ 8 → G E g mi_X5_raiseBy 4 lm RT 21 [some (vr (17 + 3 * r)), some (vi k0), some (vi rr), some (vi fl), some (vr 8), some (vi o), some (vi (j : Int))] [] (toAH S (putv M 9 0 (bl j (M (18 + 3 * r)) (M 9)))) := by
  refine down ?_ ?_
  · rw [putv_congr (g := M (18 + 3 * r)) (fun k h1 h2 => bl_8 h2)]
    refine q_X5_raiseBy_21 303 (lfok E (by omega)) ?_
    simp +contextual (disch := first | omega | exact Nat.le_of_ble_eq_true rfl | assumption) only [↓r_X5_raiseBy_21, ↓r_X5_raiseBy_23, ↓r_X5_raiseBy_25, ↓x1_6, ↓x0, ↓x32_3]
    exact ⟨fun _ => hk 201, fun q => absurd (by omega) q⟩
  · intro j hj ih
    rw [← bl_s, ← up2_putv0 (by omega) (by omega)] at ih
    have e : ∀ z, putv M 9 0 (bl j (M (18 + 3 * r)) (M 9)) (18 + 3 * r) z = M (18 + 3 * r) z := fun z => putv_ne (by omega)
    have h1 := hsh j (by omega) (by omega)
    refine q_X5_raiseBy_21 400 (lfok E (by omega)) ?_
    simp +contextual (disch := first | omega | exact Nat.le_of_ble_eq_true rfl | assumption) only [↓r_X5_raiseBy_0, ↓r_X5_raiseBy_1, ↓r_X5_raiseBy_4, ↓r_X5_raiseBy_5, ↓r_X5_raiseBy_6, ↓r_X5_raiseBy_7, ↓r_X5_raiseBy_8, ↓r_X5_raiseBy_9, ↓r_X5_raiseBy_10, ↓r_X5_raiseBy_12, ↓r_X5_raiseBy_14, ↓r_X5_raiseBy_17, ↓r_X5_raiseBy_18, ↓r_X5_raiseBy_19, ↓r_X5_raiseBy_21, ↓r_X5_raiseBy_23, ↓r_X5_raiseBy_25, ↓r_X5_raiseBy_28, ↓r_X5_raiseBy_30, ↓r_X5_raiseBy_33, ↓r_X5_raiseBy_35, ↓r_X5_raiseBy_36, ↓r_X5_raiseBy_39, ↓r_X5_raiseBy_41, ↓r_X5_raiseBy_42, ↓r_X5_raiseBy_43, ↓r_X5_raiseBy_44, ↓r_X5_raiseBy_47, ↓r_X5_raiseBy_50, ↓r_X5_raiseBy_51, ↓r_X5_raiseBy_54, ↓r_X5_raiseBy_55, ↓r_X5_raiseBy_56, ↓r_X5_raiseBy_57, ↓r_X5_raiseBy_60, ↓r_X5_raiseBy_61, ↓r_X5_raiseBy_64, ↓r_X5_raiseBy_65, ↓r_X5_raiseBy_66, ↓r_X5_raiseBy_67, ↓r_X5_raiseBy_68, ↓r_X5_raiseBy_69, ↓r_X5_raiseBy_72, ↓r_X5_raiseBy_73, ↓r_X5_raiseBy_74, ↓r_X5_raiseBy_75, ↓r_X5_raiseBy_77, ↓r_X5_raiseBy_80, ↓r_X5_raiseBy_81, ↓r_X5_raiseBy_84, ↓r_X5_raiseBy_85, ↓r_X5_raiseBy_86, ↓r_X5_raiseBy_87, ↓r_X5_raiseBy_89, ↓r_X5_raiseBy_90, ↓r_X5_raiseBy_93, ↓r_X5_raiseBy_96, ↓r_X5_raiseBy_97, ↓r_X5_raiseBy_98, ↓r_X5_raiseBy_101, ↓x2_0, ↓f5_2, ↓x0, ↓x1_1, ↓x16, ↓x15, ↓x13, ↓x4_5n, ↓x4_5i, ↓x4_5r, ↓x1_5, ↓x31_1, ↓x31b1, ↓x48_4, ↓x4_6n, ↓x4_6i, ↓x4_6r, ↓x1_6, ↓x32_3, ↓x2_4, ↓f6_0, ↓f5_0, ↓x25, ↓x7_6n, ↓x7_6i, ↓x7_6r, ↓x33, ↓x29, ↓x9, ↓x1_2, ↓x10, ↓x11, ↓x8, ↓v6_4, ↓x1_3, ↓v5_2, ↓l_2, ↓s_2, ↓l_3, ↓s_3, ↓l_4, ↓s_4, ↓l_5, ↓s_5, ↓l_6, ↓s_6, ↓l_7, ↓l_9, ↓s_9, ↓l_10, ↓s_10, ↓l_11, ↓s_11, ↓l_12, ↓l_13, ↓l_15, ↓s_15, ↓l_16, ↓s_16, ↓l_r1, ↓s_r1, ↓l_r2, ↓s_r2, ↓l_w1, ↓s_w1, ↓l_w2, ↓s_w2, and_self, and_true, true_and, implies_true, true_implies, Int.reduceEq, Int.reduceLE, Int.reduceLT, not_true_eq_false, not_false_eq_true, false_implies, RTf_eq, e]
    exact ⟨fun q => by omega, fun _ => ih⟩
theorem c_raiseC {r k0 rr fl : Int} {m : Set8} {v : Vec} (em : m = bs (M (17 + 3 * r) 2)) (ev : v = M (18 + 3 * r)) (hr0 : 0 ≤ r ∧ r < 64) (hs : 0 ≤ M (17 + 3 * r) 2 ∧ M (17 + 3 * r) 2 < 256) (hk : 0 ≤ k0 ∧ k0 < 8) (hm : m k0 = true) (hrr : 0 ≤ rr ∧ rr ≤ 1000) (hf : 0 ≤ fl ∧ fl ≤ 100) (hsh : ∀ j, 0 ≤ j → j < 8 → 0 ≤ v j ∧ v j ≤ 1000) (hv : RV m v) :
    ∃ p' w' : Vec, Ctr E 4 25 [vr (17 + 3 * r), vi k0, vi rr, vi fl, vr 8] (toAH S M) none (toAH S (putv (putv (putv M 9 0 p') 11 0 w') (18 + 3 * r) 0 (rsF fl m k0 rr v))) := by
  obtain ⟨s, hs1⟩ : ∃ s, s = M (17 + 3 * r) 2 := ⟨_, rfl⟩
  rw [← hs1] at hs em
  have ho := wo_at hs.1 hs.2 hk.1 hk.2
  obtain ⟨o, ho1⟩ : ∃ o, o = ian s (ixo (isl 1 k0) (-1)) := ⟨_, rfl⟩
  rw [← ho1] at ho
  have hoc : cntb (bs o) 8 = cntb (wob m k0) 8 := cntb_congr 8 (fun k a b => by rw [ho.2 k a b, em])
  have hoz := bs_zero ho.1.1 ho.1.2
  have hk0 := hsh k0 hk.1 hk.2
  have hn := raise_num hk0.1 hk0.2 hrr.1 hrr.2
  by_cases hz : o = 0
  · refine ⟨M 9, M 11, ?_⟩
    have e0 : putv (putv (putv M 9 0 (M 9)) 11 0 (M 11)) (18 + 3 * r) 0 (rsF fl m k0 rr v) = M := by
      have e1 : putv M 9 0 (M 9) = M := putv_id (fun k a b => by rw [Int.zero_add])
      have e2 : putv M 11 0 (M 11) = M := putv_id (fun k a b => by rw [Int.zero_add])
      rw [e1, e2]
      have : rsF fl m k0 rr v = v := by unfold rsF; rw [if_pos (by rw [← hoc]; exact hoz.mp hz)]
      rw [this, ev]
      exact putv_id (fun k a b => by rw [Int.zero_add])
    rw [e0]
    refine Ctr_f mi_X5_raiseBy mo_X5_raiseBy (Nat.le_of_ble_eq_true rfl) ⟨Nat.le_refl _, Nat.le_refl _⟩ (fun g lm => ?_)
    rw [show entL mi_X5_raiseBy.2.2.1 [vr (17 + 3 * r), vi k0, vi rr, vi fl, vr 8] = [some (vr (17 + 3 * r)), some (vi k0), some (vi rr), some (vi fl), some (vr 8), none, none] from rfl]
    refine e_X5_raiseBy 400 (lfok E (by omega)) ?_
    simp +contextual (disch := first | omega | exact Nat.le_of_ble_eq_true rfl | assumption) only [↓r_X5_raiseBy_0, ↓r_X5_raiseBy_1, ↓r_X5_raiseBy_4, ↓r_X5_raiseBy_5, ↓r_X5_raiseBy_6, ↓r_X5_raiseBy_7, ↓r_X5_raiseBy_8, ↓r_X5_raiseBy_9, ↓r_X5_raiseBy_10, ↓r_X5_raiseBy_12, ↓r_X5_raiseBy_14, ↓r_X5_raiseBy_17, ↓r_X5_raiseBy_18, ↓r_X5_raiseBy_19, ↓r_X5_raiseBy_21, ↓r_X5_raiseBy_23, ↓r_X5_raiseBy_25, ↓r_X5_raiseBy_28, ↓r_X5_raiseBy_30, ↓r_X5_raiseBy_33, ↓r_X5_raiseBy_35, ↓r_X5_raiseBy_36, ↓r_X5_raiseBy_39, ↓r_X5_raiseBy_41, ↓r_X5_raiseBy_42, ↓r_X5_raiseBy_43, ↓r_X5_raiseBy_44, ↓r_X5_raiseBy_47, ↓r_X5_raiseBy_50, ↓r_X5_raiseBy_51, ↓r_X5_raiseBy_54, ↓r_X5_raiseBy_55, ↓r_X5_raiseBy_56, ↓r_X5_raiseBy_57, ↓r_X5_raiseBy_60, ↓r_X5_raiseBy_61, ↓r_X5_raiseBy_64, ↓r_X5_raiseBy_65, ↓r_X5_raiseBy_66, ↓r_X5_raiseBy_67, ↓r_X5_raiseBy_68, ↓r_X5_raiseBy_69, ↓r_X5_raiseBy_72, ↓r_X5_raiseBy_73, ↓r_X5_raiseBy_74, ↓r_X5_raiseBy_75, ↓r_X5_raiseBy_77, ↓r_X5_raiseBy_80, ↓r_X5_raiseBy_81, ↓r_X5_raiseBy_84, ↓r_X5_raiseBy_85, ↓r_X5_raiseBy_86, ↓r_X5_raiseBy_87, ↓r_X5_raiseBy_89, ↓r_X5_raiseBy_90, ↓r_X5_raiseBy_93, ↓r_X5_raiseBy_96, ↓r_X5_raiseBy_97, ↓r_X5_raiseBy_98, ↓r_X5_raiseBy_101, ↓x2_0, ↓f5_2, ↓x0, ↓x1_1, ↓x16, ↓x15, ↓x13, ↓x4_5n, ↓x4_5i, ↓x4_5r, ↓x1_5, ↓x31_1, ↓x31b1, ↓x48_4, ↓x4_6n, ↓x4_6i, ↓x4_6r, ↓x1_6, ↓x32_3, ↓x2_4, ↓f6_0, ↓f5_0, ↓x25, ↓x7_6n, ↓x7_6i, ↓x7_6r, ↓x33, ↓x29, ↓x9, ↓x1_2, ↓x10, ↓x11, ↓x8, ↓v6_4, ↓x1_3, ↓v5_2, ↓l_2, ↓s_2, ↓l_3, ↓s_3, ↓l_4, ↓s_4, ↓l_5, ↓s_5, ↓l_6, ↓s_6, ↓l_7, ↓l_9, ↓s_9, ↓l_10, ↓s_10, ↓l_11, ↓s_11, ↓l_12, ↓l_13, ↓l_15, ↓s_15, ↓l_16, ↓s_16, ↓l_r1, ↓s_r1, ↓l_r2, ↓s_r2, ↓l_w1, ↓s_w1, ↓l_w2, ↓s_w2, and_self, and_true, true_and, implies_true, true_implies, Int.reduceEq, Int.reduceLE, Int.reduceLT, not_true_eq_false, not_false_eq_true, false_implies, RTf_eq, ← hs1, ← ho1, hz]
  · have hcw : ¬ cntb (wob m k0) 8 = 0 := fun q => hz (hoz.mpr (by rw [hoc]; exact q))
    obtain ⟨s2, hs2⟩ : ∃ s2, s2 = v k0 + (1000 - v k0) * rr / 1000 := ⟨_, rfl⟩
    obtain ⟨N1, hN1⟩ : ∃ N1, N1 = up2 (putv M 9 0 v) (18 + 3 * r) k0 s2 := ⟨_, rfl⟩
    have h9 : ∀ k, 0 ≤ k → k < 8 → N1 9 k = v k := fun k a b => by rw [hN1, up2_c (by omega), putv_at0 a b]
    have hcc : ∀ k, N1 (18 + 3 * r) k = upv v k0 s2 k := fun k => by
      rw [hN1]
      unfold upv
      split
      · rename_i h; rw [h, up2_eq]
      · rename_i h; rw [up2_i h, putv_ne (by omega), ev]
    have hnear : N1 (17 + 3 * r) 2 = s := by rw [hN1, up2_c (by omega), putv_ne (by omega), hs1]
    have hR : 0 ≤ 1000 - s2 ∧ 1000 - s2 ≤ 1000 := by omega
    obtain ⟨N2, hN2⟩ : ∃ N2, N2 = (if 0 < smv (bs o) (N1 9) 8 then shM N1 (18 + 3 * r) (shF (1000 - s2) (bs o) (N1 9) (N1 (18 + 3 * r)) (N1 11)) else putv N1 (18 + 3 * r) 0 (evF (1000 - s2) (bs o) (getv N1 (18 + 3 * r) 0))) := ⟨_, rfl⟩
    have hoV : smv (bs o) (N1 9) 8 = smv (wob m k0) v 8 := smv_congr 8 (fun k a b => ⟨by rw [ho.2 k a b, em], fun _ => h9 k a (by omega)⟩)
    obtain ⟨w', hw'⟩ : ∃ w' : Vec, N2 = putv (putv (putv M 9 0 v) 11 0 w') (18 + 3 * r) 0 (N2 (18 + 3 * r)) := by
      by_cases hV : 0 < smv (bs o) (N1 9) 8
      · rw [if_pos hV] at hN2
        refine ⟨(shF (1000 - s2) (bs o) (N1 9) (N1 (18 + 3 * r)) (N1 11)).2, ?_⟩
        have e : N2 = putv (putv (putv M 9 0 v) 11 0 (shF (1000 - s2) (bs o) (N1 9) (N1 (18 + 3 * r)) (N1 11)).2) (18 + 3 * r) 0 (shF (1000 - s2) (bs o) (N1 9) (N1 (18 + 3 * r)) (N1 11)).1 := by
          rw [hN2]
          unfold shM
          have e1 : putv N1 (18 + 3 * r) 0 (shF (1000 - s2) (bs o) (N1 9) (N1 (18 + 3 * r)) (N1 11)).1 = putv (putv M 9 0 v) (18 + 3 * r) 0 (shF (1000 - s2) (bs o) (N1 9) (N1 (18 + 3 * r)) (N1 11)).1 := by
            generalize (shF (1000 - s2) (bs o) (N1 9) (N1 (18 + 3 * r)) (N1 11)).1 = f
            rw [hN1]
            have := up2_v (M := putv M 9 0 v) (c := 18 + 3 * r) (off := 0) (k := k0) (x := s2) hk.1 hk.2
            rw [Int.zero_add] at this
            rw [this, putv_putv]
          rw [e1, putv_comm (by omega)]
        have e3 : ∀ k, 0 ≤ k → k < 8 → (shF (1000 - s2) (bs o) (N1 9) (N1 (18 + 3 * r)) (N1 11)).1 k = N2 (18 + 3 * r) k := fun k a b => by rw [e, putv_at0 a b]
        rw [putv_congr e3] at e
        exact e
      · rw [if_neg hV] at hN2
        refine ⟨M 11, ?_⟩
        have e2 : putv (putv M 9 0 v) 11 0 (M 11) = putv M 9 0 v := putv_id (fun k a b => by rw [Int.zero_add, putv_ne (by omega)])
        rw [e2]
        have e : N2 = putv (putv M 9 0 v) (18 + 3 * r) 0 (evF (1000 - s2) (bs o) (getv N1 (18 + 3 * r) 0)) := by
          rw [hN2]
          generalize evF (1000 - s2) (bs o) (getv N1 (18 + 3 * r) 0) = f
          rw [hN1]
          have := up2_v (M := putv M 9 0 v) (c := 18 + 3 * r) (off := 0) (k := k0) (x := s2) hk.1 hk.2
          rw [Int.zero_add] at this
          rw [this, putv_putv]
        have e3 : ∀ k, 0 ≤ k → k < 8 → evF (1000 - s2) (bs o) (getv N1 (18 + 3 * r) 0) k = N2 (18 + 3 * r) k := fun k a b => by rw [e, putv_at0 a b]
        rw [putv_congr e3] at e
        exact e
    have hW : ∀ k, 0 ≤ k → k < 8 → N2 (18 + 3 * r) k = rsW m k0 rr v k := by
      intro k a b
      have hcp : 0 < cntb (wob m k0) 8 := by have := cntb_rng (wob m k0) 8; omega
      have hmm : ∀ k : Int, 0 ≤ k → k < 8 → bs o k = wob m k0 k := fun k a b => by rw [ho.2 k a b, em]
      have hvp : ∀ k, 0 ≤ k → k < 8 → wob m k0 k = true → 0 ≤ v k := fun k a b _ => (hsh k a b).1
      unfold rsW
      rw [← hs2, ← hoV]
      by_cases hV : 0 < smv (bs o) (N1 9) 8
      · rw [if_pos hV] at hN2 ⊢
        rw [hN2, shM_c (by omega) a b]
        by_cases hb : bs o k = true
        · exact shF_eqv hmm (fun j x y _ => h9 j x y) k a b hb
        · have hb' : bs o k = false := by simpa using hb
          rw [(shF_ok hR.1 (fun j x y _ => by rw [h9 j x y]; exact (hsh j x y).1) hV (by rw [hoc]; exact hcp)).2.2 k hb']
          unfold sh1
          rw [(shF_ok hR.1 hvp (by rw [← hoV]; exact hV) hcp).2.2 k (by rw [← hmm k a b]; exact hb')]
          exact hcc k
      · rw [if_neg hV] at hN2 ⊢
        rw [hN2, putv_at0 a b]
        exact evF_congr hmm (fun j x y _ => by rw [getv0]; exact hcc j) k a b
    have hRV := rsW_ok hk hm hrr hv hcw
    have hRV2 : RV m (N2 (18 + 3 * r)) := RV_congr (fun _ _ _ => rfl) (fun k a b _ => (hW k a b).symm) hRV.1
    have hnear2 : N2 (17 + 3 * r) 2 = s := by rw [hw', putv_ne (by omega), putv_ne (by omega), putv_ne (by omega), hs1]
    have hrg2 : ∀ k, 0 ≤ k → k < 8 → rg (N2 (18 + 3 * r) k) := fun k a b => by
      by_cases hb : m k = true
      · have := hRV2.1 k a b hb
        omega
      · rw [hW k a b, hRV.2 k (by simpa using hb)]
        have := hsh k a b
        omega
    refine ⟨v, w', ?_⟩
    have hfin : putv N2 (18 + 3 * r) 0 (liF m fl (N2 (18 + 3 * r))) = putv (putv (putv M 9 0 v) 11 0 w') (18 + 3 * r) 0 (rsF fl m k0 rr v) := by
      have e1 : rsF fl m k0 rr v = liF m fl (rsW m k0 rr v) := by unfold rsF; rw [if_neg hcw]
      rw [e1]
      have e2 : ∀ f : Vec, putv N2 (18 + 3 * r) 0 f = putv (putv (putv M 9 0 v) 11 0 w') (18 + 3 * r) 0 f := fun f => by
        rw [hw', putv_putv]
      rw [e2]
      exact putv_congr (liF_congr8 hf hRV2 hW)
    rw [← hfin]
    refine Ctr_f mi_X5_raiseBy mo_X5_raiseBy (Nat.le_of_ble_eq_true rfl) ⟨Nat.le_refl _, Nat.le_refl _⟩ (fun g lm => ?_)
    rw [show entL mi_X5_raiseBy.2.2.1 [vr (17 + 3 * r), vi k0, vi rr, vi fl, vr 8] = [some (vr (17 + 3 * r)), some (vi k0), some (vi rr), some (vi fl), some (vr 8), none, none] from rfl]
    refine e_X5_raiseBy 400 (lfok E (by omega)) ?_
    simp +contextual (disch := first | omega | exact Nat.le_of_ble_eq_true rfl | assumption) only [↓r_X5_raiseBy_0, ↓r_X5_raiseBy_1, ↓r_X5_raiseBy_4, ↓r_X5_raiseBy_5, ↓r_X5_raiseBy_6, ↓r_X5_raiseBy_7, ↓r_X5_raiseBy_8, ↓r_X5_raiseBy_9, ↓r_X5_raiseBy_10, ↓r_X5_raiseBy_12, ↓r_X5_raiseBy_14, ↓r_X5_raiseBy_17, ↓r_X5_raiseBy_18, ↓r_X5_raiseBy_19, ↓r_X5_raiseBy_21, ↓r_X5_raiseBy_23, ↓r_X5_raiseBy_25, ↓r_X5_raiseBy_28, ↓r_X5_raiseBy_30, ↓r_X5_raiseBy_33, ↓r_X5_raiseBy_35, ↓r_X5_raiseBy_36, ↓r_X5_raiseBy_39, ↓r_X5_raiseBy_41, ↓r_X5_raiseBy_42, ↓r_X5_raiseBy_43, ↓r_X5_raiseBy_44, ↓r_X5_raiseBy_47, ↓r_X5_raiseBy_50, ↓r_X5_raiseBy_51, ↓r_X5_raiseBy_54, ↓r_X5_raiseBy_55, ↓r_X5_raiseBy_56, ↓r_X5_raiseBy_57, ↓r_X5_raiseBy_60, ↓r_X5_raiseBy_61, ↓r_X5_raiseBy_64, ↓r_X5_raiseBy_65, ↓r_X5_raiseBy_66, ↓r_X5_raiseBy_67, ↓r_X5_raiseBy_68, ↓r_X5_raiseBy_69, ↓r_X5_raiseBy_72, ↓r_X5_raiseBy_73, ↓r_X5_raiseBy_74, ↓r_X5_raiseBy_75, ↓r_X5_raiseBy_77, ↓r_X5_raiseBy_80, ↓r_X5_raiseBy_81, ↓r_X5_raiseBy_84, ↓r_X5_raiseBy_85, ↓r_X5_raiseBy_86, ↓r_X5_raiseBy_87, ↓r_X5_raiseBy_89, ↓r_X5_raiseBy_90, ↓r_X5_raiseBy_93, ↓r_X5_raiseBy_96, ↓r_X5_raiseBy_97, ↓r_X5_raiseBy_98, ↓r_X5_raiseBy_101, ↓x2_0, ↓f5_2, ↓x0, ↓x1_1, ↓x16, ↓x15, ↓x13, ↓x4_5n, ↓x4_5i, ↓x4_5r, ↓x1_5, ↓x31_1, ↓x31b1, ↓x48_4, ↓x4_6n, ↓x4_6i, ↓x4_6r, ↓x1_6, ↓x32_3, ↓x2_4, ↓f6_0, ↓f5_0, ↓x25, ↓x7_6n, ↓x7_6i, ↓x7_6r, ↓x33, ↓x29, ↓x9, ↓x1_2, ↓x10, ↓x11, ↓x8, ↓v6_4, ↓x1_3, ↓v5_2, ↓l_2, ↓s_2, ↓l_3, ↓s_3, ↓l_4, ↓s_4, ↓l_5, ↓s_5, ↓l_6, ↓s_6, ↓l_7, ↓l_9, ↓s_9, ↓l_10, ↓s_10, ↓l_11, ↓s_11, ↓l_12, ↓l_13, ↓l_15, ↓s_15, ↓l_16, ↓s_16, ↓l_r1, ↓s_r1, ↓l_r2, ↓s_r2, ↓l_w1, ↓s_w1, ↓l_w2, ↓s_w2, and_self, and_true, true_and, implies_true, true_implies, Int.reduceEq, Int.reduceLE, Int.reduceLT, not_true_eq_false, not_false_eq_true, false_implies, RTf_eq, ← hs1, ← ho1]
    refine ⟨fun _ => ?_, fun q => absurd (by simpa using q) hz⟩
    have := l_raiseC (E := E) (S := S) (M := M) (g := g) (lm := lm) (RT := RTf none (toAH S (putv N2 (18 + 3 * r) 0 (liF m fl (N2 (18 + 3 * r)))))) (k0 := k0) (rr := rr) (fl := fl) (o := o) hr0 (by rw [← ev]; exact hsh) ?_ 0 (by omega)
    · have h0 : putv M 9 0 (bl 0 (M (18 + 3 * r)) (M 9)) = M := putv_id (fun k a b => by rw [bl_0 a, Int.zero_add])
      rw [h0] at this
      exact this
    · intro n
      rw [← ev]
      have ek : putv M 9 0 v (18 + 3 * r) k0 = v k0 := by rw [putv_ne (by omega), ev]
      have eN : N1 (18 + 3 * r) k0 = s2 := by rw [hcc, upv_eq]
      simp +contextual (disch := first | omega | exact Nat.le_of_ble_eq_true rfl | assumption) only [↓r_X5_raiseBy_0, ↓r_X5_raiseBy_1, ↓r_X5_raiseBy_4, ↓r_X5_raiseBy_5, ↓r_X5_raiseBy_6, ↓r_X5_raiseBy_7, ↓r_X5_raiseBy_8, ↓r_X5_raiseBy_9, ↓r_X5_raiseBy_10, ↓r_X5_raiseBy_12, ↓r_X5_raiseBy_14, ↓r_X5_raiseBy_17, ↓r_X5_raiseBy_18, ↓r_X5_raiseBy_19, ↓r_X5_raiseBy_21, ↓r_X5_raiseBy_23, ↓r_X5_raiseBy_25, ↓r_X5_raiseBy_28, ↓r_X5_raiseBy_30, ↓r_X5_raiseBy_33, ↓r_X5_raiseBy_35, ↓r_X5_raiseBy_36, ↓r_X5_raiseBy_39, ↓r_X5_raiseBy_41, ↓r_X5_raiseBy_42, ↓r_X5_raiseBy_43, ↓r_X5_raiseBy_44, ↓r_X5_raiseBy_47, ↓r_X5_raiseBy_50, ↓r_X5_raiseBy_51, ↓r_X5_raiseBy_54, ↓r_X5_raiseBy_55, ↓r_X5_raiseBy_56, ↓r_X5_raiseBy_57, ↓r_X5_raiseBy_60, ↓r_X5_raiseBy_61, ↓r_X5_raiseBy_64, ↓r_X5_raiseBy_65, ↓r_X5_raiseBy_66, ↓r_X5_raiseBy_67, ↓r_X5_raiseBy_68, ↓r_X5_raiseBy_69, ↓r_X5_raiseBy_72, ↓r_X5_raiseBy_73, ↓r_X5_raiseBy_74, ↓r_X5_raiseBy_75, ↓r_X5_raiseBy_77, ↓r_X5_raiseBy_80, ↓r_X5_raiseBy_81, ↓r_X5_raiseBy_84, ↓r_X5_raiseBy_85, ↓r_X5_raiseBy_86, ↓r_X5_raiseBy_87, ↓r_X5_raiseBy_89, ↓r_X5_raiseBy_90, ↓r_X5_raiseBy_93, ↓r_X5_raiseBy_96, ↓r_X5_raiseBy_97, ↓r_X5_raiseBy_98, ↓r_X5_raiseBy_101, ↓x2_0, ↓f5_2, ↓x0, ↓x1_1, ↓x16, ↓x15, ↓x13, ↓x4_5n, ↓x4_5i, ↓x4_5r, ↓x1_5, ↓x31_1, ↓x31b1, ↓x48_4, ↓x4_6n, ↓x4_6i, ↓x4_6r, ↓x1_6, ↓x32_3, ↓x2_4, ↓f6_0, ↓f5_0, ↓x25, ↓x7_6n, ↓x7_6i, ↓x7_6r, ↓x33, ↓x29, ↓x9, ↓x1_2, ↓x10, ↓x11, ↓x8, ↓v6_4, ↓x1_3, ↓v5_2, ↓l_2, ↓s_2, ↓l_3, ↓s_3, ↓l_4, ↓s_4, ↓l_5, ↓s_5, ↓l_6, ↓s_6, ↓l_7, ↓l_9, ↓s_9, ↓l_10, ↓s_10, ↓l_11, ↓s_11, ↓l_12, ↓l_13, ↓l_15, ↓s_15, ↓l_16, ↓s_16, ↓l_r1, ↓s_r1, ↓l_r2, ↓s_r2, ↓l_w1, ↓s_w1, ↓l_w2, ↓s_w2, and_self, and_true, true_and, implies_true, true_implies, Int.reduceEq, Int.reduceLE, Int.reduceLT, not_true_eq_false, not_false_eq_true, false_implies, RTf_eq, ek, ← hs2, ← hN1, eN]
      refine ck_v (c_shareOutC ho.1 hr0 hR (fun k a b _ => by rw [h9 k a b]; have := hsh k a b; omega)) (by omega) (by simp) ?_
      rw [← hN2]
      simp +contextual (disch := first | omega | exact Nat.le_of_ble_eq_true rfl | assumption) only [↓r_X5_raiseBy_0, ↓r_X5_raiseBy_1, ↓r_X5_raiseBy_4, ↓r_X5_raiseBy_5, ↓r_X5_raiseBy_6, ↓r_X5_raiseBy_7, ↓r_X5_raiseBy_8, ↓r_X5_raiseBy_9, ↓r_X5_raiseBy_10, ↓r_X5_raiseBy_12, ↓r_X5_raiseBy_14, ↓r_X5_raiseBy_17, ↓r_X5_raiseBy_18, ↓r_X5_raiseBy_19, ↓r_X5_raiseBy_21, ↓r_X5_raiseBy_23, ↓r_X5_raiseBy_25, ↓r_X5_raiseBy_28, ↓r_X5_raiseBy_30, ↓r_X5_raiseBy_33, ↓r_X5_raiseBy_35, ↓r_X5_raiseBy_36, ↓r_X5_raiseBy_39, ↓r_X5_raiseBy_41, ↓r_X5_raiseBy_42, ↓r_X5_raiseBy_43, ↓r_X5_raiseBy_44, ↓r_X5_raiseBy_47, ↓r_X5_raiseBy_50, ↓r_X5_raiseBy_51, ↓r_X5_raiseBy_54, ↓r_X5_raiseBy_55, ↓r_X5_raiseBy_56, ↓r_X5_raiseBy_57, ↓r_X5_raiseBy_60, ↓r_X5_raiseBy_61, ↓r_X5_raiseBy_64, ↓r_X5_raiseBy_65, ↓r_X5_raiseBy_66, ↓r_X5_raiseBy_67, ↓r_X5_raiseBy_68, ↓r_X5_raiseBy_69, ↓r_X5_raiseBy_72, ↓r_X5_raiseBy_73, ↓r_X5_raiseBy_74, ↓r_X5_raiseBy_75, ↓r_X5_raiseBy_77, ↓r_X5_raiseBy_80, ↓r_X5_raiseBy_81, ↓r_X5_raiseBy_84, ↓r_X5_raiseBy_85, ↓r_X5_raiseBy_86, ↓r_X5_raiseBy_87, ↓r_X5_raiseBy_89, ↓r_X5_raiseBy_90, ↓r_X5_raiseBy_93, ↓r_X5_raiseBy_96, ↓r_X5_raiseBy_97, ↓r_X5_raiseBy_98, ↓r_X5_raiseBy_101, ↓x2_0, ↓f5_2, ↓x0, ↓x1_1, ↓x16, ↓x15, ↓x13, ↓x4_5n, ↓x4_5i, ↓x4_5r, ↓x1_5, ↓x31_1, ↓x31b1, ↓x48_4, ↓x4_6n, ↓x4_6i, ↓x4_6r, ↓x1_6, ↓x32_3, ↓x2_4, ↓f6_0, ↓f5_0, ↓x25, ↓x7_6n, ↓x7_6i, ↓x7_6r, ↓x33, ↓x29, ↓x9, ↓x1_2, ↓x10, ↓x11, ↓x8, ↓v6_4, ↓x1_3, ↓v5_2, ↓l_2, ↓s_2, ↓l_3, ↓s_3, ↓l_4, ↓s_4, ↓l_5, ↓s_5, ↓l_6, ↓s_6, ↓l_7, ↓l_9, ↓s_9, ↓l_10, ↓s_10, ↓l_11, ↓s_11, ↓l_12, ↓l_13, ↓l_15, ↓s_15, ↓l_16, ↓s_16, ↓l_r1, ↓s_r1, ↓l_r2, ↓s_r2, ↓l_w1, ↓s_w1, ↓l_w2, ↓s_w2, and_self, and_true, true_and, implies_true, true_implies, Int.reduceEq, Int.reduceLE, Int.reduceLT, not_true_eq_false, not_false_eq_true, false_implies, RTf_eq]
      refine ck_v (c_lift5 hr0 (by rw [hnear2]; exact hs) hf (by rw [hnear2, ← em]; exact hRV2) hrg2) (by omega) (by simp) ?_
      rw [hnear2, ← em]
      simp +contextual (disch := first | omega | exact Nat.le_of_ble_eq_true rfl | assumption) only [↓r_X5_raiseBy_0, ↓r_X5_raiseBy_1, ↓r_X5_raiseBy_4, ↓r_X5_raiseBy_5, ↓r_X5_raiseBy_6, ↓r_X5_raiseBy_7, ↓r_X5_raiseBy_8, ↓r_X5_raiseBy_9, ↓r_X5_raiseBy_10, ↓r_X5_raiseBy_12, ↓r_X5_raiseBy_14, ↓r_X5_raiseBy_17, ↓r_X5_raiseBy_18, ↓r_X5_raiseBy_19, ↓r_X5_raiseBy_21, ↓r_X5_raiseBy_23, ↓r_X5_raiseBy_25, ↓r_X5_raiseBy_28, ↓r_X5_raiseBy_30, ↓r_X5_raiseBy_33, ↓r_X5_raiseBy_35, ↓r_X5_raiseBy_36, ↓r_X5_raiseBy_39, ↓r_X5_raiseBy_41, ↓r_X5_raiseBy_42, ↓r_X5_raiseBy_43, ↓r_X5_raiseBy_44, ↓r_X5_raiseBy_47, ↓r_X5_raiseBy_50, ↓r_X5_raiseBy_51, ↓r_X5_raiseBy_54, ↓r_X5_raiseBy_55, ↓r_X5_raiseBy_56, ↓r_X5_raiseBy_57, ↓r_X5_raiseBy_60, ↓r_X5_raiseBy_61, ↓r_X5_raiseBy_64, ↓r_X5_raiseBy_65, ↓r_X5_raiseBy_66, ↓r_X5_raiseBy_67, ↓r_X5_raiseBy_68, ↓r_X5_raiseBy_69, ↓r_X5_raiseBy_72, ↓r_X5_raiseBy_73, ↓r_X5_raiseBy_74, ↓r_X5_raiseBy_75, ↓r_X5_raiseBy_77, ↓r_X5_raiseBy_80, ↓r_X5_raiseBy_81, ↓r_X5_raiseBy_84, ↓r_X5_raiseBy_85, ↓r_X5_raiseBy_86, ↓r_X5_raiseBy_87, ↓r_X5_raiseBy_89, ↓r_X5_raiseBy_90, ↓r_X5_raiseBy_93, ↓r_X5_raiseBy_96, ↓r_X5_raiseBy_97, ↓r_X5_raiseBy_98, ↓r_X5_raiseBy_101, ↓x2_0, ↓f5_2, ↓x0, ↓x1_1, ↓x16, ↓x15, ↓x13, ↓x4_5n, ↓x4_5i, ↓x4_5r, ↓x1_5, ↓x31_1, ↓x31b1, ↓x48_4, ↓x4_6n, ↓x4_6i, ↓x4_6r, ↓x1_6, ↓x32_3, ↓x2_4, ↓f6_0, ↓f5_0, ↓x25, ↓x7_6n, ↓x7_6i, ↓x7_6r, ↓x33, ↓x29, ↓x9, ↓x1_2, ↓x10, ↓x11, ↓x8, ↓v6_4, ↓x1_3, ↓v5_2, ↓l_2, ↓s_2, ↓l_3, ↓s_3, ↓l_4, ↓s_4, ↓l_5, ↓s_5, ↓l_6, ↓s_6, ↓l_7, ↓l_9, ↓s_9, ↓l_10, ↓s_10, ↓l_11, ↓s_11, ↓l_12, ↓l_13, ↓l_15, ↓s_15, ↓l_16, ↓s_16, ↓l_r1, ↓s_r1, ↓l_r2, ↓s_r2, ↓l_w1, ↓s_w1, ↓l_w2, ↓s_w2, and_self, and_true, true_and, implies_true, true_implies, Int.reduceEq, Int.reduceLE, Int.reduceLT, not_true_eq_false, not_false_eq_true, false_implies, RTf_eq]
end
