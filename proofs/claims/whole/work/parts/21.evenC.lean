/-! ===== even rows of the class ===== -/
def bs (s : Int) : Set8 := fun k => bzd s k
theorem pop_cnt0 : ∀ s, s < 256 → ((pop8 s : Nat) : Int) = cntb (bs ((s : Nat) : Int)) 8 := by decide +kernel
theorem pop_cnt {s : Int} (h1 : 0 ≤ s) (h2 : s < 256) : ((pop8 s.toNat : Nat) : Int) = cntb (bs s) 8 := by
  have := pop_cnt0 s.toNat (by omega)
  rw [Int.toNat_of_nonneg h1] at this
  exact this
theorem evF_none {all : Int} {m : Set8} {v : Vec} (h : cntb m 8 = 0) : ∀ k : Int, 0 ≤ k → k < 8 → evF all m v k = v k := by
  intro k h1 h2
  unfold evF
  split
  · rename_i hm
    have := cntb_pos h1 hm 8 (by omega)
    omega
  · rfl
theorem getv0 {M : Mem} {c k : Int} : getv M c 0 k = M c k := by unfold getv; rw [Int.zero_add]
section
variable {E : ET} {S : SCR} {M : Mem}
theorem l_evenOut {g : GT} {lm : Nat × Nat} {RT : RTy} {all set r n : Int} {m : Set8} (hm : m = bs set) (hn : n = cntb m 8) (hn0 : 0 < n) (hs : 0 ≤ set ∧ set < 256) (hr0 : 0 ≤ r ∧ r < 64) (hall : 0 ≤ all ∧ all ≤ 1000) (hr : RT none (toAH S (putv M (18 + 3 * r) 0 (evF all m (getv M (18 + 3 * r) 0))))) :
    ∀ k : Nat, k ≤ 8 → G E g mi_X6_evenOut 2 lm RT 18 [some (vi all), some (vi set), some (vr (18 + 3 * r)), some (vi n), some (vi (all % n - cntb m k)), some (vi (k : Int))] [] (toAH S (putv M (18 + 3 * r) 0 (bl k (evF all m (getv M (18 + 3 * r) 0)) (getv M (18 + 3 * r) 0)))) := by
  have hb : 0 ≤ all % n ∧ all % n < n := ⟨Int.emod_nonneg _ (by omega), Int.emod_lt_of_pos _ (by omega)⟩
  have hc := cntb_rng m 8
  refine down ?_ ?_
  · refine q_X6_evenOut_18 400 (lfok E (by omega)) ?_
    rw [putv_congr (g := evF all m (getv M (18 + 3 * r) 0)) (fun k h1 h2 => bl_8 h2)]
    simp +contextual (disch := first | omega | exact Nat.le_of_ble_eq_true rfl | assumption) only [↓r_X6_evenOut_0, ↓r_X6_evenOut_1, ↓r_X6_evenOut_4, ↓r_X6_evenOut_5, ↓r_X6_evenOut_6, ↓r_X6_evenOut_9, ↓r_X6_evenOut_10, ↓r_X6_evenOut_11, ↓r_X6_evenOut_12, ↓r_X6_evenOut_13, ↓r_X6_evenOut_15, ↓r_X6_evenOut_16, ↓r_X6_evenOut_18, ↓r_X6_evenOut_20, ↓r_X6_evenOut_22, ↓r_X6_evenOut_25, ↓r_X6_evenOut_26, ↓r_X6_evenOut_28, ↓r_X6_evenOut_31, ↓r_X6_evenOut_34, ↓r_X6_evenOut_35, ↓r_X6_evenOut_37, ↓r_X6_evenOut_38, ↓r_X6_evenOut_39, ↓r_X6_evenOut_40, ↓r_X6_evenOut_42, ↓r_X6_evenOut_45, ↓r_X6_evenOut_46, ↓r_X6_evenOut_49, ↓r_X6_evenOut_50, ↓r_X6_evenOut_51, ↓r_X6_evenOut_52, ↓r_X6_evenOut_55, ↓r_X6_evenOut_58, ↓r_X6_evenOut_61, ↓x1_1, ↓lf_J6_bitCount_0f7a4, ↓x4_3n, ↓x4_3i, ↓x4_3r, ↓x1_3, ↓x31_1, ↓x31b1, ↓x48_4, ↓x1_0, ↓x12, ↓x4_4n, ↓x4_4i, ↓x4_4r, ↓x0, ↓x4_5n, ↓x4_5i, ↓x4_5r, ↓x1_5, ↓x32_3, ↓lf_X8_isIn, ↓x31_0, ↓x31b0, ↓x2_2, ↓x11, ↓x1_4, ↓x31_5, ↓x33, ↓x8, ↓x7_4n, ↓x7_4i, ↓x7_4r, ↓x7_5n, ↓x7_5i, ↓x7_5r, ↓l_2, ↓s_2, ↓l_3, ↓s_3, ↓l_4, ↓s_4, ↓l_5, ↓s_5, ↓l_6, ↓s_6, ↓l_7, ↓l_9, ↓s_9, ↓l_10, ↓s_10, ↓l_11, ↓s_11, ↓l_12, ↓l_13, ↓l_15, ↓s_15, ↓l_16, ↓s_16, ↓l_r1, ↓s_r1, ↓l_r2, ↓s_r2, ↓l_w1, ↓s_w1, ↓l_w2, ↓s_w2, and_self, and_true, true_and, implies_true, true_implies, RTf_eq]
    exact ⟨fun _ => hr, fun q => absurd (by omega) q⟩
  · intro k hk ih
    have hck := cntb_rng m k
    have hcs : cntb m (k + 1) = cntb m k + (if m (k : Int) = true then 1 else 0) := rfl
    have hmk : m (k : Int) = bzd set k := by rw [hm]; rfl
    obtain ⟨N, hN⟩ : ∃ N, N = putv M (18 + 3 * r) 0 (bl k (evF all m (getv M (18 + 3 * r) 0)) (getv M (18 + 3 * r) 0)) := ⟨_, rfl⟩
    rw [← hN]
    refine q_X6_evenOut_18 400 (lfok E (by omega)) ?_
    simp +contextual (disch := first | omega | exact Nat.le_of_ble_eq_true rfl | assumption) only [↓r_X6_evenOut_0, ↓r_X6_evenOut_1, ↓r_X6_evenOut_4, ↓r_X6_evenOut_5, ↓r_X6_evenOut_6, ↓r_X6_evenOut_9, ↓r_X6_evenOut_10, ↓r_X6_evenOut_11, ↓r_X6_evenOut_12, ↓r_X6_evenOut_13, ↓r_X6_evenOut_15, ↓r_X6_evenOut_16, ↓r_X6_evenOut_18, ↓r_X6_evenOut_20, ↓r_X6_evenOut_22, ↓r_X6_evenOut_25, ↓r_X6_evenOut_26, ↓r_X6_evenOut_28, ↓r_X6_evenOut_31, ↓r_X6_evenOut_34, ↓r_X6_evenOut_35, ↓r_X6_evenOut_37, ↓r_X6_evenOut_38, ↓r_X6_evenOut_39, ↓r_X6_evenOut_40, ↓r_X6_evenOut_42, ↓r_X6_evenOut_45, ↓r_X6_evenOut_46, ↓r_X6_evenOut_49, ↓r_X6_evenOut_50, ↓r_X6_evenOut_51, ↓r_X6_evenOut_52, ↓r_X6_evenOut_55, ↓r_X6_evenOut_58, ↓r_X6_evenOut_61, ↓x1_1, ↓lf_J6_bitCount_0f7a4, ↓x4_3n, ↓x4_3i, ↓x4_3r, ↓x1_3, ↓x31_1, ↓x31b1, ↓x48_4, ↓x1_0, ↓x12, ↓x4_4n, ↓x4_4i, ↓x4_4r, ↓x0, ↓x4_5n, ↓x4_5i, ↓x4_5r, ↓x1_5, ↓x32_3, ↓lf_X8_isIn, ↓x31_0, ↓x31b0, ↓x2_2, ↓x11, ↓x1_4, ↓x31_5, ↓x33, ↓x8, ↓x7_4n, ↓x7_4i, ↓x7_4r, ↓x7_5n, ↓x7_5i, ↓x7_5r, ↓l_2, ↓s_2, ↓l_3, ↓s_3, ↓l_4, ↓s_4, ↓l_5, ↓s_5, ↓l_6, ↓s_6, ↓l_7, ↓l_9, ↓s_9, ↓l_10, ↓s_10, ↓l_11, ↓s_11, ↓l_12, ↓l_13, ↓l_15, ↓s_15, ↓l_16, ↓s_16, ↓l_r1, ↓s_r1, ↓l_r2, ↓s_r2, ↓l_w1, ↓s_w1, ↓l_w2, ↓s_w2, and_self, and_true, true_and, implies_true, true_implies, RTf_eq]
    refine ⟨fun q => by omega, fun _ => ⟨fun q => ?_, fun q => ?_⟩⟩
    · have hf : m (k : Int) = false := by rw [hmk]; simpa using q
      rw [hcs, hf, ← bl_n (by simp [evF, hf]), ← hN] at ih
      simpa using ih
    · have ht : m (k : Int) = true := by rw [hmk]; exact q
      rw [hcs, if_pos ht, ← bl_s, ← up2_putv0 (by omega) (by omega), ← hN] at ih
      have hf : evF all m (getv M (18 + 3 * r) 0) (k : Int) = all / n + (if 0 < all % n - cntb m k then 1 else 0) := by simp [evF, ht, ← hn]
      rw [hf] at ih
      refine ⟨fun q3 => ?_, fun q3 => ?_⟩
      · rw [if_neg (by omega)] at ih
        rw [show all % n - cntb m k + -1 = all % n - (cntb m k + 1) by omega]
        exact ih
      · rw [if_pos (by omega)] at ih
        rw [show all % n - cntb m k + -1 = all % n - (cntb m k + 1) by omega]
        exact ih
theorem c_evenOut {all set r : Int} (hs : 0 ≤ set ∧ set < 256) (hr0 : 0 ≤ r ∧ r < 64) (hall : 0 ≤ all ∧ all ≤ 1000) : Ctr E 2 32 [vi all, vi set, vr (18 + 3 * r)] (toAH S M) none (toAH S (putv M (18 + 3 * r) 0 (evF all (bs set) (getv M (18 + 3 * r) 0)))) := by
  have hp := pop_cnt hs.1 hs.2
  have hc := cntb_rng (bs set) 8
  obtain ⟨n, hn⟩ : ∃ n, n = cntb (bs set) 8 := ⟨_, rfl⟩
  rw [← hn] at hp hc
  refine Ctr_f mi_X6_evenOut mo_X6_evenOut (Nat.le_of_ble_eq_true rfl) ⟨Nat.le_refl _, Nat.le_refl _⟩ (fun g lm => ?_)
  rw [show entL mi_X6_evenOut.2.2.1 [vi all, vi set, vr (18 + 3 * r)] = [some (vi all), some (vi set), some (vr (18 + 3 * r)), none, none, none] from rfl]
  refine e_X6_evenOut 400 (lfok E (by omega)) ?_
  simp +contextual (disch := first | omega | exact Nat.le_of_ble_eq_true rfl | assumption) only [↓r_X6_evenOut_0, ↓r_X6_evenOut_1, ↓r_X6_evenOut_4, ↓r_X6_evenOut_5, ↓r_X6_evenOut_6, ↓r_X6_evenOut_9, ↓r_X6_evenOut_10, ↓r_X6_evenOut_11, ↓r_X6_evenOut_12, ↓r_X6_evenOut_13, ↓r_X6_evenOut_15, ↓r_X6_evenOut_16, ↓r_X6_evenOut_18, ↓r_X6_evenOut_20, ↓r_X6_evenOut_22, ↓r_X6_evenOut_25, ↓r_X6_evenOut_26, ↓r_X6_evenOut_28, ↓r_X6_evenOut_31, ↓r_X6_evenOut_34, ↓r_X6_evenOut_35, ↓r_X6_evenOut_37, ↓r_X6_evenOut_38, ↓r_X6_evenOut_39, ↓r_X6_evenOut_40, ↓r_X6_evenOut_42, ↓r_X6_evenOut_45, ↓r_X6_evenOut_46, ↓r_X6_evenOut_49, ↓r_X6_evenOut_50, ↓r_X6_evenOut_51, ↓r_X6_evenOut_52, ↓r_X6_evenOut_55, ↓r_X6_evenOut_58, ↓r_X6_evenOut_61, ↓x1_1, ↓lf_J6_bitCount_0f7a4, ↓x4_3n, ↓x4_3i, ↓x4_3r, ↓x1_3, ↓x31_1, ↓x31b1, ↓x48_4, ↓x1_0, ↓x12, ↓x4_4n, ↓x4_4i, ↓x4_4r, ↓x0, ↓x4_5n, ↓x4_5i, ↓x4_5r, ↓x1_5, ↓x32_3, ↓lf_X8_isIn, ↓x31_0, ↓x31b0, ↓x2_2, ↓x11, ↓x1_4, ↓x31_5, ↓x33, ↓x8, ↓x7_4n, ↓x7_4i, ↓x7_4r, ↓x7_5n, ↓x7_5i, ↓x7_5r, ↓l_2, ↓s_2, ↓l_3, ↓s_3, ↓l_4, ↓s_4, ↓l_5, ↓s_5, ↓l_6, ↓s_6, ↓l_7, ↓l_9, ↓s_9, ↓l_10, ↓s_10, ↓l_11, ↓s_11, ↓l_12, ↓l_13, ↓l_15, ↓s_15, ↓l_16, ↓s_16, ↓l_r1, ↓s_r1, ↓l_r2, ↓s_r2, ↓l_w1, ↓s_w1, ↓l_w2, ↓s_w2, and_self, and_true, true_and, implies_true, true_implies, RTf_eq, hp]
  refine ⟨fun q => ?_, fun q => ?_⟩
  · have := l_evenOut (E := E) (S := S) (M := M) (g := g) (lm := lm) (RT := RTf none (toAH S (putv M (18 + 3 * r) 0 (evF all (bs set) (getv M (18 + 3 * r) 0))))) rfl hn (by omega) hs hr0 hall ⟨rfl, rfl⟩ 0 (by omega)
    rw [putv_bl0] at this
    simpa [cntb] using this
  · rw [putv_id (f := evF all (bs set) (getv M (18 + 3 * r) 0)) (fun k h1 h2 => by rw [evF_none (by omega) k h1 h2]; rfl)]
theorem c_becomeEven {r : Int} (hr0 : 0 ≤ r ∧ r < 64) (hs : 0 ≤ M (17 + 3 * r) 2 ∧ M (17 + 3 * r) 2 < 256) : Ctr E 3 21 [vr (17 + 3 * r)] (toAH S M) none (toAH S (putv M (18 + 3 * r) 0 (evF 1000 (bs (M (17 + 3 * r) 2)) (getv M (18 + 3 * r) 0)))) := by
  refine Ctr_f mi_X5_becomeEven mo_X5_becomeEven (Nat.le_of_ble_eq_true rfl) ⟨Nat.le_refl _, Nat.le_refl _⟩ (fun g lm => ?_)
  rw [show entL mi_X5_becomeEven.2.2.1 [vr (17 + 3 * r)] = [some (vr (17 + 3 * r))] from rfl]
  refine e_X5_becomeEven 400 (lfok E (by omega)) ?_
  simp +contextual (disch := first | omega | exact Nat.le_of_ble_eq_true rfl | assumption) only [↓r_X5_becomeEven_0, ↓r_X5_becomeEven_3, ↓r_X5_becomeEven_4, ↓r_X5_becomeEven_7, ↓r_X5_becomeEven_8, ↓r_X5_becomeEven_11, ↓r_X5_becomeEven_14, ↓x0, ↓x2_0, ↓f5_2, ↓f5_0, ↓k_3, ↓x48_4, and_self, and_true, true_and, implies_true, true_implies, RTf_eq]
  refine ck_v (c_evenOut hs hr0 (by omega)) (by omega) (by simp) ?_
  simp +contextual (disch := first | omega | exact Nat.le_of_ble_eq_true rfl | assumption) only [↓r_X5_becomeEven_0, ↓r_X5_becomeEven_3, ↓r_X5_becomeEven_4, ↓r_X5_becomeEven_7, ↓r_X5_becomeEven_8, ↓r_X5_becomeEven_11, ↓r_X5_becomeEven_14, ↓x0, ↓x2_0, ↓f5_2, ↓f5_0, ↓k_3, ↓x48_4, and_self, and_true, true_and, implies_true, true_implies, RTf_eq]
/-- a row begun anew -/
def anM (M : Mem) (r s : Int) : Mem := putv (up2 (up2 (up2 M (17 + 3 * r) 2 s) (17 + 3 * r) 3 0) (17 + 3 * r) 4 0) (18 + 3 * r) 0 (evF 1000 (bs s) (getv M (18 + 3 * r) 0))
theorem c_startAnew {r s : Int} (hr0 : 0 ≤ r ∧ r < 64) (hs : 0 ≤ s ∧ s < 256) : Ctr E 4 20 [vr (17 + 3 * r), vi s] (toAH S M) none (toAH S (anM M r s)) := by
  refine Ctr_f mi_X5_startAnew mo_X5_startAnew (Nat.le_of_ble_eq_true rfl) ⟨Nat.le_refl _, Nat.le_refl _⟩ (fun g lm => ?_)
  rw [show entL mi_X5_startAnew.2.2.1 [vr (17 + 3 * r), vi s] = [some (vr (17 + 3 * r)), some (vi s)] from rfl]
  refine e_X5_startAnew 400 (lfok E (by omega)) ?_
  simp +contextual (disch := first | omega | exact Nat.le_of_ble_eq_true rfl | assumption) only [↓r_X5_startAnew_0, ↓r_X5_startAnew_1, ↓r_X5_startAnew_2, ↓r_X5_startAnew_5, ↓r_X5_startAnew_6, ↓r_X5_startAnew_7, ↓r_X5_startAnew_10, ↓r_X5_startAnew_11, ↓r_X5_startAnew_12, ↓r_X5_startAnew_15, ↓r_X5_startAnew_16, ↓r_X5_startAnew_19, ↓x2_0, ↓x1_1, ↓p5_2, ↓x0, ↓p5_3, ↓p5_4, ↓v5_1, ↓x48_4, and_self, and_true, true_and, implies_true, true_implies, RTf_eq]
  have e2 : up2 (up2 (up2 M (17 + 3 * r) 2 s) (17 + 3 * r) 3 0) (17 + 3 * r) 4 0 (17 + 3 * r) 2 = s := by simp [up2]
  have e3 : getv (up2 (up2 (up2 M (17 + 3 * r) 2 s) (17 + 3 * r) 3 0) (17 + 3 * r) 4 0) (18 + 3 * r) 0 = getv M (18 + 3 * r) 0 := by
    funext k
    unfold getv
    rw [up2_c (by omega), up2_c (by omega), up2_c (by omega)]
  refine ck_v (c_becomeEven hr0 (by rw [e2]; exact hs)) (by omega) (by simp) ?_
  rw [e2, e3]
  simp +contextual (disch := first | omega | exact Nat.le_of_ble_eq_true rfl | assumption) only [↓r_X5_startAnew_0, ↓r_X5_startAnew_1, ↓r_X5_startAnew_2, ↓r_X5_startAnew_5, ↓r_X5_startAnew_6, ↓r_X5_startAnew_7, ↓r_X5_startAnew_10, ↓r_X5_startAnew_11, ↓r_X5_startAnew_12, ↓r_X5_startAnew_15, ↓r_X5_startAnew_16, ↓r_X5_startAnew_19, ↓x2_0, ↓x1_1, ↓p5_2, ↓x0, ↓p5_3, ↓p5_4, ↓v5_1, ↓x48_4, and_self, and_true, true_and, implies_true, true_implies, RTf_eq]
  rfl
end
