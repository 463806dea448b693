/-! ===== steps back; coming out ===== -/
def sbL (M : Mem) (w : Int) : Int := lk8 M (M (210 + 3 * w) (M (209 + 3 * w) 12)) (M (210 + 3 * w) (M (209 + 3 * w) 12 - 1))
def sbM (M : Mem) (w : Int) : Mem := if sbL M w = -9 then loM M w else trM (up2 M (209 + 3 * w) 12 (M (209 + 3 * w) 12 - 1)) w (sbL M w) (M (210 + 3 * w) (M (209 + 3 * w) 12 - 1)) (M 0 10 + 1)
def sbK (M : Mem) (w : Int) : Int := M 253 (8 * M 268 (8 * w + M 270 w) + M 268 (8 * w + M 270 w - 1))
def sbN (M : Mem) (w : Int) : Mem := if sbK M w = -9 then loN M w else up2 (up2 (up2 M 263 w (sbK M w)) 264 w (M 268 (8 * w + M 270 w - 1))) 265 w (M 248 12 + 1)
def fiM (M : Mem) (w t : Int) : Mem := up2 (up2 (up2 (up2 M (209 + 3 * w) 3 0) (209 + 3 * w) 8 (-9)) 0 11 (M 0 11 + 1)) 0 13 (M 0 13 + t)
section
variable {E : ET} {S : SCR} {M : Mem}
theorem CW_of {N : Mem} {w : Int} (hW : CW M) (hO : ∀ c z, ¬ (209 + 3 * w ≤ c ∧ c ≤ 211 + 3 * w) → ¬ c = 0 → N c z = M c z) (w3 : N (209 + 3 * w) 3 = 0 ∨ N (209 + 3 * w) 3 = 1) (w4 : N (209 + 3 * w) 4 = 0 ∨ N (209 + 3 * w) 4 = 1) (w8 : rg (N (209 + 3 * w) 8)) (w2 : 0 ≤ N (209 + 3 * w) 2 ∧ N (209 + 3 * w) 2 ≤ 8) (wv : ∀ j, 0 ≤ j → j < 8 → 0 ≤ N (210 + 3 * w) j ∧ N (210 + 3 * w) j ≤ 7) (w5 : 0 ≤ N (209 + 3 * w) 5 ∧ N (209 + 3 * w) 5 ≤ 2) (w7 : 0 ≤ N (209 + 3 * w) 7 ∧ N (209 + 3 * w) 7 ≤ 7) (hw : 0 ≤ w ∧ w < 12) : CW N := by
  obtain ⟨h3, h4, h8, hd, hlo, hhi, hN, hS, hn, hv, hkd, ha⟩ := hW
  refine ⟨fun k a b => ?_, fun k a b => ?_, fun k a b => ?_, fun k a b => ?_, fun k a b => ?_, fun k a b => ?_, fun k a b => ?_, fun r k a b a1 b1 => ?_, fun k a b => ?_, fun k j a b a1 b1 => ?_, fun k a b => ?_, fun k a b => ?_⟩
  · by_cases c : k = w
    · rw [c]; exact w3
    · rw [hO _ 3 (by omega) (by omega)]; exact h3 k a b
  · by_cases c : k = w
    · rw [c]; exact w4
    · rw [hO _ 4 (by omega) (by omega)]; exact h4 k a b
  · by_cases c : k = w
    · rw [c]; exact w8
    · rw [hO _ 8 (by omega) (by omega)]; exact h8 k a b
  · rw [hO _ k (by omega) (by omega)]; exact hd k a b
  · rw [hO _ k (by omega) (by omega)]; exact hlo k a b
  · rw [hO _ k (by omega) (by omega)]; exact hhi k a b
  · rw [hO _ k (by omega) (by omega)]; exact hN k a b
  · rw [hO _ k (by omega) (by omega)]; exact hS r k a b a1 b1
  · by_cases c : k = w
    · rw [c]; exact w2
    · rw [hO _ 2 (by omega) (by omega)]; exact hn k a b
  · by_cases c : k = w
    · rw [c]; exact wv j a1 b1
    · rw [hO _ j (by omega) (by omega)]; exact hv k j a b a1 b1
  · by_cases c : k = w
    · rw [c]; exact w5
    · rw [hO _ 5 (by omega) (by omega)]; exact hkd k a b
  · by_cases c : k = w
    · rw [c]; exact w7
    · rw [hO _ 7 (by omega) (by omega)]; exact ha k a b
theorem MW_of {N : Mem} {w : Int} (hW : MW M) (hO : ∀ c z, ¬ c = 248 → ¬ (z = w ∧ 258 ≤ c ∧ c ≤ 267) → ¬ (c = 268 ∧ 8 * w ≤ z ∧ z < 8 * w + 8) → ¬ c = 269 → ¬ c = 270 → N c z = M c z) (w3 : N 258 w = 0 ∨ N 258 w = 1) (w4 : N 262 w = 0 ∨ N 262 w = 1) (w8 : rg (N 263 w)) (w2 : 0 ≤ N 267 w ∧ N 267 w ≤ 8) (wv : ∀ j, 0 ≤ j → j < 8 → 0 ≤ N 268 (8 * w + j) ∧ N 268 (8 * w + j) ≤ 7) (w5 : 0 ≤ N 259 w ∧ N 259 w ≤ 2) (w7 : 0 ≤ N 261 w ∧ N 261 w ≤ 7) (hw : 0 ≤ w ∧ w < 12) : MW N := by
  obtain ⟨h3, h4, h8, hL, hS, hn, hv, hkd, ha⟩ := hW
  refine ⟨fun k a b => ?_, fun k a b => ?_, fun k a b => ?_, fun k a b => ?_, fun k a b => ?_, fun k a b => ?_, fun k a b => ?_, fun k a b => ?_, fun k a b => ?_⟩
  · by_cases c : k = w
    · rw [c]; exact w3
    · rw [hO _ k (by omega) (by omega) (by omega) (by omega) (by omega)]; exact h3 k a b
  · by_cases c : k = w
    · rw [c]; exact w4
    · rw [hO _ k (by omega) (by omega) (by omega) (by omega) (by omega)]; exact h4 k a b
  · by_cases c : k = w
    · rw [c]; exact w8
    · rw [hO _ k (by omega) (by omega) (by omega) (by omega) (by omega)]; exact h8 k a b
  · rw [hO _ k (by omega) (by omega) (by omega) (by omega) (by omega)]; exact hL k a b
  · rw [hO _ k (by omega) (by omega) (by omega) (by omega) (by omega)]; exact hS k a b
  · by_cases c : k = w
    · rw [c]; exact w2
    · rw [hO _ k (by omega) (by omega) (by omega) (by omega) (by omega)]; exact hn k a b
  · by_cases c : 8 * w ≤ k ∧ k < 8 * w + 8
    · have := wv (k - 8 * w) (by omega) (by omega)
      rw [show 8 * w + (k - 8 * w) = k by omega] at this
      exact this
    · rw [hO _ k (by omega) (by omega) (by omega) (by omega) (by omega)]; exact hv k a b
  · by_cases c : k = w
    · rw [c]; exact w5
    · rw [hO _ k (by omega) (by omega) (by omega) (by omega) (by omega)]; exact hkd k a b
  · by_cases c : k = w
    · rw [c]; exact w7
    · rw [hO _ k (by omega) (by omega) (by omega) (by omega) (by omega)]; exact ha k a b
theorem c_finish {w t : Int} (hw : 0 ≤ w ∧ w < 12) : Ctr E 3 77 [vr 0, vr (209 + 3 * w), vi t] (toAH S M) none (toAH S (fiM M w t)) := by
  have cS := c_stop (E := E) (S := S) (M := M) hw
  have e1 : up2 (up2 M (209 + 3 * w) 3 0) (209 + 3 * w) 8 (-9) 0 11 = M 0 11 := by rw [up2_other (by omega), up2_other (by omega)]
  have e2 : up2 (up2 (up2 M (209 + 3 * w) 3 0) (209 + 3 * w) 8 (-9)) 0 11 (M 0 11 + 1) 0 13 = M 0 13 := by rw [up2_other (by omega), up2_other (by omega), up2_other (by omega)]
  refine Ctr_f mi_X8_finish mo_X8_finish (Nat.le_of_ble_eq_true rfl) ⟨Nat.le_refl _, Nat.le_refl _⟩ (fun g lm => ?_)
  rw [show entL mi_X8_finish.2.2.1 [vr 0, vr (209 + 3 * w), vi t] = [some (vr 0), some (vr (209 + 3 * w)), some (vi t)] from rfl]
  refine e_X8_finish 400 (lfok E (by omega)) ?_
  simp +contextual (disch := first | omega | exact Nat.le_of_ble_eq_true rfl | assumption) only [↓r_X8_finish_0, ↓r_X8_finish_1, ↓r_X8_finish_4, ↓r_X8_finish_5, ↓r_X8_finish_6, ↓r_X8_finish_9, ↓r_X8_finish_10, ↓r_X8_finish_11, ↓r_X8_finish_14, ↓r_X8_finish_15, ↓r_X8_finish_16, ↓r_X8_finish_19, ↓r_X8_finish_20, ↓r_X8_finish_21, ↓r_X8_finish_24, ↓x2_1, ↓v7_1, ↓x2_0, ↓x28i, ↓x28r, ↓f8_11, ↓x0, ↓x8, ↓p8_11, ↓f8_13, ↓x1_2, ↓p8_13, ↓x48_4, and_self, and_true, true_and, implies_true, true_implies, Int.reduceEq, Int.reduceLE, Int.reduceLT, not_true_eq_false, not_false_eq_true, false_implies, RTf_eq]
  refine ck_v cS (by omega) (by simp) ?_
  simp +contextual (disch := first | omega | exact Nat.le_of_ble_eq_true rfl | assumption) only [↓r_X8_finish_0, ↓r_X8_finish_1, ↓r_X8_finish_4, ↓r_X8_finish_5, ↓r_X8_finish_6, ↓r_X8_finish_9, ↓r_X8_finish_10, ↓r_X8_finish_11, ↓r_X8_finish_14, ↓r_X8_finish_15, ↓r_X8_finish_16, ↓r_X8_finish_19, ↓r_X8_finish_20, ↓r_X8_finish_21, ↓r_X8_finish_24, ↓x2_1, ↓v7_1, ↓x2_0, ↓x28i, ↓x28r, ↓f8_11, ↓x0, ↓x8, ↓p8_11, ↓f8_13, ↓x1_2, ↓p8_13, ↓x48_4, and_self, and_true, true_and, implies_true, true_implies, Int.reduceEq, Int.reduceLE, Int.reduceLT, not_true_eq_false, not_false_eq_true, false_implies, RTf_eq, e1, e2]
  rfl
theorem c_stepBack {w : Int} (hW : CW M) (hw : 0 ≤ w ∧ w < 12) (hp : 1 ≤ M (209 + 3 * w) 12 ∧ M (209 + 3 * w) 12 ≤ 7) : Ctr E 4 83 [vr 0, vr (209 + 3 * w)] (toAH S M) none (toAH S (sbM M w)) := by
  have hW' := hW
  obtain ⟨h3, h4, h8, hd, hlo, hhi, hN, hS, hn, hv, hkd, ha⟩ := hW'
  have eG : sbM M w = if sbL M w = -9 then loM M w else trM (up2 M (209 + 3 * w) 12 (M (209 + 3 * w) 12 - 1)) w (sbL M w) (M (210 + 3 * w) (M (209 + 3 * w) 12 - 1)) (M 0 10 + 1) := rfl
  have v1 := hv w (M (209 + 3 * w) 12) hw.1 hw.2 (by omega) (by omega)
  have v2 := hv w (M (209 + 3 * w) 12 - 1) hw.1 hw.2 (by omega) (by omega)
  have cB := c_lk8 (E := E) (S := S) (M := M) (i := M (210 + 3 * w) (M (209 + 3 * w) 12)) (k := M (210 + 3 * w) (M (209 + 3 * w) 12 - 1)) hW ⟨by omega, by omega⟩ ⟨by omega, by omega⟩
  have lr := fi_rng (p := btB M (min (M (210 + 3 * w) (M (209 + 3 * w) 12)) (M (210 + 3 * w) (M (209 + 3 * w) 12 - 1))) (max (M (210 + 3 * w) (M (209 + 3 * w) 12)) (M (210 + 3 * w) (M (209 + 3 * w) 12 - 1)))) 16 0 (by omega)
  have lr' : sbL M w = -9 ∨ (0 ≤ sbL M w ∧ sbL M w < 16) := by
    rcases lr with q | q
    · exact Or.inl q
    · exact Or.inr ⟨by have := q.1; exact this, by have := q.2.1; exact this⟩
  rw [show lk8 M (M (210 + 3 * w) (M (209 + 3 * w) 12)) (M (210 + 3 * w) (M (209 + 3 * w) 12 - 1)) = sbL M w from rfl] at cB
  have cL := c_lose (E := E) (S := S) (M := M) hw
  rw [show up2 (up2 (up2 M (209 + 3 * w) 3 0) (209 + 3 * w) 8 (-9)) 0 12 (M 0 12 + 1) = loM M w from rfl] at cL
  obtain ⟨l, hl⟩ : ∃ l, l = sbL M w := ⟨_, rfl⟩
  rw [← hl] at cB lr' eG
  obtain ⟨Z, hZ⟩ : ∃ Z, Z = sbM M w := ⟨_, rfl⟩
  rw [← hZ] at eG ⊢
  have e1 : up2 M (209 + 3 * w) 12 (M (209 + 3 * w) 12 - 1) (210 + 3 * w) (M (209 + 3 * w) 12 - 1) = M (210 + 3 * w) (M (209 + 3 * w) 12 - 1) := up2_other (by omega)
  have e2 : up2 M (209 + 3 * w) 12 (M (209 + 3 * w) 12 - 1) 0 10 = M 0 10 := up2_other (by omega)
  have cT := c_travel (E := E) (S := S) (M := up2 M (209 + 3 * w) 12 (M (209 + 3 * w) 12 - 1)) (a := l) (b := M (210 + 3 * w) (M (209 + 3 * w) 12 - 1)) (c := M 0 10 + 1) hw
  refine Ctr_f mi_X8_stepBack mo_X8_stepBack (Nat.le_of_ble_eq_true rfl) ⟨Nat.le_refl _, Nat.le_refl _⟩ (fun g lm => ?_)
  rw [show entL mi_X8_stepBack.2.2.1 [vr 0, vr (209 + 3 * w)] = [some (vr 0), some (vr (209 + 3 * w)), none, none] from rfl]
  refine e_X8_stepBack 400 (lfok E (by omega)) ?_
  simp +contextual (disch := first | omega | exact Nat.le_of_ble_eq_true rfl | assumption) only [↓r_X8_stepBack_0, ↓r_X8_stepBack_1, ↓r_X8_stepBack_4, ↓r_X8_stepBack_5, ↓r_X8_stepBack_6, ↓r_X8_stepBack_7, ↓r_X8_stepBack_8, ↓r_X8_stepBack_11, ↓r_X8_stepBack_12, ↓r_X8_stepBack_13, ↓r_X8_stepBack_16, ↓r_X8_stepBack_17, ↓r_X8_stepBack_20, ↓r_X8_stepBack_21, ↓r_X8_stepBack_24, ↓r_X8_stepBack_25, ↓r_X8_stepBack_26, ↓r_X8_stepBack_29, ↓r_X8_stepBack_30, ↓r_X8_stepBack_31, ↓r_X8_stepBack_34, ↓r_X8_stepBack_35, ↓r_X8_stepBack_36, ↓r_X8_stepBack_38, ↓r_X8_stepBack_41, ↓r_X8_stepBack_42, ↓r_X8_stepBack_43, ↓r_X8_stepBack_46, ↓r_X8_stepBack_47, ↓r_X8_stepBack_48, ↓r_X8_stepBack_49, ↓r_X8_stepBack_52, ↓r_X8_stepBack_53, ↓r_X8_stepBack_54, ↓r_X8_stepBack_55, ↓r_X8_stepBack_58, ↓r_X8_stepBack_59, ↓r_X8_stepBack_60, ↓r_X8_stepBack_61, ↓r_X8_stepBack_64, ↓r_X8_stepBack_65, ↓r_X8_stepBack_66, ↓r_X8_stepBack_69, ↓x2_1, ↓f7_12, ↓x0, ↓x9, ↓x4_2n, ↓x4_2i, ↓x4_2r, ↓x1_2, ↓x31_3, ↓x48_4, ↓x2_0, ↓f8_0, ↓f7_0, ↓v3_3, ↓x4_3n, ↓x4_3i, ↓x4_3r, ↓x1_3, ↓x32_1, ↓v8_2, ↓p7_12, ↓f8_10, ↓x8, ↓v7_4, ↓l_2, ↓l_3, ↓l_4, ↓l_5, ↓l_6, ↓l_7, ↓l_9, ↓l_10, ↓l_11, ↓l_12, ↓l_13, ↓l_15, ↓l_16, ↓l_r1, ↓l_r2, ↓l_w1, ↓l_w2, and_self, and_true, true_and, implies_true, true_implies, Int.reduceEq, Int.reduceLE, Int.reduceLT, not_true_eq_false, not_false_eq_true, false_implies, RTf_eq]
  refine ⟨fun _ => ?_, fun f => absurd (by omega) f⟩
  refine ck_r cB (by omega) (by simp) ?_
  by_cases c3 : l = -9
  · rw [if_pos c3] at eG
    simp +contextual (disch := first | omega | exact Nat.le_of_ble_eq_true rfl | assumption) only [↓r_X8_stepBack_0, ↓r_X8_stepBack_1, ↓r_X8_stepBack_4, ↓r_X8_stepBack_5, ↓r_X8_stepBack_6, ↓r_X8_stepBack_7, ↓r_X8_stepBack_8, ↓r_X8_stepBack_11, ↓r_X8_stepBack_12, ↓r_X8_stepBack_13, ↓r_X8_stepBack_16, ↓r_X8_stepBack_17, ↓r_X8_stepBack_20, ↓r_X8_stepBack_21, ↓r_X8_stepBack_24, ↓r_X8_stepBack_25, ↓r_X8_stepBack_26, ↓r_X8_stepBack_29, ↓r_X8_stepBack_30, ↓r_X8_stepBack_31, ↓r_X8_stepBack_34, ↓r_X8_stepBack_35, ↓r_X8_stepBack_36, ↓r_X8_stepBack_38, ↓r_X8_stepBack_41, ↓r_X8_stepBack_42, ↓r_X8_stepBack_43, ↓r_X8_stepBack_46, ↓r_X8_stepBack_47, ↓r_X8_stepBack_48, ↓r_X8_stepBack_49, ↓r_X8_stepBack_52, ↓r_X8_stepBack_53, ↓r_X8_stepBack_54, ↓r_X8_stepBack_55, ↓r_X8_stepBack_58, ↓r_X8_stepBack_59, ↓r_X8_stepBack_60, ↓r_X8_stepBack_61, ↓r_X8_stepBack_64, ↓r_X8_stepBack_65, ↓r_X8_stepBack_66, ↓r_X8_stepBack_69, ↓x2_1, ↓f7_12, ↓x0, ↓x9, ↓x4_2n, ↓x4_2i, ↓x4_2r, ↓x1_2, ↓x31_3, ↓x48_4, ↓x2_0, ↓f8_0, ↓f7_0, ↓v3_3, ↓x4_3n, ↓x4_3i, ↓x4_3r, ↓x1_3, ↓x32_1, ↓v8_2, ↓p7_12, ↓f8_10, ↓x8, ↓v7_4, ↓l_2, ↓l_3, ↓l_4, ↓l_5, ↓l_6, ↓l_7, ↓l_9, ↓l_10, ↓l_11, ↓l_12, ↓l_13, ↓l_15, ↓l_16, ↓l_r1, ↓l_r2, ↓l_w1, ↓l_w2, and_self, and_true, true_and, implies_true, true_implies, Int.reduceEq, Int.reduceLE, Int.reduceLT, not_true_eq_false, not_false_eq_true, false_implies, RTf_eq]
    refine ⟨fun f => absurd c3 f, fun _ => ?_⟩
    refine ck_v cL (by omega) (by simp) ?_
    simp +contextual (disch := first | omega | exact Nat.le_of_ble_eq_true rfl | assumption) only [↓r_X8_stepBack_0, ↓r_X8_stepBack_1, ↓r_X8_stepBack_4, ↓r_X8_stepBack_5, ↓r_X8_stepBack_6, ↓r_X8_stepBack_7, ↓r_X8_stepBack_8, ↓r_X8_stepBack_11, ↓r_X8_stepBack_12, ↓r_X8_stepBack_13, ↓r_X8_stepBack_16, ↓r_X8_stepBack_17, ↓r_X8_stepBack_20, ↓r_X8_stepBack_21, ↓r_X8_stepBack_24, ↓r_X8_stepBack_25, ↓r_X8_stepBack_26, ↓r_X8_stepBack_29, ↓r_X8_stepBack_30, ↓r_X8_stepBack_31, ↓r_X8_stepBack_34, ↓r_X8_stepBack_35, ↓r_X8_stepBack_36, ↓r_X8_stepBack_38, ↓r_X8_stepBack_41, ↓r_X8_stepBack_42, ↓r_X8_stepBack_43, ↓r_X8_stepBack_46, ↓r_X8_stepBack_47, ↓r_X8_stepBack_48, ↓r_X8_stepBack_49, ↓r_X8_stepBack_52, ↓r_X8_stepBack_53, ↓r_X8_stepBack_54, ↓r_X8_stepBack_55, ↓r_X8_stepBack_58, ↓r_X8_stepBack_59, ↓r_X8_stepBack_60, ↓r_X8_stepBack_61, ↓r_X8_stepBack_64, ↓r_X8_stepBack_65, ↓r_X8_stepBack_66, ↓r_X8_stepBack_69, ↓x2_1, ↓f7_12, ↓x0, ↓x9, ↓x4_2n, ↓x4_2i, ↓x4_2r, ↓x1_2, ↓x31_3, ↓x48_4, ↓x2_0, ↓f8_0, ↓f7_0, ↓v3_3, ↓x4_3n, ↓x4_3i, ↓x4_3r, ↓x1_3, ↓x32_1, ↓v8_2, ↓p7_12, ↓f8_10, ↓x8, ↓v7_4, ↓l_2, ↓l_3, ↓l_4, ↓l_5, ↓l_6, ↓l_7, ↓l_9, ↓l_10, ↓l_11, ↓l_12, ↓l_13, ↓l_15, ↓l_16, ↓l_r1, ↓l_r2, ↓l_w1, ↓l_w2, and_self, and_true, true_and, implies_true, true_implies, Int.reduceEq, Int.reduceLE, Int.reduceLT, not_true_eq_false, not_false_eq_true, false_implies, RTf_eq]
    rw [eG]
  · rw [if_neg c3] at eG
    simp +contextual (disch := first | omega | exact Nat.le_of_ble_eq_true rfl | assumption) only [↓r_X8_stepBack_0, ↓r_X8_stepBack_1, ↓r_X8_stepBack_4, ↓r_X8_stepBack_5, ↓r_X8_stepBack_6, ↓r_X8_stepBack_7, ↓r_X8_stepBack_8, ↓r_X8_stepBack_11, ↓r_X8_stepBack_12, ↓r_X8_stepBack_13, ↓r_X8_stepBack_16, ↓r_X8_stepBack_17, ↓r_X8_stepBack_20, ↓r_X8_stepBack_21, ↓r_X8_stepBack_24, ↓r_X8_stepBack_25, ↓r_X8_stepBack_26, ↓r_X8_stepBack_29, ↓r_X8_stepBack_30, ↓r_X8_stepBack_31, ↓r_X8_stepBack_34, ↓r_X8_stepBack_35, ↓r_X8_stepBack_36, ↓r_X8_stepBack_38, ↓r_X8_stepBack_41, ↓r_X8_stepBack_42, ↓r_X8_stepBack_43, ↓r_X8_stepBack_46, ↓r_X8_stepBack_47, ↓r_X8_stepBack_48, ↓r_X8_stepBack_49, ↓r_X8_stepBack_52, ↓r_X8_stepBack_53, ↓r_X8_stepBack_54, ↓r_X8_stepBack_55, ↓r_X8_stepBack_58, ↓r_X8_stepBack_59, ↓r_X8_stepBack_60, ↓r_X8_stepBack_61, ↓r_X8_stepBack_64, ↓r_X8_stepBack_65, ↓r_X8_stepBack_66, ↓r_X8_stepBack_69, ↓x2_1, ↓f7_12, ↓x0, ↓x9, ↓x4_2n, ↓x4_2i, ↓x4_2r, ↓x1_2, ↓x31_3, ↓x48_4, ↓x2_0, ↓f8_0, ↓f7_0, ↓v3_3, ↓x4_3n, ↓x4_3i, ↓x4_3r, ↓x1_3, ↓x32_1, ↓v8_2, ↓p7_12, ↓f8_10, ↓x8, ↓v7_4, ↓l_2, ↓l_3, ↓l_4, ↓l_5, ↓l_6, ↓l_7, ↓l_9, ↓l_10, ↓l_11, ↓l_12, ↓l_13, ↓l_15, ↓l_16, ↓l_r1, ↓l_r2, ↓l_w1, ↓l_w2, and_self, and_true, true_and, implies_true, true_implies, Int.reduceEq, Int.reduceLE, Int.reduceLT, not_true_eq_false, not_false_eq_true, false_implies, RTf_eq, e1, e2]
    refine ⟨fun _ => ?_, fun f => absurd c3 f⟩
    refine ck_v cT (by omega) (by simp) ?_
    simp +contextual (disch := first | omega | exact Nat.le_of_ble_eq_true rfl | assumption) only [↓r_X8_stepBack_0, ↓r_X8_stepBack_1, ↓r_X8_stepBack_4, ↓r_X8_stepBack_5, ↓r_X8_stepBack_6, ↓r_X8_stepBack_7, ↓r_X8_stepBack_8, ↓r_X8_stepBack_11, ↓r_X8_stepBack_12, ↓r_X8_stepBack_13, ↓r_X8_stepBack_16, ↓r_X8_stepBack_17, ↓r_X8_stepBack_20, ↓r_X8_stepBack_21, ↓r_X8_stepBack_24, ↓r_X8_stepBack_25, ↓r_X8_stepBack_26, ↓r_X8_stepBack_29, ↓r_X8_stepBack_30, ↓r_X8_stepBack_31, ↓r_X8_stepBack_34, ↓r_X8_stepBack_35, ↓r_X8_stepBack_36, ↓r_X8_stepBack_38, ↓r_X8_stepBack_41, ↓r_X8_stepBack_42, ↓r_X8_stepBack_43, ↓r_X8_stepBack_46, ↓r_X8_stepBack_47, ↓r_X8_stepBack_48, ↓r_X8_stepBack_49, ↓r_X8_stepBack_52, ↓r_X8_stepBack_53, ↓r_X8_stepBack_54, ↓r_X8_stepBack_55, ↓r_X8_stepBack_58, ↓r_X8_stepBack_59, ↓r_X8_stepBack_60, ↓r_X8_stepBack_61, ↓r_X8_stepBack_64, ↓r_X8_stepBack_65, ↓r_X8_stepBack_66, ↓r_X8_stepBack_69, ↓x2_1, ↓f7_12, ↓x0, ↓x9, ↓x4_2n, ↓x4_2i, ↓x4_2r, ↓x1_2, ↓x31_3, ↓x48_4, ↓x2_0, ↓f8_0, ↓f7_0, ↓v3_3, ↓x4_3n, ↓x4_3i, ↓x4_3r, ↓x1_3, ↓x32_1, ↓v8_2, ↓p7_12, ↓f8_10, ↓x8, ↓v7_4, ↓l_2, ↓l_3, ↓l_4, ↓l_5, ↓l_6, ↓l_7, ↓l_9, ↓l_10, ↓l_11, ↓l_12, ↓l_13, ↓l_15, ↓l_16, ↓l_r1, ↓l_r2, ↓l_w1, ↓l_w2, and_self, and_true, true_and, implies_true, true_implies, Int.reduceEq, Int.reduceLE, Int.reduceLT, not_true_eq_false, not_false_eq_true, false_implies, RTf_eq]
    rw [eG]; rfl
theorem c_goesBack {w : Int} (hW : MW M) (hw : 0 ≤ w ∧ w < 12) (hp : 1 ≤ M 270 w ∧ M 270 w ≤ 7) : Ctr E 3 128 [vr 248, vi w] (toAH S M) none (toAH S (sbN M w)) := by
  obtain ⟨h3, h4, h8, hL, hS, hn, hv, hkd, ha⟩ := hW
  have eG : sbN M w = if sbK M w = -9 then loN M w else up2 (up2 (up2 M 263 w (sbK M w)) 264 w (M 268 (8 * w + M 270 w - 1))) 265 w (M 248 12 + 1) := rfl
  have v1 := hv (8 * w + M 270 w) (by omega) (by omega)
  have v2 := hv (8 * w + M 270 w - 1) (by omega) (by omega)
  have lr := hL (8 * M 268 (8 * w + M 270 w) + M 268 (8 * w + M 270 w - 1)) (by omega) (by omega)
  have el : sbK M w = M 253 (8 * M 268 (8 * w + M 270 w) + M 268 (8 * w + M 270 w - 1)) := rfl
  have cL := c_loses (E := E) (S := S) (M := M) hw
  obtain ⟨l, hl⟩ : ∃ l, l = sbK M w := ⟨_, rfl⟩
  rw [← hl] at el eG
  rw [← el] at lr
  obtain ⟨Z, hZ⟩ : ∃ Z, Z = sbN M w := ⟨_, rfl⟩
  rw [← hZ] at eG ⊢
  have e1 : up2 (up2 M 263 w l) 264 w (M 268 (8 * w + M 270 w - 1)) 248 12 = M 248 12 := by rw [up2_other (by omega), up2_other (by omega)]
  refine Ctr_f mi_X9_goesBack mo_X9_goesBack (Nat.le_of_ble_eq_true rfl) ⟨Nat.le_refl _, Nat.le_refl _⟩ (fun g lm => ?_)
  rw [show entL mi_X9_goesBack.2.2.1 [vr 248, vi w] = [some (vr 248), some (vi w), none, none, none] from rfl]
  refine e_X9_goesBack 400 (lfok E (by omega)) ?_
  by_cases c3 : l = -9
  · rw [if_pos c3] at eG
    simp +contextual (disch := first | omega | exact Nat.le_of_ble_eq_true rfl | assumption) only [↓r_X9_goesBack_0, ↓r_X9_goesBack_1, ↓r_X9_goesBack_4, ↓r_X9_goesBack_6, ↓r_X9_goesBack_7, ↓r_X9_goesBack_8, ↓r_X9_goesBack_9, ↓r_X9_goesBack_12, ↓r_X9_goesBack_13, ↓r_X9_goesBack_14, ↓r_X9_goesBack_15, ↓r_X9_goesBack_16, ↓r_X9_goesBack_17, ↓r_X9_goesBack_18, ↓r_X9_goesBack_21, ↓r_X9_goesBack_23, ↓r_X9_goesBack_24, ↓r_X9_goesBack_25, ↓r_X9_goesBack_26, ↓r_X9_goesBack_29, ↓r_X9_goesBack_30, ↓r_X9_goesBack_31, ↓r_X9_goesBack_32, ↓r_X9_goesBack_33, ↓r_X9_goesBack_34, ↓r_X9_goesBack_35, ↓r_X9_goesBack_36, ↓r_X9_goesBack_37, ↓r_X9_goesBack_40, ↓r_X9_goesBack_42, ↓r_X9_goesBack_43, ↓r_X9_goesBack_44, ↓r_X9_goesBack_45, ↓r_X9_goesBack_46, ↓r_X9_goesBack_47, ↓r_X9_goesBack_49, ↓r_X9_goesBack_51, ↓r_X9_goesBack_53, ↓r_X9_goesBack_56, ↓r_X9_goesBack_57, ↓r_X9_goesBack_58, ↓r_X9_goesBack_61, ↓r_X9_goesBack_62, ↓r_X9_goesBack_63, ↓r_X9_goesBack_66, ↓r_X9_goesBack_67, ↓r_X9_goesBack_69, ↓r_X9_goesBack_70, ↓r_X9_goesBack_71, ↓r_X9_goesBack_74, ↓r_X9_goesBack_75, ↓r_X9_goesBack_76, ↓r_X9_goesBack_77, ↓r_X9_goesBack_78, ↓r_X9_goesBack_81, ↓r_X9_goesBack_82, ↓r_X9_goesBack_83, ↓r_X9_goesBack_86, ↓r_X9_goesBack_87, ↓r_X9_goesBack_88, ↓r_X9_goesBack_89, ↓x2_0, ↓f9_27, ↓x0, ↓x1_1, ↓x10, ↓f9_29, ↓x8, ↓x4_2n, ↓x4_2i, ↓x4_2r, ↓x9, ↓x4_3n, ↓x4_3i, ↓x4_3r, ↓f9_4, ↓x1_2, ↓x1_3, ↓x4_4n, ↓x4_4i, ↓x4_4r, ↓x1_4, ↓x32_1, ↓v9_2, ↓x48_4, ↓f9_22, ↓f9_23, ↓f9_24, ↓f9_12, ↓l_249, ↓s_249, ↓l_250, ↓s_250, ↓l_251, ↓s_251, ↓l_252, ↓s_252, ↓l_253, ↓s_253, ↓l_254, ↓s_254, ↓l_255, ↓s_255, ↓l_256, ↓s_256, ↓l_257, ↓s_257, ↓l_258, ↓s_258, ↓l_259, ↓s_259, ↓l_260, ↓s_260, ↓l_261, ↓s_261, ↓l_262, ↓s_262, ↓l_263, ↓s_263, ↓l_264, ↓s_264, ↓l_265, ↓s_265, ↓l_266, ↓s_266, ↓l_267, ↓s_267, ↓l_268, ↓s_268, ↓l_269, ↓s_269, ↓l_270, ↓s_270, ↓l_271, ↓s_271, ↓l_272, ↓s_272, ↓l_273, ↓s_273, ↓l_274, ↓s_274, and_self, and_true, true_and, implies_true, true_implies, Int.reduceEq, Int.reduceLE, Int.reduceLT, not_true_eq_false, not_false_eq_true, false_implies, RTf_eq, ← el]
    refine ⟨fun f => absurd c3 f, fun _ => ?_⟩
    refine ck_v cL (by omega) (by simp) ?_
    simp +contextual (disch := first | omega | exact Nat.le_of_ble_eq_true rfl | assumption) only [↓r_X9_goesBack_0, ↓r_X9_goesBack_1, ↓r_X9_goesBack_4, ↓r_X9_goesBack_6, ↓r_X9_goesBack_7, ↓r_X9_goesBack_8, ↓r_X9_goesBack_9, ↓r_X9_goesBack_12, ↓r_X9_goesBack_13, ↓r_X9_goesBack_14, ↓r_X9_goesBack_15, ↓r_X9_goesBack_16, ↓r_X9_goesBack_17, ↓r_X9_goesBack_18, ↓r_X9_goesBack_21, ↓r_X9_goesBack_23, ↓r_X9_goesBack_24, ↓r_X9_goesBack_25, ↓r_X9_goesBack_26, ↓r_X9_goesBack_29, ↓r_X9_goesBack_30, ↓r_X9_goesBack_31, ↓r_X9_goesBack_32, ↓r_X9_goesBack_33, ↓r_X9_goesBack_34, ↓r_X9_goesBack_35, ↓r_X9_goesBack_36, ↓r_X9_goesBack_37, ↓r_X9_goesBack_40, ↓r_X9_goesBack_42, ↓r_X9_goesBack_43, ↓r_X9_goesBack_44, ↓r_X9_goesBack_45, ↓r_X9_goesBack_46, ↓r_X9_goesBack_47, ↓r_X9_goesBack_49, ↓r_X9_goesBack_51, ↓r_X9_goesBack_53, ↓r_X9_goesBack_56, ↓r_X9_goesBack_57, ↓r_X9_goesBack_58, ↓r_X9_goesBack_61, ↓r_X9_goesBack_62, ↓r_X9_goesBack_63, ↓r_X9_goesBack_66, ↓r_X9_goesBack_67, ↓r_X9_goesBack_69, ↓r_X9_goesBack_70, ↓r_X9_goesBack_71, ↓r_X9_goesBack_74, ↓r_X9_goesBack_75, ↓r_X9_goesBack_76, ↓r_X9_goesBack_77, ↓r_X9_goesBack_78, ↓r_X9_goesBack_81, ↓r_X9_goesBack_82, ↓r_X9_goesBack_83, ↓r_X9_goesBack_86, ↓r_X9_goesBack_87, ↓r_X9_goesBack_88, ↓r_X9_goesBack_89, ↓x2_0, ↓f9_27, ↓x0, ↓x1_1, ↓x10, ↓f9_29, ↓x8, ↓x4_2n, ↓x4_2i, ↓x4_2r, ↓x9, ↓x4_3n, ↓x4_3i, ↓x4_3r, ↓f9_4, ↓x1_2, ↓x1_3, ↓x4_4n, ↓x4_4i, ↓x4_4r, ↓x1_4, ↓x32_1, ↓v9_2, ↓x48_4, ↓f9_22, ↓f9_23, ↓f9_24, ↓f9_12, ↓l_249, ↓s_249, ↓l_250, ↓s_250, ↓l_251, ↓s_251, ↓l_252, ↓s_252, ↓l_253, ↓s_253, ↓l_254, ↓s_254, ↓l_255, ↓s_255, ↓l_256, ↓s_256, ↓l_257, ↓s_257, ↓l_258, ↓s_258, ↓l_259, ↓s_259, ↓l_260, ↓s_260, ↓l_261, ↓s_261, ↓l_262, ↓s_262, ↓l_263, ↓s_263, ↓l_264, ↓s_264, ↓l_265, ↓s_265, ↓l_266, ↓s_266, ↓l_267, ↓s_267, ↓l_268, ↓s_268, ↓l_269, ↓s_269, ↓l_270, ↓s_270, ↓l_271, ↓s_271, ↓l_272, ↓s_272, ↓l_273, ↓s_273, ↓l_274, ↓s_274, and_self, and_true, true_and, implies_true, true_implies, Int.reduceEq, Int.reduceLE, Int.reduceLT, not_true_eq_false, not_false_eq_true, false_implies, RTf_eq]
    rw [eG]; rfl
  · rw [if_neg c3] at eG
    simp +contextual (disch := first | omega | exact Nat.le_of_ble_eq_true rfl | assumption) only [↓r_X9_goesBack_0, ↓r_X9_goesBack_1, ↓r_X9_goesBack_4, ↓r_X9_goesBack_6, ↓r_X9_goesBack_7, ↓r_X9_goesBack_8, ↓r_X9_goesBack_9, ↓r_X9_goesBack_12, ↓r_X9_goesBack_13, ↓r_X9_goesBack_14, ↓r_X9_goesBack_15, ↓r_X9_goesBack_16, ↓r_X9_goesBack_17, ↓r_X9_goesBack_18, ↓r_X9_goesBack_21, ↓r_X9_goesBack_23, ↓r_X9_goesBack_24, ↓r_X9_goesBack_25, ↓r_X9_goesBack_26, ↓r_X9_goesBack_29, ↓r_X9_goesBack_30, ↓r_X9_goesBack_31, ↓r_X9_goesBack_32, ↓r_X9_goesBack_33, ↓r_X9_goesBack_34, ↓r_X9_goesBack_35, ↓r_X9_goesBack_36, ↓r_X9_goesBack_37, ↓r_X9_goesBack_40, ↓r_X9_goesBack_42, ↓r_X9_goesBack_43, ↓r_X9_goesBack_44, ↓r_X9_goesBack_45, ↓r_X9_goesBack_46, ↓r_X9_goesBack_47, ↓r_X9_goesBack_49, ↓r_X9_goesBack_51, ↓r_X9_goesBack_53, ↓r_X9_goesBack_56, ↓r_X9_goesBack_57, ↓r_X9_goesBack_58, ↓r_X9_goesBack_61, ↓r_X9_goesBack_62, ↓r_X9_goesBack_63, ↓r_X9_goesBack_66, ↓r_X9_goesBack_67, ↓r_X9_goesBack_69, ↓r_X9_goesBack_70, ↓r_X9_goesBack_71, ↓r_X9_goesBack_74, ↓r_X9_goesBack_75, ↓r_X9_goesBack_76, ↓r_X9_goesBack_77, ↓r_X9_goesBack_78, ↓r_X9_goesBack_81, ↓r_X9_goesBack_82, ↓r_X9_goesBack_83, ↓r_X9_goesBack_86, ↓r_X9_goesBack_87, ↓r_X9_goesBack_88, ↓r_X9_goesBack_89, ↓x2_0, ↓f9_27, ↓x0, ↓x1_1, ↓x10, ↓f9_29, ↓x8, ↓x4_2n, ↓x4_2i, ↓x4_2r, ↓x9, ↓x4_3n, ↓x4_3i, ↓x4_3r, ↓f9_4, ↓x1_2, ↓x1_3, ↓x4_4n, ↓x4_4i, ↓x4_4r, ↓x1_4, ↓x32_1, ↓v9_2, ↓x48_4, ↓f9_22, ↓f9_23, ↓f9_24, ↓f9_12, ↓l_249, ↓s_249, ↓l_250, ↓s_250, ↓l_251, ↓s_251, ↓l_252, ↓s_252, ↓l_253, ↓s_253, ↓l_254, ↓s_254, ↓l_255, ↓s_255, ↓l_256, ↓s_256, ↓l_257, ↓s_257, ↓l_258, ↓s_258, ↓l_259, ↓s_259, ↓l_260, ↓s_260, ↓l_261, ↓s_261, ↓l_262, ↓s_262, ↓l_263, ↓s_263, ↓l_264, ↓s_264, ↓l_265, ↓s_265, ↓l_266, ↓s_266, ↓l_267, ↓s_267, ↓l_268, ↓s_268, ↓l_269, ↓s_269, ↓l_270, ↓s_270, ↓l_271, ↓s_271, ↓l_272, ↓s_272, ↓l_273, ↓s_273, ↓l_274, ↓s_274, and_self, and_true, true_and, implies_true, true_implies, Int.reduceEq, Int.reduceLE, Int.reduceLT, not_true_eq_false, not_false_eq_true, false_implies, RTf_eq, ← el, e1]
    refine ⟨fun _ => ?_, fun f => absurd c3 f⟩
    rw [eG]
end
