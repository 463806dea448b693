/-! ===== fading all rows ===== -/
def sm (f : Int → Int) : Nat → Int
  | 0 => 0
  | k + 1 => sm f k + f (k : Int)
theorem sm_congr {f f' : Int → Int} : ∀ n : Nat, (∀ k, 0 ≤ k → k < (n : Int) → f k = f' k) → sm f n = sm f' n := by
  intro n
  induction n with
  | zero => intro _; rfl
  | succ n ih =>
    intro h
    unfold sm
    rw [ih (fun k a b => h k a (by omega)), h n (by omega) (by omega)]
def fdT (M : Mem) (e r : Int) : Vec := fun k => if r / 8 = r % 8 then M (18 + 3 * r) k else fdF (M 0 8) (bs (M (17 + 3 * r) 2)) e (M (18 + 3 * r)) k
def fdC (M : Mem) (e r : Int) : Int := if r / 8 = r % 8 then 0 else cntb (dif (bs (M (17 + 3 * r) 2)) (fdF (M 0 8) (bs (M (17 + 3 * r) 2)) e (M (18 + 3 * r))) (M (18 + 3 * r))) 8
def FI8 (e : Int) (M0 M : Mem) (k : Int) : Prop := (∀ c z, ¬ c = 9 → ¬ c = 10 → ¬ c = 11 → (∀ r, 0 ≤ r → r < k → ¬ c = 18 + 3 * r) → M c z = M0 c z) ∧ (∀ r z, 0 ≤ r → r < k → 0 ≤ z → z < 8 → M (18 + 3 * r) z = fdT M0 e r z)
def fdU (M : Mem) (e r : Int) : Vec := fun k => if r / 8 = r % 8 ∨ cntb (nbm M (r / 8)) 8 ≤ 0 then M 254 (8 * r + k) else fdF (M 248 6) (nbm M (r / 8)) e (getv M 254 (8 * r)) k
def fdD (M : Mem) (e r : Int) : Int := if r / 8 = r % 8 ∨ cntb (nbm M (r / 8)) 8 ≤ 0 then 0 else cntb (dif (nbm M (r / 8)) (fdF (M 248 6) (nbm M (r / 8)) e (getv M 254 (8 * r))) (getv M 254 (8 * r))) 8
def FI9 (e : Int) (M0 M : Mem) (k : Int) : Prop := (∀ c z, ¬ c = 255 → ¬ c = 256 → ¬ c = 257 → ¬ (c = 254 ∧ 0 ≤ z ∧ z < 8 * k) → M c z = M0 c z) ∧ (∀ r z, 0 ≤ r → r < k → 0 ≤ z → z < 8 → M 254 (8 * r + z) = fdU M0 e r z)
section
variable {E : ET} {S : SCR} {M : Mem}
theorem l_fade8 {e : Int} (he : 0 ≤ e ∧ e ≤ 1000) (hf : 0 ≤ M 0 8 ∧ M 0 8 ≤ 100) (hs : ∀ r, 0 ≤ r → r < 64 → 0 ≤ M (17 + 3 * r) 2 ∧ M (17 + 3 * r) 2 < 256) (hsh : ∀ r k, 0 ≤ r → r < 64 → 0 ≤ k → k < 8 → 0 ≤ M (18 + 3 * r) k ∧ M (18 + 3 * r) k ≤ 1000) (hv : ∀ r, 0 ≤ r → r < 64 → RV (bs (M (17 + 3 * r) 2)) (M (18 + 3 * r))) :
    ∀ (n i d : Nat), 8 * i + d + n = 64 → i < 8 → (d < 8 ∨ (d = 8 ∧ i = 7)) → ∀ A : Mem, FI8 e M A ((8 * i + d : Nat) : Int) → ∃ A' : Mem, FI8 e M A' 64 ∧ ∀ {g : GT} {lm : Nat × Nat} {RT : RTy}, RT (some (vi (sm (fdC M e) 64))) (toAH S A') → G E g mi_X8_fade 5 lm RT 23 [some (vr 0), some (vi e), some (vi (sm (fdC M e) (8 * i + d))), some (vi (i : Int)), some (vi (d : Int))] [] (toAH S A) := by
  intro n
  induction n with
  | zero =>
    intro i d hn hi hd A hA
    have h1 : i = 7 ∧ d = 8 := by omega
    obtain ⟨rfl, rfl⟩ := h1
    refine ⟨A, hA, fun {g lm RT} hr => ?_⟩
    refine q_X8_fade_23 400 (lfok E (by omega)) ?_
    simp +contextual (disch := first | omega | exact Nat.le_of_ble_eq_true rfl | assumption) only [↓r_X8_fade_0, ↓r_X8_fade_1, ↓r_X8_fade_4, ↓r_X8_fade_7, ↓r_X8_fade_9, ↓r_X8_fade_10, ↓r_X8_fade_11, ↓r_X8_fade_12, ↓r_X8_fade_13, ↓r_X8_fade_14, ↓r_X8_fade_15, ↓r_X8_fade_17, ↓r_X8_fade_20, ↓r_X8_fade_21, ↓r_X8_fade_23, ↓r_X8_fade_25, ↓r_X8_fade_27, ↓r_X8_fade_30, ↓r_X8_fade_31, ↓r_X8_fade_33, ↓r_X8_fade_36, ↓r_X8_fade_37, ↓r_X8_fade_38, ↓r_X8_fade_39, ↓r_X8_fade_41, ↓r_X8_fade_44, ↓r_X8_fade_45, ↓r_X8_fade_46, ↓r_X8_fade_49, ↓r_X8_fade_50, ↓r_X8_fade_53, ↓r_X8_fade_56, ↓r_X8_fade_57, ↓r_X8_fade_58, ↓r_X8_fade_61, ↓r_X8_fade_64, ↓r_X8_fade_67, ↓r_X8_fade_70, ↓r_X8_fade_71, ↓x1_1, ↓lf_X8_isOfWhole, ↓x31_1, ↓x31b1, ↓x0, ↓x48_0, ↓x4_2n, ↓x4_2i, ↓x4_2r, ↓x4_3n, ↓x4_3i, ↓x4_3r, ↓x1_3, ↓x32_3, ↓x4_4n, ↓x4_4i, ↓x4_4r, ↓x1_4, ↓x32_0, ↓x1_2, ↓x2_0, ↓lf_X8_rowOf, ↓f8_8, ↓f8_2, ↓v5_4, ↓x8, ↓x7_4n, ↓x7_4i, ↓x7_4r, ↓x33, ↓x7_3n, ↓x7_3i, ↓x7_3r, and_self, and_true, true_and, implies_true, true_implies, Int.reduceEq, Int.reduceLE, Int.reduceLT, not_true_eq_false, not_false_eq_true, false_implies, RTf_eq]
    refine ⟨fun _ => ?_, fun q => absurd (by omega) q⟩
    refine q_X8_fade_14 400 (lfok E (by omega)) ?_
    simp +contextual (disch := first | omega | exact Nat.le_of_ble_eq_true rfl | assumption) only [↓r_X8_fade_0, ↓r_X8_fade_1, ↓r_X8_fade_4, ↓r_X8_fade_7, ↓r_X8_fade_9, ↓r_X8_fade_10, ↓r_X8_fade_11, ↓r_X8_fade_12, ↓r_X8_fade_13, ↓r_X8_fade_14, ↓r_X8_fade_15, ↓r_X8_fade_17, ↓r_X8_fade_20, ↓r_X8_fade_21, ↓r_X8_fade_23, ↓r_X8_fade_25, ↓r_X8_fade_27, ↓r_X8_fade_30, ↓r_X8_fade_31, ↓r_X8_fade_33, ↓r_X8_fade_36, ↓r_X8_fade_37, ↓r_X8_fade_38, ↓r_X8_fade_39, ↓r_X8_fade_41, ↓r_X8_fade_44, ↓r_X8_fade_45, ↓r_X8_fade_46, ↓r_X8_fade_49, ↓r_X8_fade_50, ↓r_X8_fade_53, ↓r_X8_fade_56, ↓r_X8_fade_57, ↓r_X8_fade_58, ↓r_X8_fade_61, ↓r_X8_fade_64, ↓r_X8_fade_67, ↓r_X8_fade_70, ↓r_X8_fade_71, ↓x1_1, ↓lf_X8_isOfWhole, ↓x31_1, ↓x31b1, ↓x0, ↓x48_0, ↓x4_2n, ↓x4_2i, ↓x4_2r, ↓x4_3n, ↓x4_3i, ↓x4_3r, ↓x1_3, ↓x32_3, ↓x4_4n, ↓x4_4i, ↓x4_4r, ↓x1_4, ↓x32_0, ↓x1_2, ↓x2_0, ↓lf_X8_rowOf, ↓f8_8, ↓f8_2, ↓v5_4, ↓x8, ↓x7_4n, ↓x7_4i, ↓x7_4r, ↓x33, ↓x7_3n, ↓x7_3i, ↓x7_3r, and_self, and_true, true_and, implies_true, true_implies, Int.reduceEq, Int.reduceLE, Int.reduceLT, not_true_eq_false, not_false_eq_true, false_implies, RTf_eq]
    exact ⟨fun _ => hr, fun q => absurd (by omega) q⟩
  | succ n ih =>
    intro i d hn hi hd A hA
    have hd8 : d < 8 := by omega
    obtain ⟨r, er⟩ : ∃ r : Int, r = (i : Int) * 8 + (d : Int) := ⟨_, rfl⟩
    have er2 : ((8 * i + d : Nat) : Int) = r := by omega
    have hr0 : 0 ≤ r ∧ r < 64 := by omega
    rw [er2] at hA
    have e8 : r / 8 = (i : Int) := by omega
    have e9 : r % 8 = (d : Int) := by omega
    have eS : sm (fdC M e) (8 * i + (d + 1)) = sm (fdC M e) (8 * i + d) + fdC M e r := by
      show sm (fdC M e) (8 * i + d) + fdC M e ((8 * i + d : Nat) : Int) = _
      rw [er2]
    -- the row
    have key : ∃ A1 : Mem, FI8 e M A1 (r + 1) ∧ ∀ {g : GT} {lm : Nat × Nat} {RT : RTy}, G E g mi_X8_fade 5 lm RT 23 [some (vr 0), some (vi e), some (vi (sm (fdC M e) (8 * i + (d + 1)))), some (vi (i : Int)), some (vi (((d + 1 : Nat)) : Int))] [] (toAH S A1) → G E g mi_X8_fade 5 lm RT 23 [some (vr 0), some (vi e), some (vi (sm (fdC M e) (8 * i + d))), some (vi (i : Int)), some (vi (d : Int))] [] (toAH S A) := by
      rw [eS]
      by_cases c : (i : Int) = (d : Int)
      · refine ⟨A, ⟨fun c1 z a1 a2 a3 a4 => hA.1 c1 z a1 a2 a3 (fun r' b1 b2 => a4 r' b1 (by omega)), fun r' z b1 b2 b3 b4 => ?_⟩, fun {g lm RT} hg => ?_⟩
        · by_cases q : r' = r
          · rw [q, hA.1 _ z (by omega) (by omega) (by omega) (fun r'' _ _ => by omega)]
            unfold fdT; rw [if_pos (by omega)]
          · exact hA.2 r' z b1 (by omega) b3 b4
        · rw [show fdC M e r = 0 by unfold fdC; rw [if_pos (by omega)], Int.add_zero] at hg
          refine q_X8_fade_23 400 (lfok E (by omega)) ?_
          simp +contextual (disch := first | omega | exact Nat.le_of_ble_eq_true rfl | assumption) only [↓r_X8_fade_0, ↓r_X8_fade_1, ↓r_X8_fade_4, ↓r_X8_fade_7, ↓r_X8_fade_9, ↓r_X8_fade_10, ↓r_X8_fade_11, ↓r_X8_fade_12, ↓r_X8_fade_13, ↓r_X8_fade_14, ↓r_X8_fade_15, ↓r_X8_fade_17, ↓r_X8_fade_20, ↓r_X8_fade_21, ↓r_X8_fade_23, ↓r_X8_fade_25, ↓r_X8_fade_27, ↓r_X8_fade_30, ↓r_X8_fade_31, ↓r_X8_fade_33, ↓r_X8_fade_36, ↓r_X8_fade_37, ↓r_X8_fade_38, ↓r_X8_fade_39, ↓r_X8_fade_41, ↓r_X8_fade_44, ↓r_X8_fade_45, ↓r_X8_fade_46, ↓r_X8_fade_49, ↓r_X8_fade_50, ↓r_X8_fade_53, ↓r_X8_fade_56, ↓r_X8_fade_57, ↓r_X8_fade_58, ↓r_X8_fade_61, ↓r_X8_fade_64, ↓r_X8_fade_67, ↓r_X8_fade_70, ↓r_X8_fade_71, ↓x1_1, ↓lf_X8_isOfWhole, ↓x31_1, ↓x31b1, ↓x0, ↓x48_0, ↓x4_2n, ↓x4_2i, ↓x4_2r, ↓x4_3n, ↓x4_3i, ↓x4_3r, ↓x1_3, ↓x32_3, ↓x4_4n, ↓x4_4i, ↓x4_4r, ↓x1_4, ↓x32_0, ↓x1_2, ↓x2_0, ↓lf_X8_rowOf, ↓f8_8, ↓f8_2, ↓v5_4, ↓x8, ↓x7_4n, ↓x7_4i, ↓x7_4r, ↓x33, ↓x7_3n, ↓x7_3i, ↓x7_3r, and_self, and_true, true_and, implies_true, true_implies, Int.reduceEq, Int.reduceLE, Int.reduceLT, not_true_eq_false, not_false_eq_true, false_implies, RTf_eq]
          refine ⟨fun q => by omega, fun _ => ⟨fun _ => ?_, fun q => absurd c q⟩⟩
          have hid : i = d := by omega
          subst hid
          exact hg
      · have o2 : A (17 + 3 * r) 2 = M (17 + 3 * r) 2 := hA.1 _ _ (by omega) (by omega) (by omega) (fun r' _ _ => by omega)
        have o8 : A 0 8 = M 0 8 := hA.1 _ _ (by omega) (by omega) (by omega) (fun r' _ _ => by omega)
        have o18 : A (18 + 3 * r) = M (18 + 3 * r) := by funext z; exact hA.1 _ _ (by omega) (by omega) (by omega) (fun r' _ _ => by omega)
        obtain ⟨b', p', w', cF⟩ := c_fadeC (E := E) (S := S) (M := A) (r := r) (e := e) (fl := M 0 8) (m := bs (M (17 + 3 * r) 2)) (v := M (18 + 3 * r)) (by rw [o2]) (by rw [o18]) hr0 (by rw [o2]; exact hs r hr0.1 hr0.2) he hf (fun j a b => hsh r j hr0.1 hr0.2 a b) (hv r hr0.1 hr0.2)
        rw [show cntb (dif (bs (M (17 + 3 * r) 2)) (fdF (M 0 8) (bs (M (17 + 3 * r) 2)) e (M (18 + 3 * r))) (M (18 + 3 * r))) 8 = fdC M e r by unfold fdC; rw [if_neg (by omega)]] at cF
        obtain ⟨A1, eA1⟩ : ∃ A1, A1 = putv (putv (putv (putv A 10 0 b') 9 0 p') 11 0 w') (18 + 3 * r) 0 (fdF (M 0 8) (bs (M (17 + 3 * r) 2)) e (M (18 + 3 * r))) := ⟨_, rfl⟩
        rw [← eA1] at cF
        refine ⟨A1, ⟨fun c1 z a1 a2 a3 a4 => ?_, fun r' z b1 b2 b3 b4 => ?_⟩, fun {g lm RT} hg => ?_⟩
        · rw [eA1, putv_ne (a4 r hr0.1 (by omega)), putv_ne a3, putv_ne a1, putv_ne a2]
          exact hA.1 c1 z a1 a2 a3 (fun r' b1 b2 => a4 r' b1 (by omega))
        · by_cases q : r' = r
          · rw [q, eA1, putv_at0 b3 b4]
            unfold fdT; rw [if_neg (by omega)]
          · rw [eA1, putv_ne (by omega), putv_ne (by omega), putv_ne (by omega), putv_ne (by omega)]
            exact hA.2 r' z b1 (by omega) b3 b4
        · refine q_X8_fade_23 400 (lfok E (by omega)) ?_
          simp +contextual (disch := first | omega | exact Nat.le_of_ble_eq_true rfl | assumption) only [↓r_X8_fade_0, ↓r_X8_fade_1, ↓r_X8_fade_4, ↓r_X8_fade_7, ↓r_X8_fade_9, ↓r_X8_fade_10, ↓r_X8_fade_11, ↓r_X8_fade_12, ↓r_X8_fade_13, ↓r_X8_fade_14, ↓r_X8_fade_15, ↓r_X8_fade_17, ↓r_X8_fade_20, ↓r_X8_fade_21, ↓r_X8_fade_23, ↓r_X8_fade_25, ↓r_X8_fade_27, ↓r_X8_fade_30, ↓r_X8_fade_31, ↓r_X8_fade_33, ↓r_X8_fade_36, ↓r_X8_fade_37, ↓r_X8_fade_38, ↓r_X8_fade_39, ↓r_X8_fade_41, ↓r_X8_fade_44, ↓r_X8_fade_45, ↓r_X8_fade_46, ↓r_X8_fade_49, ↓r_X8_fade_50, ↓r_X8_fade_53, ↓r_X8_fade_56, ↓r_X8_fade_57, ↓r_X8_fade_58, ↓r_X8_fade_61, ↓r_X8_fade_64, ↓r_X8_fade_67, ↓r_X8_fade_70, ↓r_X8_fade_71, ↓x1_1, ↓lf_X8_isOfWhole, ↓x31_1, ↓x31b1, ↓x0, ↓x48_0, ↓x4_2n, ↓x4_2i, ↓x4_2r, ↓x4_3n, ↓x4_3i, ↓x4_3r, ↓x1_3, ↓x32_3, ↓x4_4n, ↓x4_4i, ↓x4_4r, ↓x1_4, ↓x32_0, ↓x1_2, ↓x2_0, ↓lf_X8_rowOf, ↓f8_8, ↓f8_2, ↓v5_4, ↓x8, ↓x7_4n, ↓x7_4i, ↓x7_4r, ↓x33, ↓x7_3n, ↓x7_3i, ↓x7_3r, and_self, and_true, true_and, implies_true, true_implies, Int.reduceEq, Int.reduceLE, Int.reduceLT, not_true_eq_false, not_false_eq_true, false_implies, RTf_eq, ← er, o8]
          refine ⟨fun q => by omega, fun _ => ⟨fun q => absurd q c, fun _ => ?_⟩⟩
          refine ck_r cF (by omega) (by simp) ?_
          simp +contextual (disch := first | omega | exact Nat.le_of_ble_eq_true rfl | assumption) only [↓r_X8_fade_0, ↓r_X8_fade_1, ↓r_X8_fade_4, ↓r_X8_fade_7, ↓r_X8_fade_9, ↓r_X8_fade_10, ↓r_X8_fade_11, ↓r_X8_fade_12, ↓r_X8_fade_13, ↓r_X8_fade_14, ↓r_X8_fade_15, ↓r_X8_fade_17, ↓r_X8_fade_20, ↓r_X8_fade_21, ↓r_X8_fade_23, ↓r_X8_fade_25, ↓r_X8_fade_27, ↓r_X8_fade_30, ↓r_X8_fade_31, ↓r_X8_fade_33, ↓r_X8_fade_36, ↓r_X8_fade_37, ↓r_X8_fade_38, ↓r_X8_fade_39, ↓r_X8_fade_41, ↓r_X8_fade_44, ↓r_X8_fade_45, ↓r_X8_fade_46, ↓r_X8_fade_49, ↓r_X8_fade_50, ↓r_X8_fade_53, ↓r_X8_fade_56, ↓r_X8_fade_57, ↓r_X8_fade_58, ↓r_X8_fade_61, ↓r_X8_fade_64, ↓r_X8_fade_67, ↓r_X8_fade_70, ↓r_X8_fade_71, ↓x1_1, ↓lf_X8_isOfWhole, ↓x31_1, ↓x31b1, ↓x0, ↓x48_0, ↓x4_2n, ↓x4_2i, ↓x4_2r, ↓x4_3n, ↓x4_3i, ↓x4_3r, ↓x1_3, ↓x32_3, ↓x4_4n, ↓x4_4i, ↓x4_4r, ↓x1_4, ↓x32_0, ↓x1_2, ↓x2_0, ↓lf_X8_rowOf, ↓f8_8, ↓f8_2, ↓v5_4, ↓x8, ↓x7_4n, ↓x7_4i, ↓x7_4r, ↓x33, ↓x7_3n, ↓x7_3i, ↓x7_3r, and_self, and_true, true_and, implies_true, true_implies, Int.reduceEq, Int.reduceLE, Int.reduceLT, not_true_eq_false, not_false_eq_true, false_implies, RTf_eq]
          exact hg
    obtain ⟨A1, hA1, hG⟩ := key
    by_cases c : d + 1 < 8 ∨ i = 7
    · obtain ⟨A', hA', hl⟩ := ih i (d + 1) (by omega) hi (by omega) A1 (by rw [show ((8 * i + (d + 1) : Nat) : Int) = r + 1 by omega]; exact hA1)
      exact ⟨A', hA', fun {g lm RT} hr => hG (hl hr)⟩
    · obtain ⟨A', hA', hl⟩ := ih (i + 1) 0 (by omega) (by omega) (by omega) A1 (by rw [show ((8 * (i + 1) + 0 : Nat) : Int) = r + 1 by omega]; exact hA1)
      refine ⟨A', hA', fun {g lm RT} hr => hG ?_⟩
      have h3 := hl (g := g) (lm := lm) (RT := RT) hr
      rw [show 8 * (i + 1) + 0 = 8 * i + (d + 1) by omega] at h3
      refine q_X8_fade_23 400 (lfok E (by omega)) ?_
      simp +contextual (disch := first | omega | exact Nat.le_of_ble_eq_true rfl | assumption) only [↓r_X8_fade_0, ↓r_X8_fade_1, ↓r_X8_fade_4, ↓r_X8_fade_7, ↓r_X8_fade_9, ↓r_X8_fade_10, ↓r_X8_fade_11, ↓r_X8_fade_12, ↓r_X8_fade_13, ↓r_X8_fade_14, ↓r_X8_fade_15, ↓r_X8_fade_17, ↓r_X8_fade_20, ↓r_X8_fade_21, ↓r_X8_fade_23, ↓r_X8_fade_25, ↓r_X8_fade_27, ↓r_X8_fade_30, ↓r_X8_fade_31, ↓r_X8_fade_33, ↓r_X8_fade_36, ↓r_X8_fade_37, ↓r_X8_fade_38, ↓r_X8_fade_39, ↓r_X8_fade_41, ↓r_X8_fade_44, ↓r_X8_fade_45, ↓r_X8_fade_46, ↓r_X8_fade_49, ↓r_X8_fade_50, ↓r_X8_fade_53, ↓r_X8_fade_56, ↓r_X8_fade_57, ↓r_X8_fade_58, ↓r_X8_fade_61, ↓r_X8_fade_64, ↓r_X8_fade_67, ↓r_X8_fade_70, ↓r_X8_fade_71, ↓x1_1, ↓lf_X8_isOfWhole, ↓x31_1, ↓x31b1, ↓x0, ↓x48_0, ↓x4_2n, ↓x4_2i, ↓x4_2r, ↓x4_3n, ↓x4_3i, ↓x4_3r, ↓x1_3, ↓x32_3, ↓x4_4n, ↓x4_4i, ↓x4_4r, ↓x1_4, ↓x32_0, ↓x1_2, ↓x2_0, ↓lf_X8_rowOf, ↓f8_8, ↓f8_2, ↓v5_4, ↓x8, ↓x7_4n, ↓x7_4i, ↓x7_4r, ↓x33, ↓x7_3n, ↓x7_3i, ↓x7_3r, and_self, and_true, true_and, implies_true, true_implies, Int.reduceEq, Int.reduceLE, Int.reduceLT, not_true_eq_false, not_false_eq_true, false_implies, RTf_eq]
      refine ⟨fun _ => ?_, fun q => absurd (by omega) q⟩
      refine q_X8_fade_14 400 (lfok E (by omega)) ?_
      simp +contextual (disch := first | omega | exact Nat.le_of_ble_eq_true rfl | assumption) only [↓r_X8_fade_0, ↓r_X8_fade_1, ↓r_X8_fade_4, ↓r_X8_fade_7, ↓r_X8_fade_9, ↓r_X8_fade_10, ↓r_X8_fade_11, ↓r_X8_fade_12, ↓r_X8_fade_13, ↓r_X8_fade_14, ↓r_X8_fade_15, ↓r_X8_fade_17, ↓r_X8_fade_20, ↓r_X8_fade_21, ↓r_X8_fade_23, ↓r_X8_fade_25, ↓r_X8_fade_27, ↓r_X8_fade_30, ↓r_X8_fade_31, ↓r_X8_fade_33, ↓r_X8_fade_36, ↓r_X8_fade_37, ↓r_X8_fade_38, ↓r_X8_fade_39, ↓r_X8_fade_41, ↓r_X8_fade_44, ↓r_X8_fade_45, ↓r_X8_fade_46, ↓r_X8_fade_49, ↓r_X8_fade_50, ↓r_X8_fade_53, ↓r_X8_fade_56, ↓r_X8_fade_57, ↓r_X8_fade_58, ↓r_X8_fade_61, ↓r_X8_fade_64, ↓r_X8_fade_67, ↓r_X8_fade_70, ↓r_X8_fade_71, ↓x1_1, ↓lf_X8_isOfWhole, ↓x31_1, ↓x31b1, ↓x0, ↓x48_0, ↓x4_2n, ↓x4_2i, ↓x4_2r, ↓x4_3n, ↓x4_3i, ↓x4_3r, ↓x1_3, ↓x32_3, ↓x4_4n, ↓x4_4i, ↓x4_4r, ↓x1_4, ↓x32_0, ↓x1_2, ↓x2_0, ↓lf_X8_rowOf, ↓f8_8, ↓f8_2, ↓v5_4, ↓x8, ↓x7_4n, ↓x7_4i, ↓x7_4r, ↓x33, ↓x7_3n, ↓x7_3i, ↓x7_3r, and_self, and_true, true_and, implies_true, true_implies, Int.reduceEq, Int.reduceLE, Int.reduceLT, not_true_eq_false, not_false_eq_true, false_implies, RTf_eq]
      exact ⟨fun q => by omega, fun _ => h3⟩
theorem c_fade8 {e : Int} (hre : rg e) (hf : 0 ≤ M 0 8 ∧ M 0 8 ≤ 100) (hs : ∀ r, 0 ≤ r → r < 64 → 0 ≤ M (17 + 3 * r) 2 ∧ M (17 + 3 * r) 2 < 256) (hsh : ∀ r k, 0 ≤ r → r < 64 → 0 ≤ k → k < 8 → 0 ≤ M (18 + 3 * r) k ∧ M (18 + 3 * r) k ≤ 1000) (hv : ∀ r, 0 ≤ r → r < 64 → RV (bs (M (17 + 3 * r) 2)) (M (18 + 3 * r))) :
    ∃ A' : Mem, Ctr E 5 52 [vr 0, vi e] (toAH S M) (some (vi (if 0 ≤ e ∧ e ≤ 1000 then sm (fdC M e) 64 else -2))) (toAH S A') ∧ (if 0 ≤ e ∧ e ≤ 1000 then FI8 e M A' 64 else A' = M) := by
  by_cases he : 0 ≤ e ∧ e ≤ 1000
  · have a1 : b2 (0 ≤ e ∧ e ≤ 1000) = 1 := by simp [b2, he]
    obtain ⟨A', hA', hl⟩ := l_fade8 (E := E) (S := S) (M := M) he hf hs hsh hv 64 0 0 (by omega) (by omega) (by omega) M ⟨fun c z _ _ _ _ => rfl, fun r z h1 h2 => absurd h2 (by show ¬ r < ((8 * 0 + 0 : Nat) : Int); omega)⟩
    refine ⟨A', ?_, by rw [if_pos he]; exact hA'⟩
    rw [if_pos he]
    refine Ctr_f mi_X8_fade mo_X8_fade (Nat.le_of_ble_eq_true rfl) ⟨Nat.le_refl _, Nat.le_refl _⟩ (fun g lm => ?_)
    rw [show entL mi_X8_fade.2.2.1 [vr 0, vi e] = [some (vr 0), some (vi e), none, none, none] from rfl]
    refine e_X8_fade 400 (lfok E (by omega)) ?_
    simp +contextual (disch := first | omega | exact Nat.le_of_ble_eq_true rfl | assumption) only [↓r_X8_fade_0, ↓r_X8_fade_1, ↓r_X8_fade_4, ↓r_X8_fade_7, ↓r_X8_fade_9, ↓r_X8_fade_10, ↓r_X8_fade_11, ↓r_X8_fade_12, ↓r_X8_fade_13, ↓r_X8_fade_14, ↓r_X8_fade_15, ↓r_X8_fade_17, ↓r_X8_fade_20, ↓r_X8_fade_21, ↓r_X8_fade_23, ↓r_X8_fade_25, ↓r_X8_fade_27, ↓r_X8_fade_30, ↓r_X8_fade_31, ↓r_X8_fade_33, ↓r_X8_fade_36, ↓r_X8_fade_37, ↓r_X8_fade_38, ↓r_X8_fade_39, ↓r_X8_fade_41, ↓r_X8_fade_44, ↓r_X8_fade_45, ↓r_X8_fade_46, ↓r_X8_fade_49, ↓r_X8_fade_50, ↓r_X8_fade_53, ↓r_X8_fade_56, ↓r_X8_fade_57, ↓r_X8_fade_58, ↓r_X8_fade_61, ↓r_X8_fade_64, ↓r_X8_fade_67, ↓r_X8_fade_70, ↓r_X8_fade_71, ↓x1_1, ↓lf_X8_isOfWhole, ↓x31_1, ↓x31b1, ↓x0, ↓x48_0, ↓x4_2n, ↓x4_2i, ↓x4_2r, ↓x4_3n, ↓x4_3i, ↓x4_3r, ↓x1_3, ↓x32_3, ↓x4_4n, ↓x4_4i, ↓x4_4r, ↓x1_4, ↓x32_0, ↓x1_2, ↓x2_0, ↓lf_X8_rowOf, ↓f8_8, ↓f8_2, ↓v5_4, ↓x8, ↓x7_4n, ↓x7_4i, ↓x7_4r, ↓x33, ↓x7_3n, ↓x7_3i, ↓x7_3r, and_self, and_true, true_and, implies_true, true_implies, Int.reduceEq, Int.reduceLE, Int.reduceLT, not_true_eq_false, not_false_eq_true, false_implies, RTf_eq, a1]
    refine q_X8_fade_14 400 (lfok E (by omega)) ?_
    simp +contextual (disch := first | omega | exact Nat.le_of_ble_eq_true rfl | assumption) only [↓r_X8_fade_0, ↓r_X8_fade_1, ↓r_X8_fade_4, ↓r_X8_fade_7, ↓r_X8_fade_9, ↓r_X8_fade_10, ↓r_X8_fade_11, ↓r_X8_fade_12, ↓r_X8_fade_13, ↓r_X8_fade_14, ↓r_X8_fade_15, ↓r_X8_fade_17, ↓r_X8_fade_20, ↓r_X8_fade_21, ↓r_X8_fade_23, ↓r_X8_fade_25, ↓r_X8_fade_27, ↓r_X8_fade_30, ↓r_X8_fade_31, ↓r_X8_fade_33, ↓r_X8_fade_36, ↓r_X8_fade_37, ↓r_X8_fade_38, ↓r_X8_fade_39, ↓r_X8_fade_41, ↓r_X8_fade_44, ↓r_X8_fade_45, ↓r_X8_fade_46, ↓r_X8_fade_49, ↓r_X8_fade_50, ↓r_X8_fade_53, ↓r_X8_fade_56, ↓r_X8_fade_57, ↓r_X8_fade_58, ↓r_X8_fade_61, ↓r_X8_fade_64, ↓r_X8_fade_67, ↓r_X8_fade_70, ↓r_X8_fade_71, ↓x1_1, ↓lf_X8_isOfWhole, ↓x31_1, ↓x31b1, ↓x0, ↓x48_0, ↓x4_2n, ↓x4_2i, ↓x4_2r, ↓x4_3n, ↓x4_3i, ↓x4_3r, ↓x1_3, ↓x32_3, ↓x4_4n, ↓x4_4i, ↓x4_4r, ↓x1_4, ↓x32_0, ↓x1_2, ↓x2_0, ↓lf_X8_rowOf, ↓f8_8, ↓f8_2, ↓v5_4, ↓x8, ↓x7_4n, ↓x7_4i, ↓x7_4r, ↓x33, ↓x7_3n, ↓x7_3i, ↓x7_3r, and_self, and_true, true_and, implies_true, true_implies, Int.reduceEq, Int.reduceLE, Int.reduceLT, not_true_eq_false, not_false_eq_true, false_implies, RTf_eq]
    exact hl ⟨rfl, rfl⟩
  · have a1 : b2 (0 ≤ e ∧ e ≤ 1000) = 0 := by simp [b2, he]
    refine ⟨M, ?_, by rw [if_neg he]⟩
    rw [if_neg he]
    refine Ctr_f mi_X8_fade mo_X8_fade (Nat.le_of_ble_eq_true rfl) ⟨Nat.le_refl _, Nat.le_refl _⟩ (fun g lm => ?_)
    rw [show entL mi_X8_fade.2.2.1 [vr 0, vi e] = [some (vr 0), some (vi e), none, none, none] from rfl]
    refine e_X8_fade 400 (lfok E (by omega)) ?_
    simp +contextual (disch := first | omega | exact Nat.le_of_ble_eq_true rfl | assumption) only [↓r_X8_fade_0, ↓r_X8_fade_1, ↓r_X8_fade_4, ↓r_X8_fade_7, ↓r_X8_fade_9, ↓r_X8_fade_10, ↓r_X8_fade_11, ↓r_X8_fade_12, ↓r_X8_fade_13, ↓r_X8_fade_14, ↓r_X8_fade_15, ↓r_X8_fade_17, ↓r_X8_fade_20, ↓r_X8_fade_21, ↓r_X8_fade_23, ↓r_X8_fade_25, ↓r_X8_fade_27, ↓r_X8_fade_30, ↓r_X8_fade_31, ↓r_X8_fade_33, ↓r_X8_fade_36, ↓r_X8_fade_37, ↓r_X8_fade_38, ↓r_X8_fade_39, ↓r_X8_fade_41, ↓r_X8_fade_44, ↓r_X8_fade_45, ↓r_X8_fade_46, ↓r_X8_fade_49, ↓r_X8_fade_50, ↓r_X8_fade_53, ↓r_X8_fade_56, ↓r_X8_fade_57, ↓r_X8_fade_58, ↓r_X8_fade_61, ↓r_X8_fade_64, ↓r_X8_fade_67, ↓r_X8_fade_70, ↓r_X8_fade_71, ↓x1_1, ↓lf_X8_isOfWhole, ↓x31_1, ↓x31b1, ↓x0, ↓x48_0, ↓x4_2n, ↓x4_2i, ↓x4_2r, ↓x4_3n, ↓x4_3i, ↓x4_3r, ↓x1_3, ↓x32_3, ↓x4_4n, ↓x4_4i, ↓x4_4r, ↓x1_4, ↓x32_0, ↓x1_2, ↓x2_0, ↓lf_X8_rowOf, ↓f8_8, ↓f8_2, ↓v5_4, ↓x8, ↓x7_4n, ↓x7_4i, ↓x7_4r, ↓x33, ↓x7_3n, ↓x7_3i, ↓x7_3r, and_self, and_true, true_and, implies_true, true_implies, Int.reduceEq, Int.reduceLE, Int.reduceLT, not_true_eq_false, not_false_eq_true, false_implies, RTf_eq, a1]
theorem l_fade9 {e : Int} (he : 0 ≤ e ∧ e ≤ 1000) (hf : 0 ≤ M 248 6 ∧ M 248 6 ≤ 100) (hM : ∀ z, 0 ≤ z → z < 64 → rg (M 253 z)) (hsh : ∀ z, 0 ≤ z → z < 512 → 0 ≤ M 254 z ∧ M 254 z ≤ 1000) (hv : ∀ r, 0 ≤ r → r < 64 → RV (nbm M (r / 8)) (getv M 254 (8 * r))) :
    ∀ (n k : Nat), k + n = 64 → ∀ A : Mem, FI9 e M A (k : Int) → ∃ A' : Mem, FI9 e M A' 64 ∧ ∀ {g : GT} {lm : Nat × Nat} {RT : RTy} {a4 : Option AV}, RT (some (vi (sm (fdD M e) 64))) (toAH S A') → G E g mi_X9_fade 5 lm RT 18 [some (vr 248), some (vi e), some (vi (sm (fdD M e) k)), some (vi (k : Int)), a4] [] (toAH S A) := by
  intro n
  induction n with
  | zero =>
    intro k hk A hA
    have h1 : k = 64 := by omega
    subst h1
    refine ⟨A, hA, fun {g lm RT a4} hr => ?_⟩
    refine q_X9_fade_18 400 (lfok E (by omega)) ?_
    simp +contextual (disch := first | omega | exact Nat.le_of_ble_eq_true rfl | assumption) only [↓r_X9_fade_0, ↓r_X9_fade_1, ↓r_X9_fade_2, ↓r_X9_fade_5, ↓r_X9_fade_8, ↓r_X9_fade_11, ↓r_X9_fade_13, ↓r_X9_fade_14, ↓r_X9_fade_15, ↓r_X9_fade_16, ↓r_X9_fade_17, ↓r_X9_fade_18, ↓r_X9_fade_19, ↓r_X9_fade_21, ↓r_X9_fade_24, ↓r_X9_fade_25, ↓r_X9_fade_27, ↓r_X9_fade_28, ↓r_X9_fade_30, ↓r_X9_fade_32, ↓r_X9_fade_33, ↓r_X9_fade_35, ↓r_X9_fade_36, ↓r_X9_fade_39, ↓r_X9_fade_40, ↓r_X9_fade_42, ↓r_X9_fade_45, ↓r_X9_fade_48, ↓r_X9_fade_49, ↓r_X9_fade_50, ↓r_X9_fade_52, ↓r_X9_fade_54, ↓r_X9_fade_55, ↓r_X9_fade_56, ↓r_X9_fade_57, ↓r_X9_fade_60, ↓r_X9_fade_61, ↓r_X9_fade_62, ↓r_X9_fade_65, ↓r_X9_fade_68, ↓r_X9_fade_69, ↓x1_1, ↓x0, ↓lf_X9_within, ↓x31_1, ↓x31b1, ↓x48_0, ↓x4_2n, ↓x4_2i, ↓x4_2r, ↓x4_3n, ↓x4_3i, ↓x4_3r, ↓x1_3, ↓x32_3, ↓x11, ↓x4_4n, ↓x4_4i, ↓x4_4r, ↓x1_4, ↓x12, ↓x32_0, ↓x2_0, ↓v9_2, ↓x31_5, ↓x1_2, ↓x10, ↓v9_4, ↓x8, ↓x7_3n, ↓x7_3i, ↓x7_3r, ↓x33, and_self, and_true, true_and, implies_true, true_implies, Int.reduceEq, Int.reduceLE, Int.reduceLT, not_true_eq_false, not_false_eq_true, false_implies, RTf_eq]
    exact ⟨fun _ => hr, fun q => absurd (by omega) q⟩
  | succ n ih =>
    intro k hk A hA
    have eS : sm (fdD M e) (k + 1) = sm (fdD M e) k + fdD M e (k : Int) := rfl
    have oN : nbm A ((k : Int) / 8) = nbm M ((k : Int) / 8) := by funext z; unfold nbm; rw [hA.1 _ _ (by omega) (by omega) (by omega) (by omega)]
    have o8 : A 248 6 = M 248 6 := hA.1 _ _ (by omega) (by omega) (by omega) (by omega)
    have oM : ∀ z, 0 ≤ z → z < 64 → rg (A 253 z) := fun z a b => by rw [hA.1 _ _ (by omega) (by omega) (by omega) (by omega)]; exact hM z a b
    have oV : getv A 254 (8 * (k : Int)) = getv M 254 (8 * (k : Int)) ∨ True := Or.inr trivial
    have oW : ∀ z, 0 ≤ z → z < 8 → A 254 (8 * (k : Int) + z) = M 254 (8 * (k : Int) + z) := fun z a b => hA.1 _ _ (by omega) (by omega) (by omega) (by omega)
    have cN := c_manyNext (E := E) (S := S) (M := A) (i := (k : Int) / 8) (by omega) oM
    rw [oN] at cN
    have cr := cntb_rng (nbm M ((k : Int) / 8)) 8
    have ec : (((k + 1 : Nat)) : Int) = (k : Int) + 1 := by omega
    by_cases c : (k : Int) / 8 = (k : Int) % 8
    · obtain ⟨A', hA', hl⟩ := ih (k + 1) (by omega) A ⟨fun c1 z a1 a2 a3 a4 => hA.1 c1 z a1 a2 a3 (by omega), fun r z b1 b2 b3 b4 => by
        by_cases q : r = (k : Int)
        · rw [q, oW z b3 b4]; unfold fdU; rw [if_pos (Or.inl c)]
        · exact hA.2 r z b1 (by omega) b3 b4⟩
      refine ⟨A', hA', fun {g lm RT a4} hr => ?_⟩
      have h3 := hl (g := g) (lm := lm) (RT := RT) (a4 := some (vi ((k : Int) / 8))) hr
      rw [eS, show fdD M e (k : Int) = 0 by unfold fdD; rw [if_pos (Or.inl c)], Int.add_zero] at h3
      refine q_X9_fade_18 400 (lfok E (by omega)) ?_
      simp +contextual (disch := first | omega | exact Nat.le_of_ble_eq_true rfl | assumption) only [↓r_X9_fade_0, ↓r_X9_fade_1, ↓r_X9_fade_2, ↓r_X9_fade_5, ↓r_X9_fade_8, ↓r_X9_fade_11, ↓r_X9_fade_13, ↓r_X9_fade_14, ↓r_X9_fade_15, ↓r_X9_fade_16, ↓r_X9_fade_17, ↓r_X9_fade_18, ↓r_X9_fade_19, ↓r_X9_fade_21, ↓r_X9_fade_24, ↓r_X9_fade_25, ↓r_X9_fade_27, ↓r_X9_fade_28, ↓r_X9_fade_30, ↓r_X9_fade_32, ↓r_X9_fade_33, ↓r_X9_fade_35, ↓r_X9_fade_36, ↓r_X9_fade_39, ↓r_X9_fade_40, ↓r_X9_fade_42, ↓r_X9_fade_45, ↓r_X9_fade_48, ↓r_X9_fade_49, ↓r_X9_fade_50, ↓r_X9_fade_52, ↓r_X9_fade_54, ↓r_X9_fade_55, ↓r_X9_fade_56, ↓r_X9_fade_57, ↓r_X9_fade_60, ↓r_X9_fade_61, ↓r_X9_fade_62, ↓r_X9_fade_65, ↓r_X9_fade_68, ↓r_X9_fade_69, ↓x1_1, ↓x0, ↓lf_X9_within, ↓x31_1, ↓x31b1, ↓x48_0, ↓x4_2n, ↓x4_2i, ↓x4_2r, ↓x4_3n, ↓x4_3i, ↓x4_3r, ↓x1_3, ↓x32_3, ↓x11, ↓x4_4n, ↓x4_4i, ↓x4_4r, ↓x1_4, ↓x12, ↓x32_0, ↓x2_0, ↓v9_2, ↓x31_5, ↓x1_2, ↓x10, ↓v9_4, ↓x8, ↓x7_3n, ↓x7_3i, ↓x7_3r, ↓x33, and_self, and_true, true_and, implies_true, true_implies, Int.reduceEq, Int.reduceLE, Int.reduceLT, not_true_eq_false, not_false_eq_true, false_implies, RTf_eq]
      rw [c] at h3
      exact ⟨fun q => by omega, fun _ => ⟨fun _ => h3, fun q => absurd c q⟩⟩
    · by_cases c2 : cntb (nbm M ((k : Int) / 8)) 8 ≤ 0
      · obtain ⟨A', hA', hl⟩ := ih (k + 1) (by omega) A ⟨fun c1 z a1 a2 a3 a4 => hA.1 c1 z a1 a2 a3 (by omega), fun r z b1 b2 b3 b4 => by
          by_cases q : r = (k : Int)
          · rw [q, oW z b3 b4]; unfold fdU; rw [if_pos (Or.inr c2)]
          · exact hA.2 r z b1 (by omega) b3 b4⟩
        refine ⟨A', hA', fun {g lm RT a4} hr => ?_⟩
        have h3 := hl (g := g) (lm := lm) (RT := RT) (a4 := some (vi ((k : Int) / 8))) hr
        rw [eS, show fdD M e (k : Int) = 0 by unfold fdD; rw [if_pos (Or.inr c2)], Int.add_zero] at h3
        refine q_X9_fade_18 400 (lfok E (by omega)) ?_
        simp +contextual (disch := first | omega | exact Nat.le_of_ble_eq_true rfl | assumption) only [↓r_X9_fade_0, ↓r_X9_fade_1, ↓r_X9_fade_2, ↓r_X9_fade_5, ↓r_X9_fade_8, ↓r_X9_fade_11, ↓r_X9_fade_13, ↓r_X9_fade_14, ↓r_X9_fade_15, ↓r_X9_fade_16, ↓r_X9_fade_17, ↓r_X9_fade_18, ↓r_X9_fade_19, ↓r_X9_fade_21, ↓r_X9_fade_24, ↓r_X9_fade_25, ↓r_X9_fade_27, ↓r_X9_fade_28, ↓r_X9_fade_30, ↓r_X9_fade_32, ↓r_X9_fade_33, ↓r_X9_fade_35, ↓r_X9_fade_36, ↓r_X9_fade_39, ↓r_X9_fade_40, ↓r_X9_fade_42, ↓r_X9_fade_45, ↓r_X9_fade_48, ↓r_X9_fade_49, ↓r_X9_fade_50, ↓r_X9_fade_52, ↓r_X9_fade_54, ↓r_X9_fade_55, ↓r_X9_fade_56, ↓r_X9_fade_57, ↓r_X9_fade_60, ↓r_X9_fade_61, ↓r_X9_fade_62, ↓r_X9_fade_65, ↓r_X9_fade_68, ↓r_X9_fade_69, ↓x1_1, ↓x0, ↓lf_X9_within, ↓x31_1, ↓x31b1, ↓x48_0, ↓x4_2n, ↓x4_2i, ↓x4_2r, ↓x4_3n, ↓x4_3i, ↓x4_3r, ↓x1_3, ↓x32_3, ↓x11, ↓x4_4n, ↓x4_4i, ↓x4_4r, ↓x1_4, ↓x12, ↓x32_0, ↓x2_0, ↓v9_2, ↓x31_5, ↓x1_2, ↓x10, ↓v9_4, ↓x8, ↓x7_3n, ↓x7_3i, ↓x7_3r, ↓x33, and_self, and_true, true_and, implies_true, true_implies, Int.reduceEq, Int.reduceLE, Int.reduceLT, not_true_eq_false, not_false_eq_true, false_implies, RTf_eq]
        refine ⟨fun q => by omega, fun _ => ⟨fun q => absurd q c, fun _ => ?_⟩⟩
        refine ck_r cN (by omega) (by simp) ?_
        simp +contextual (disch := first | omega | exact Nat.le_of_ble_eq_true rfl | assumption) only [↓r_X9_fade_0, ↓r_X9_fade_1, ↓r_X9_fade_2, ↓r_X9_fade_5, ↓r_X9_fade_8, ↓r_X9_fade_11, ↓r_X9_fade_13, ↓r_X9_fade_14, ↓r_X9_fade_15, ↓r_X9_fade_16, ↓r_X9_fade_17, ↓r_X9_fade_18, ↓r_X9_fade_19, ↓r_X9_fade_21, ↓r_X9_fade_24, ↓r_X9_fade_25, ↓r_X9_fade_27, ↓r_X9_fade_28, ↓r_X9_fade_30, ↓r_X9_fade_32, ↓r_X9_fade_33, ↓r_X9_fade_35, ↓r_X9_fade_36, ↓r_X9_fade_39, ↓r_X9_fade_40, ↓r_X9_fade_42, ↓r_X9_fade_45, ↓r_X9_fade_48, ↓r_X9_fade_49, ↓r_X9_fade_50, ↓r_X9_fade_52, ↓r_X9_fade_54, ↓r_X9_fade_55, ↓r_X9_fade_56, ↓r_X9_fade_57, ↓r_X9_fade_60, ↓r_X9_fade_61, ↓r_X9_fade_62, ↓r_X9_fade_65, ↓r_X9_fade_68, ↓r_X9_fade_69, ↓x1_1, ↓x0, ↓lf_X9_within, ↓x31_1, ↓x31b1, ↓x48_0, ↓x4_2n, ↓x4_2i, ↓x4_2r, ↓x4_3n, ↓x4_3i, ↓x4_3r, ↓x1_3, ↓x32_3, ↓x11, ↓x4_4n, ↓x4_4i, ↓x4_4r, ↓x1_4, ↓x12, ↓x32_0, ↓x2_0, ↓v9_2, ↓x31_5, ↓x1_2, ↓x10, ↓v9_4, ↓x8, ↓x7_3n, ↓x7_3i, ↓x7_3r, ↓x33, and_self, and_true, true_and, implies_true, true_implies, Int.reduceEq, Int.reduceLE, Int.reduceLT, not_true_eq_false, not_false_eq_true, false_implies, RTf_eq]
        exact ⟨fun _ => h3, fun q => absurd c2 q⟩
      · have eG : eqv (nbm M ((k : Int) / 8)) (getv A 254 (8 * (k : Int))) (getv M 254 (8 * (k : Int))) := fun z a b _ => oW z a b
        obtain ⟨b', p', w', cF⟩ := c_fadeRow (E := E) (S := S) (M := A) (i := (k : Int) / 8) (row := 8 * (k : Int)) (e := e) (fl := M 248 6) (m := nbm M ((k : Int) / 8)) (v := getv A 254 (8 * (k : Int))) oN.symm rfl o8.symm (by omega) (by omega) oM he hf (fun j a b => by show 0 ≤ A 254 _ ∧ A 254 _ ≤ 1000; rw [oW j a b]; exact hsh _ (by omega) (by omega)) (RV_congr (fun _ _ _ => rfl) (fun z a b d => (oW z a b).symm) (hv (k : Int) (by omega) (by omega))) (by omega)
        have hq := fdF_eqv (m := nbm M ((k : Int) / 8)) (m' := nbm M ((k : Int) / 8)) (fl := M 248 6) (e := e) (fun _ _ _ => rfl) eG
        have rk := fdF_ok (fl := M 248 6) (m := nbm M ((k : Int) / 8)) (e := e) (v := getv A 254 (8 * (k : Int))) hf he (RV_congr (fun _ _ _ => rfl) (fun z a b d => (oW z a b).symm) (hv (k : Int) (by omega) (by omega)))
        have rm := fdF_ok (fl := M 248 6) (m := nbm M ((k : Int) / 8)) (e := e) (v := getv M 254 (8 * (k : Int))) hf he (hv (k : Int) (by omega) (by omega))
        rw [dif_cnt (fun _ _ _ => rfl) hq eG, show cntb (dif (nbm M ((k : Int) / 8)) (fdF (M 248 6) (nbm M ((k : Int) / 8)) e (getv M 254 (8 * (k : Int)))) (getv M 254 (8 * (k : Int)))) 8 = fdD M e (k : Int) by unfold fdD; rw [if_neg (by omega)]] at cF
        obtain ⟨A1, eA1⟩ : ∃ A1, A1 = putv (putv (putv (putv A 257 0 b') 255 0 p') 256 0 w') 254 (8 * (k : Int)) (fdF (M 248 6) (nbm M ((k : Int) / 8)) e (getv A 254 (8 * (k : Int)))) := ⟨_, rfl⟩
        rw [← eA1] at cF
        have hA1 : FI9 e M A1 ((k + 1 : Nat) : Int) := by
          refine ⟨fun c1 z a1 a2 a3 a4 => ?_, fun r z b1 b2 b3 b4 => ?_⟩
          · rw [eA1]
            by_cases q : c1 = 254
            · rw [q, putv_out (by omega), putv_ne (by omega), putv_ne (by omega), putv_ne (by omega)]
              exact hA.1 254 z (by omega) (by omega) (by omega) (by omega)
            · rw [putv_ne q, putv_ne a2, putv_ne a1, putv_ne a3]
              exact hA.1 c1 z a1 a2 a3 (by omega)
          · by_cases q : r = (k : Int)
            · rw [q, eA1, putv_at b3 b4]
              unfold fdU
              rw [if_neg (by omega)]
              by_cases d : nbm M ((k : Int) / 8) z = true
              · exact hq z b3 b4 d
              · have d' : nbm M ((k : Int) / 8) z = false := by simpa using d
                rw [rk.2 z b3 b4 d', rm.2 z b3 b4 d']
                exact oW z b3 b4
            · rw [eA1, putv_out (by omega), putv_ne (by omega), putv_ne (by omega), putv_ne (by omega)]
              exact hA.2 r z b1 (by omega) b3 b4
        obtain ⟨A', hA', hl⟩ := ih (k + 1) (by omega) A1 hA1
        refine ⟨A', hA', fun {g lm RT a4} hr => ?_⟩
        have h3 := hl (g := g) (lm := lm) (RT := RT) (a4 := some (vi ((k : Int) / 8))) hr
        rw [eS] at h3
        refine q_X9_fade_18 400 (lfok E (by omega)) ?_
        simp +contextual (disch := first | omega | exact Nat.le_of_ble_eq_true rfl | assumption) only [↓r_X9_fade_0, ↓r_X9_fade_1, ↓r_X9_fade_2, ↓r_X9_fade_5, ↓r_X9_fade_8, ↓r_X9_fade_11, ↓r_X9_fade_13, ↓r_X9_fade_14, ↓r_X9_fade_15, ↓r_X9_fade_16, ↓r_X9_fade_17, ↓r_X9_fade_18, ↓r_X9_fade_19, ↓r_X9_fade_21, ↓r_X9_fade_24, ↓r_X9_fade_25, ↓r_X9_fade_27, ↓r_X9_fade_28, ↓r_X9_fade_30, ↓r_X9_fade_32, ↓r_X9_fade_33, ↓r_X9_fade_35, ↓r_X9_fade_36, ↓r_X9_fade_39, ↓r_X9_fade_40, ↓r_X9_fade_42, ↓r_X9_fade_45, ↓r_X9_fade_48, ↓r_X9_fade_49, ↓r_X9_fade_50, ↓r_X9_fade_52, ↓r_X9_fade_54, ↓r_X9_fade_55, ↓r_X9_fade_56, ↓r_X9_fade_57, ↓r_X9_fade_60, ↓r_X9_fade_61, ↓r_X9_fade_62, ↓r_X9_fade_65, ↓r_X9_fade_68, ↓r_X9_fade_69, ↓x1_1, ↓x0, ↓lf_X9_within, ↓x31_1, ↓x31b1, ↓x48_0, ↓x4_2n, ↓x4_2i, ↓x4_2r, ↓x4_3n, ↓x4_3i, ↓x4_3r, ↓x1_3, ↓x32_3, ↓x11, ↓x4_4n, ↓x4_4i, ↓x4_4r, ↓x1_4, ↓x12, ↓x32_0, ↓x2_0, ↓v9_2, ↓x31_5, ↓x1_2, ↓x10, ↓v9_4, ↓x8, ↓x7_3n, ↓x7_3i, ↓x7_3r, ↓x33, and_self, and_true, true_and, implies_true, true_implies, Int.reduceEq, Int.reduceLE, Int.reduceLT, not_true_eq_false, not_false_eq_true, false_implies, RTf_eq]
        refine ⟨fun q => by omega, fun _ => ⟨fun q => absurd q c, fun _ => ?_⟩⟩
        refine ck_r cN (by omega) (by simp) ?_
        simp +contextual (disch := first | omega | exact Nat.le_of_ble_eq_true rfl | assumption) only [↓r_X9_fade_0, ↓r_X9_fade_1, ↓r_X9_fade_2, ↓r_X9_fade_5, ↓r_X9_fade_8, ↓r_X9_fade_11, ↓r_X9_fade_13, ↓r_X9_fade_14, ↓r_X9_fade_15, ↓r_X9_fade_16, ↓r_X9_fade_17, ↓r_X9_fade_18, ↓r_X9_fade_19, ↓r_X9_fade_21, ↓r_X9_fade_24, ↓r_X9_fade_25, ↓r_X9_fade_27, ↓r_X9_fade_28, ↓r_X9_fade_30, ↓r_X9_fade_32, ↓r_X9_fade_33, ↓r_X9_fade_35, ↓r_X9_fade_36, ↓r_X9_fade_39, ↓r_X9_fade_40, ↓r_X9_fade_42, ↓r_X9_fade_45, ↓r_X9_fade_48, ↓r_X9_fade_49, ↓r_X9_fade_50, ↓r_X9_fade_52, ↓r_X9_fade_54, ↓r_X9_fade_55, ↓r_X9_fade_56, ↓r_X9_fade_57, ↓r_X9_fade_60, ↓r_X9_fade_61, ↓r_X9_fade_62, ↓r_X9_fade_65, ↓r_X9_fade_68, ↓r_X9_fade_69, ↓x1_1, ↓x0, ↓lf_X9_within, ↓x31_1, ↓x31b1, ↓x48_0, ↓x4_2n, ↓x4_2i, ↓x4_2r, ↓x4_3n, ↓x4_3i, ↓x4_3r, ↓x1_3, ↓x32_3, ↓x11, ↓x4_4n, ↓x4_4i, ↓x4_4r, ↓x1_4, ↓x12, ↓x32_0, ↓x2_0, ↓v9_2, ↓x31_5, ↓x1_2, ↓x10, ↓v9_4, ↓x8, ↓x7_3n, ↓x7_3i, ↓x7_3r, ↓x33, and_self, and_true, true_and, implies_true, true_implies, Int.reduceEq, Int.reduceLE, Int.reduceLT, not_true_eq_false, not_false_eq_true, false_implies, RTf_eq]
        refine ⟨fun q => absurd q c2, fun _ => ?_⟩
        refine ck_r cF (by omega) (by simp) ?_
        simp +contextual (disch := first | omega | exact Nat.le_of_ble_eq_true rfl | assumption) only [↓r_X9_fade_0, ↓r_X9_fade_1, ↓r_X9_fade_2, ↓r_X9_fade_5, ↓r_X9_fade_8, ↓r_X9_fade_11, ↓r_X9_fade_13, ↓r_X9_fade_14, ↓r_X9_fade_15, ↓r_X9_fade_16, ↓r_X9_fade_17, ↓r_X9_fade_18, ↓r_X9_fade_19, ↓r_X9_fade_21, ↓r_X9_fade_24, ↓r_X9_fade_25, ↓r_X9_fade_27, ↓r_X9_fade_28, ↓r_X9_fade_30, ↓r_X9_fade_32, ↓r_X9_fade_33, ↓r_X9_fade_35, ↓r_X9_fade_36, ↓r_X9_fade_39, ↓r_X9_fade_40, ↓r_X9_fade_42, ↓r_X9_fade_45, ↓r_X9_fade_48, ↓r_X9_fade_49, ↓r_X9_fade_50, ↓r_X9_fade_52, ↓r_X9_fade_54, ↓r_X9_fade_55, ↓r_X9_fade_56, ↓r_X9_fade_57, ↓r_X9_fade_60, ↓r_X9_fade_61, ↓r_X9_fade_62, ↓r_X9_fade_65, ↓r_X9_fade_68, ↓r_X9_fade_69, ↓x1_1, ↓x0, ↓lf_X9_within, ↓x31_1, ↓x31b1, ↓x48_0, ↓x4_2n, ↓x4_2i, ↓x4_2r, ↓x4_3n, ↓x4_3i, ↓x4_3r, ↓x1_3, ↓x32_3, ↓x11, ↓x4_4n, ↓x4_4i, ↓x4_4r, ↓x1_4, ↓x12, ↓x32_0, ↓x2_0, ↓v9_2, ↓x31_5, ↓x1_2, ↓x10, ↓v9_4, ↓x8, ↓x7_3n, ↓x7_3i, ↓x7_3r, ↓x33, and_self, and_true, true_and, implies_true, true_implies, Int.reduceEq, Int.reduceLE, Int.reduceLT, not_true_eq_false, not_false_eq_true, false_implies, RTf_eq]
        exact h3
theorem c_fade9 {e : Int} (hre : rg e) (hf : 0 ≤ M 248 6 ∧ M 248 6 ≤ 100) (hM : ∀ z, 0 ≤ z → z < 64 → rg (M 253 z)) (hsh : ∀ z, 0 ≤ z → z < 512 → 0 ≤ M 254 z ∧ M 254 z ≤ 1000) (hv : ∀ r, 0 ≤ r → r < 64 → RV (nbm M (r / 8)) (getv M 254 (8 * r))) :
    ∃ A' : Mem, Ctr E 5 114 [vr 248, vi e] (toAH S M) (some (vi (if 0 ≤ e ∧ e ≤ 1000 then sm (fdD M e) 64 else -2))) (toAH S A') ∧ (if 0 ≤ e ∧ e ≤ 1000 then FI9 e M A' 64 else A' = M) := by
  by_cases he : 0 ≤ e ∧ e ≤ 1000
  · have a1 : b2 (0 ≤ e ∧ e ≤ 1000) = 1 := by simp [b2, he]
    obtain ⟨A', hA', hl⟩ := l_fade9 (E := E) (S := S) (M := M) he hf hM hsh hv 64 0 (by omega) M ⟨fun c z _ _ _ _ => rfl, fun r z h1 h2 => absurd h2 (by show ¬ r < ((0 : Nat) : Int); omega)⟩
    refine ⟨A', ?_, by rw [if_pos he]; exact hA'⟩
    rw [if_pos he]
    refine Ctr_f mi_X9_fade mo_X9_fade (Nat.le_of_ble_eq_true rfl) ⟨Nat.le_refl _, Nat.le_refl _⟩ (fun g lm => ?_)
    rw [show entL mi_X9_fade.2.2.1 [vr 248, vi e] = [some (vr 248), some (vi e), none, none, none] from rfl]
    refine e_X9_fade 400 (lfok E (by omega)) ?_
    simp +contextual (disch := first | omega | exact Nat.le_of_ble_eq_true rfl | assumption) only [↓r_X9_fade_0, ↓r_X9_fade_1, ↓r_X9_fade_2, ↓r_X9_fade_5, ↓r_X9_fade_8, ↓r_X9_fade_11, ↓r_X9_fade_13, ↓r_X9_fade_14, ↓r_X9_fade_15, ↓r_X9_fade_16, ↓r_X9_fade_17, ↓r_X9_fade_18, ↓r_X9_fade_19, ↓r_X9_fade_21, ↓r_X9_fade_24, ↓r_X9_fade_25, ↓r_X9_fade_27, ↓r_X9_fade_28, ↓r_X9_fade_30, ↓r_X9_fade_32, ↓r_X9_fade_33, ↓r_X9_fade_35, ↓r_X9_fade_36, ↓r_X9_fade_39, ↓r_X9_fade_40, ↓r_X9_fade_42, ↓r_X9_fade_45, ↓r_X9_fade_48, ↓r_X9_fade_49, ↓r_X9_fade_50, ↓r_X9_fade_52, ↓r_X9_fade_54, ↓r_X9_fade_55, ↓r_X9_fade_56, ↓r_X9_fade_57, ↓r_X9_fade_60, ↓r_X9_fade_61, ↓r_X9_fade_62, ↓r_X9_fade_65, ↓r_X9_fade_68, ↓r_X9_fade_69, ↓x1_1, ↓x0, ↓lf_X9_within, ↓x31_1, ↓x31b1, ↓x48_0, ↓x4_2n, ↓x4_2i, ↓x4_2r, ↓x4_3n, ↓x4_3i, ↓x4_3r, ↓x1_3, ↓x32_3, ↓x11, ↓x4_4n, ↓x4_4i, ↓x4_4r, ↓x1_4, ↓x12, ↓x32_0, ↓x2_0, ↓v9_2, ↓x31_5, ↓x1_2, ↓x10, ↓v9_4, ↓x8, ↓x7_3n, ↓x7_3i, ↓x7_3r, ↓x33, and_self, and_true, true_and, implies_true, true_implies, Int.reduceEq, Int.reduceLE, Int.reduceLT, not_true_eq_false, not_false_eq_true, false_implies, RTf_eq, a1]
    exact hl ⟨rfl, rfl⟩
  · have a1 : b2 (0 ≤ e ∧ e ≤ 1000) = 0 := by simp [b2, he]
    refine ⟨M, ?_, by rw [if_neg he]⟩
    rw [if_neg he]
    refine Ctr_f mi_X9_fade mo_X9_fade (Nat.le_of_ble_eq_true rfl) ⟨Nat.le_refl _, Nat.le_refl _⟩ (fun g lm => ?_)
    rw [show entL mi_X9_fade.2.2.1 [vr 248, vi e] = [some (vr 248), some (vi e), none, none, none] from rfl]
    refine e_X9_fade 400 (lfok E (by omega)) ?_
    simp +contextual (disch := first | omega | exact Nat.le_of_ble_eq_true rfl | assumption) only [↓r_X9_fade_0, ↓r_X9_fade_1, ↓r_X9_fade_2, ↓r_X9_fade_5, ↓r_X9_fade_8, ↓r_X9_fade_11, ↓r_X9_fade_13, ↓r_X9_fade_14, ↓r_X9_fade_15, ↓r_X9_fade_16, ↓r_X9_fade_17, ↓r_X9_fade_18, ↓r_X9_fade_19, ↓r_X9_fade_21, ↓r_X9_fade_24, ↓r_X9_fade_25, ↓r_X9_fade_27, ↓r_X9_fade_28, ↓r_X9_fade_30, ↓r_X9_fade_32, ↓r_X9_fade_33, ↓r_X9_fade_35, ↓r_X9_fade_36, ↓r_X9_fade_39, ↓r_X9_fade_40, ↓r_X9_fade_42, ↓r_X9_fade_45, ↓r_X9_fade_48, ↓r_X9_fade_49, ↓r_X9_fade_50, ↓r_X9_fade_52, ↓r_X9_fade_54, ↓r_X9_fade_55, ↓r_X9_fade_56, ↓r_X9_fade_57, ↓r_X9_fade_60, ↓r_X9_fade_61, ↓r_X9_fade_62, ↓r_X9_fade_65, ↓r_X9_fade_68, ↓r_X9_fade_69, ↓x1_1, ↓x0, ↓lf_X9_within, ↓x31_1, ↓x31b1, ↓x48_0, ↓x4_2n, ↓x4_2i, ↓x4_2r, ↓x4_3n, ↓x4_3i, ↓x4_3r, ↓x1_3, ↓x32_3, ↓x11, ↓x4_4n, ↓x4_4i, ↓x4_4r, ↓x1_4, ↓x12, ↓x32_0, ↓x2_0, ↓v9_2, ↓x31_5, ↓x1_2, ↓x10, ↓v9_4, ↓x8, ↓x7_3n, ↓x7_3i, ↓x7_3r, ↓x33, and_self, and_true, true_and, implies_true, true_implies, Int.reduceEq, Int.reduceLE, Int.reduceLT, not_true_eq_false, not_false_eq_true, false_implies, RTf_eq, a1]
end
