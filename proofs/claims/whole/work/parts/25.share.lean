/-! ===== sharing out ===== -/
section
variable {E : ET} {g : GT} {mi : MI} {d : Nat} {lm : Nat × Nat} {RT : RTy} {F : FT} {K : KT} {nx : Nat} {tb : List Nat} {L : LV} {st : List AV} {h : AH}
theorem cmpz_rng (x y : Int) : -1 ≤ cmpz x y ∧ cmpz x y ≤ 1 := by unfold cmpz; split <;> (try split) <;> omega
theorem x31c5 {x y : Int} {t : Nat} : exI E d lm RT F K (31, 5, ((t : Nat) : Int), nx, tb) L (vi (cmpz x y) :: st) h = ((x ≤ y → K t L st h) ∧ (¬ x ≤ y → K nx L st h)) := by
  have hr := cmpz_rng x y
  rw [x31_5 (by omega)]
  have e : (cmpz x y ≤ 0) = (x ≤ y) := by
    unfold cmpz
    apply propext
    split
    · omega
    · split <;> omega
  rw [e]
theorem x31c4 {x y : Int} {t : Nat} : exI E d lm RT F K (31, 4, ((t : Nat) : Int), nx, tb) L (vi (cmpz x y) :: st) h = ((y < x → K t L st h) ∧ (¬ y < x → K nx L st h)) := by
  have hr := cmpz_rng x y
  rw [x31_4 (by omega)]
  have e : (0 < cmpz x y) = (y < x) := by
    unfold cmpz
    apply propext
    split
    · omega
    · split <;> omega
  rw [e]
end
def qv (R V : Int) (m : Set8) (p v : Vec) : Vec := fun k => if m k = true then R * p k / V else v k
def rv (R V : Int) (m : Set8) (p w : Vec) : Vec := fun k => if m k = true then R * p k % V else w k
def gv (m : Set8) (x : Vec × Vec) : Vec × Vec := (upv x.1 (grF m x.2 8) (x.1 (grF m x.2 8) + 1), upv x.2 (grF m x.2 8) (-1))
def gvN (m : Set8) : Nat → Vec × Vec → Vec × Vec
  | 0, x => x
  | t + 1, x => gv m (gvN m t x)
theorem mulb {R p : Int} (h1 : 0 ≤ R) (h2 : R ≤ 1000) (h3 : 0 ≤ p) (h4 : p ≤ 10000000) : 0 ≤ R * p ∧ R * p ≤ 10000000000 := by
  refine ⟨Int.mul_nonneg h1 h3, ?_⟩
  have := Int.mul_le_mul h2 h4 h3 (by omega)
  omega
theorem divb {R p V : Int} (h1 : 0 ≤ R) (h3 : 0 ≤ p) (h4 : p ≤ V) (h5 : 0 < V) : 0 ≤ R * p / V ∧ R * p / V ≤ R := by
  refine ⟨Int.ediv_nonneg (Int.mul_nonneg h1 h3) (by omega), ?_⟩
  have : R * p ≤ R * V := Int.mul_le_mul_of_nonneg_left h4 h1
  exact Int.ediv_le_of_le_mul h5 this
theorem smv_ge {m : Set8} {v : Vec} : ∀ n : Nat, (∀ k : Int, 0 ≤ k → k < (n : Int) → m k = true → 0 ≤ v k) → ∀ j : Int, 0 ≤ j → j < (n : Int) → m j = true → v j ≤ smv m v n := by
  intro n
  induction n with
  | zero => intro _ j a b; omega
  | succ n ih =>
    intro h j a b c
    unfold smv
    have h0 := smv_nonneg (m := m) (v := v) n (fun k a b c => h k a (by omega) c)
    by_cases hj : j = (n : Int)
    · subst hj
      rw [if_pos c]; omega
    · have := ih (fun k a b c => h k a (by omega) c) j a (by omega) c
      split
      · rename_i hm
        have := h n (by omega) (by omega) hm
        omega
      · omega
section
variable {E : ET} {S : SCR} {M : Mem}
theorem l_sumOfValues {g : GT} {lm : Nat × Nat} {RT : RTy} {set : Int} (hs : 0 ≤ set ∧ set < 256) (hr : RT (some (vl (smv (bs set) (M 9) 8))) (toAH S M)) :
    ∀ k : Nat, k ≤ 8 → G E g mi_X6_sumOfValues 2 lm RT 5 [some (vr 8), some (vi set), some (vl (smv (bs set) (M 9) k)), none, some (vi (k : Int))] [] (toAH S M) := by
  refine down ?_ ?_
  · refine q_X6_sumOfValues_5 400 (lfok E (by omega)) ?_
    simp +contextual (disch := first | omega | exact Nat.le_of_ble_eq_true rfl | assumption) only [↓r_X6_sumOfValues_0, ↓r_X6_sumOfValues_1, ↓r_X6_sumOfValues_2, ↓r_X6_sumOfValues_3, ↓r_X6_sumOfValues_5, ↓r_X6_sumOfValues_7, ↓r_X6_sumOfValues_9, ↓r_X6_sumOfValues_12, ↓r_X6_sumOfValues_13, ↓r_X6_sumOfValues_15, ↓r_X6_sumOfValues_18, ↓r_X6_sumOfValues_21, ↓r_X6_sumOfValues_22, ↓r_X6_sumOfValues_23, ↓r_X6_sumOfValues_26, ↓r_X6_sumOfValues_28, ↓r_X6_sumOfValues_29, ↓r_X6_sumOfValues_30, ↓r_X6_sumOfValues_31, ↓r_X6_sumOfValues_34, ↓r_X6_sumOfValues_37, ↓r_X6_sumOfValues_38, ↓x27, ↓x6_2n, ↓x6_2i, ↓x6_2r, ↓x0, ↓x4_4n, ↓x4_4i, ↓x4_4r, ↓x1_4, ↓x32_3, ↓x1_1, ↓lf_X8_isIn, ↓x31_0, ↓x31b0, ↓x3_2, ↓x2_0, ↓f6_0, ↓x19, ↓x7_4n, ↓x7_4i, ↓x7_4r, ↓x33, ↓x48_2, ↓l_2, ↓l_3, ↓l_4, ↓l_5, ↓l_6, ↓l_7, ↓l_9, ↓l_10, ↓l_11, ↓l_12, ↓l_13, ↓l_15, ↓l_16, ↓l_r1, ↓l_r2, ↓l_w1, ↓l_w2, and_self, and_true, true_and, implies_true, true_implies, Int.reduceEq, Int.reduceLE, Int.reduceLT, not_true_eq_false, not_false_eq_true, false_implies, RTf_eq]
    exact ⟨fun _ => hr, fun q => absurd (by omega) q⟩
  · intro k hk ih
    have e : smv (bs set) (M 9) (k + 1) = smv (bs set) (M 9) k + (if bs set (k : Int) = true then M 9 (k : Int) else 0) := rfl
    rw [e] at ih
    refine q_X6_sumOfValues_5 400 (lfok E (by omega)) ?_
    simp +contextual (disch := first | omega | exact Nat.le_of_ble_eq_true rfl | assumption) only [↓r_X6_sumOfValues_0, ↓r_X6_sumOfValues_1, ↓r_X6_sumOfValues_2, ↓r_X6_sumOfValues_3, ↓r_X6_sumOfValues_5, ↓r_X6_sumOfValues_7, ↓r_X6_sumOfValues_9, ↓r_X6_sumOfValues_12, ↓r_X6_sumOfValues_13, ↓r_X6_sumOfValues_15, ↓r_X6_sumOfValues_18, ↓r_X6_sumOfValues_21, ↓r_X6_sumOfValues_22, ↓r_X6_sumOfValues_23, ↓r_X6_sumOfValues_26, ↓r_X6_sumOfValues_28, ↓r_X6_sumOfValues_29, ↓r_X6_sumOfValues_30, ↓r_X6_sumOfValues_31, ↓r_X6_sumOfValues_34, ↓r_X6_sumOfValues_37, ↓r_X6_sumOfValues_38, ↓x27, ↓x6_2n, ↓x6_2i, ↓x6_2r, ↓x0, ↓x4_4n, ↓x4_4i, ↓x4_4r, ↓x1_4, ↓x32_3, ↓x1_1, ↓lf_X8_isIn, ↓x31_0, ↓x31b0, ↓x3_2, ↓x2_0, ↓f6_0, ↓x19, ↓x7_4n, ↓x7_4i, ↓x7_4r, ↓x33, ↓x48_2, ↓l_2, ↓l_3, ↓l_4, ↓l_5, ↓l_6, ↓l_7, ↓l_9, ↓l_10, ↓l_11, ↓l_12, ↓l_13, ↓l_15, ↓l_16, ↓l_r1, ↓l_r2, ↓l_w1, ↓l_w2, and_self, and_true, true_and, implies_true, true_implies, Int.reduceEq, Int.reduceLE, Int.reduceLT, not_true_eq_false, not_false_eq_true, false_implies, RTf_eq]
    refine ⟨fun q => by omega, fun _ => ⟨fun q => ?_, fun q => ?_⟩⟩
    · rw [if_neg (show ¬ bs set (k : Int) = true from q)] at ih
      simpa using ih
    · rw [if_pos (show bs set (k : Int) = true from q)] at ih
      exact ih
theorem c_sumOfValues {set : Int} (hs : 0 ≤ set ∧ set < 256) : Ctr E 2 34 [vr 8, vi set] (toAH S M) (some (vl (smv (bs set) (M 9) 8))) (toAH S M) := by
  refine Ctr_f mi_X6_sumOfValues mo_X6_sumOfValues (Nat.le_of_ble_eq_true rfl) ⟨Nat.le_refl _, Nat.le_refl _⟩ (fun g lm => ?_)
  rw [show entL mi_X6_sumOfValues.2.2.1 [vr 8, vi set] = [some (vr 8), some (vi set), none, none, none] from rfl]
  refine e_X6_sumOfValues 400 (lfok E (by omega)) ?_
  simp +contextual (disch := first | omega | exact Nat.le_of_ble_eq_true rfl | assumption) only [↓r_X6_sumOfValues_0, ↓r_X6_sumOfValues_1, ↓r_X6_sumOfValues_2, ↓r_X6_sumOfValues_3, ↓r_X6_sumOfValues_5, ↓r_X6_sumOfValues_7, ↓r_X6_sumOfValues_9, ↓r_X6_sumOfValues_12, ↓r_X6_sumOfValues_13, ↓r_X6_sumOfValues_15, ↓r_X6_sumOfValues_18, ↓r_X6_sumOfValues_21, ↓r_X6_sumOfValues_22, ↓r_X6_sumOfValues_23, ↓r_X6_sumOfValues_26, ↓r_X6_sumOfValues_28, ↓r_X6_sumOfValues_29, ↓r_X6_sumOfValues_30, ↓r_X6_sumOfValues_31, ↓r_X6_sumOfValues_34, ↓r_X6_sumOfValues_37, ↓r_X6_sumOfValues_38, ↓x27, ↓x6_2n, ↓x6_2i, ↓x6_2r, ↓x0, ↓x4_4n, ↓x4_4i, ↓x4_4r, ↓x1_4, ↓x32_3, ↓x1_1, ↓lf_X8_isIn, ↓x31_0, ↓x31b0, ↓x3_2, ↓x2_0, ↓f6_0, ↓x19, ↓x7_4n, ↓x7_4i, ↓x7_4r, ↓x33, ↓x48_2, ↓l_2, ↓l_3, ↓l_4, ↓l_5, ↓l_6, ↓l_7, ↓l_9, ↓l_10, ↓l_11, ↓l_12, ↓l_13, ↓l_15, ↓l_16, ↓l_r1, ↓l_r2, ↓l_w1, ↓l_w2, and_self, and_true, true_and, implies_true, true_implies, Int.reduceEq, Int.reduceLE, Int.reduceLT, not_true_eq_false, not_false_eq_true, false_implies, RTf_eq]
  exact l_sumOfValues hs ⟨rfl, rfl⟩ 0 (by omega)
theorem l_giveOne {g : GT} {lm : Nat × Nat} {RT : RTy} {set r : Int} (hs : 0 ≤ set ∧ set < 256) (hr0 : 0 ≤ r ∧ r < 64) (hw : ∀ k, 0 ≤ k → k < 8 → bs set k = true → -1 ≤ M 11 k ∧ M 11 k ≤ 10000000000) (hc : 0 < cntb (bs set) 8) (hr : RT none (toAH S (up2 (up2 M (18 + 3 * r) (grF (bs set) (M 11) 8) (M (18 + 3 * r) (grF (bs set) (M 11) 8) + 1)) 11 (grF (bs set) (M 11) 8) (-1)))) :
    ∀ k : Nat, k ≤ 8 → G E g mi_X6_giveOne 2 lm RT 6 [some (vr 8), some (vi set), some (vr (18 + 3 * r)), some (vi (grF (bs set) (M 11) k)), some (vi (k : Int))] [] (toAH S M) := by
  refine down ?_ ?_
  · have hg := grF_rng (bs set) (M 11) 8
    have hne : ¬ grF (bs set) (M 11) 8 = -9 := by
      intro q
      have : ∀ n : Nat, n ≤ 8 → cntb (bs set) n = 0 := by
        intro n hn
        induction n with
        | zero => rfl
        | succ n ih =>
          show cntb (bs set) n + _ = 0
          rw [ih (by omega)]
          split
          · rename_i hm
            exact absurd q (grF_max (m := bs set) (v := M 11) 8 n (by omega) (by omega) hm).1
          · rfl
      have := this 8 (by omega)
      omega
    have hg2 : 0 ≤ grF (bs set) (M 11) 8 ∧ grF (bs set) (M 11) 8 < 8 := by rcases hg with h | h; exact absurd h hne; omega
    refine q_X6_giveOne_6 400 (lfok E (by omega)) ?_
    simp +contextual (disch := first | omega | exact Nat.le_of_ble_eq_true rfl | assumption) only [↓r_X6_giveOne_0, ↓r_X6_giveOne_2, ↓r_X6_giveOne_3, ↓r_X6_giveOne_4, ↓r_X6_giveOne_6, ↓r_X6_giveOne_8, ↓r_X6_giveOne_10, ↓r_X6_giveOne_13, ↓r_X6_giveOne_14, ↓r_X6_giveOne_16, ↓r_X6_giveOne_19, ↓r_X6_giveOne_22, ↓r_X6_giveOne_23, ↓r_X6_giveOne_25, ↓r_X6_giveOne_28, ↓r_X6_giveOne_29, ↓r_X6_giveOne_32, ↓r_X6_giveOne_34, ↓r_X6_giveOne_35, ↓r_X6_giveOne_36, ↓r_X6_giveOne_39, ↓r_X6_giveOne_40, ↓r_X6_giveOne_41, ↓r_X6_giveOne_42, ↓r_X6_giveOne_45, ↓r_X6_giveOne_47, ↓r_X6_giveOne_48, ↓r_X6_giveOne_51, ↓r_X6_giveOne_54, ↓r_X6_giveOne_55, ↓r_X6_giveOne_57, ↓r_X6_giveOne_60, ↓r_X6_giveOne_61, ↓r_X6_giveOne_62, ↓r_X6_giveOne_63, ↓r_X6_giveOne_64, ↓r_X6_giveOne_65, ↓r_X6_giveOne_66, ↓r_X6_giveOne_67, ↓r_X6_giveOne_68, ↓r_X6_giveOne_71, ↓r_X6_giveOne_72, ↓r_X6_giveOne_75, ↓r_X6_giveOne_76, ↓x0, ↓x4_3n, ↓x4_3i, ↓x4_3r, ↓x4_4n, ↓x4_4i, ↓x4_4r, ↓x1_4, ↓x32_3, ↓x1_1, ↓lf_X8_isIn, ↓x31_0, ↓x31b0, ↓x1_3, ↓x32_0, ↓x2_0, ↓f6_2, ↓x24, ↓x31_5, ↓x7_4n, ↓x7_4i, ↓x7_4r, ↓x33, ↓x2_2, ↓x29, ↓x8, ↓x27, ↓x48_4, ↓l_2, ↓s_2, ↓l_3, ↓s_3, ↓l_4, ↓s_4, ↓l_5, ↓s_5, ↓l_6, ↓s_6, ↓l_7, ↓l_9, ↓s_9, ↓l_10, ↓s_10, ↓l_11, ↓s_11, ↓l_12, ↓l_13, ↓l_15, ↓s_15, ↓l_16, ↓s_16, ↓l_r1, ↓s_r1, ↓l_r2, ↓s_r2, ↓l_w1, ↓s_w1, ↓l_w2, ↓s_w2, and_self, and_true, true_and, implies_true, true_implies, Int.reduceEq, Int.reduceLE, Int.reduceLT, not_true_eq_false, not_false_eq_true, false_implies, RTf_eq]
    refine ⟨fun _ => ⟨fun q => absurd q hne, fun q => hr⟩, fun q => absurd (by omega) q⟩
  · intro k hk ih
    have hg := grF_rng (bs set) (M 11) k
    have e : grF (bs set) (M 11) (k + 1) = if bs set (k : Int) = true ∧ (grF (bs set) (M 11) k = -9 ∨ M 11 (grF (bs set) (M 11) k) < M 11 (k : Int)) then (k : Int) else grF (bs set) (M 11) k := rfl
    obtain ⟨b, hb⟩ : ∃ b, b = grF (bs set) (M 11) k := ⟨_, rfl⟩
    rw [e] at ih
    rw [← hb] at hg ih ⊢
    refine q_X6_giveOne_6 400 (lfok E (by omega)) ?_
    simp +contextual (disch := first | omega | exact Nat.le_of_ble_eq_true rfl | assumption) only [↓r_X6_giveOne_0, ↓r_X6_giveOne_2, ↓r_X6_giveOne_3, ↓r_X6_giveOne_4, ↓r_X6_giveOne_6, ↓r_X6_giveOne_8, ↓r_X6_giveOne_10, ↓r_X6_giveOne_13, ↓r_X6_giveOne_14, ↓r_X6_giveOne_16, ↓r_X6_giveOne_19, ↓r_X6_giveOne_22, ↓r_X6_giveOne_23, ↓r_X6_giveOne_25, ↓r_X6_giveOne_28, ↓r_X6_giveOne_29, ↓r_X6_giveOne_32, ↓r_X6_giveOne_34, ↓r_X6_giveOne_35, ↓r_X6_giveOne_36, ↓r_X6_giveOne_39, ↓r_X6_giveOne_40, ↓r_X6_giveOne_41, ↓r_X6_giveOne_42, ↓r_X6_giveOne_45, ↓r_X6_giveOne_47, ↓r_X6_giveOne_48, ↓r_X6_giveOne_51, ↓r_X6_giveOne_54, ↓r_X6_giveOne_55, ↓r_X6_giveOne_57, ↓r_X6_giveOne_60, ↓r_X6_giveOne_61, ↓r_X6_giveOne_62, ↓r_X6_giveOne_63, ↓r_X6_giveOne_64, ↓r_X6_giveOne_65, ↓r_X6_giveOne_66, ↓r_X6_giveOne_67, ↓r_X6_giveOne_68, ↓r_X6_giveOne_71, ↓r_X6_giveOne_72, ↓r_X6_giveOne_75, ↓r_X6_giveOne_76, ↓x0, ↓x4_3n, ↓x4_3i, ↓x4_3r, ↓x4_4n, ↓x4_4i, ↓x4_4r, ↓x1_4, ↓x32_3, ↓x1_1, ↓lf_X8_isIn, ↓x31_0, ↓x31b0, ↓x1_3, ↓x32_0, ↓x2_0, ↓f6_2, ↓x24, ↓x31_5, ↓x7_4n, ↓x7_4i, ↓x7_4r, ↓x33, ↓x2_2, ↓x29, ↓x8, ↓x27, ↓x48_4, ↓l_2, ↓s_2, ↓l_3, ↓s_3, ↓l_4, ↓s_4, ↓l_5, ↓s_5, ↓l_6, ↓s_6, ↓l_7, ↓l_9, ↓s_9, ↓l_10, ↓s_10, ↓l_11, ↓s_11, ↓l_12, ↓l_13, ↓l_15, ↓s_15, ↓l_16, ↓s_16, ↓l_r1, ↓s_r1, ↓l_r2, ↓s_r2, ↓l_w1, ↓s_w1, ↓l_w2, ↓s_w2, and_self, and_true, true_and, implies_true, true_implies, Int.reduceEq, Int.reduceLE, Int.reduceLT, not_true_eq_false, not_false_eq_true, false_implies, RTf_eq]
    refine ⟨fun q => by omega, fun _ => ⟨fun q => ?_, fun q => ⟨fun q2 => ?_, fun q2 => ?_⟩⟩⟩
    · rw [if_neg (fun c => q c.1)] at ih
      exact ih
    · rw [if_pos ⟨q, Or.inl q2⟩] at ih
      exact ih
    · have h1 := hw k (by omega) (by omega) q
      have h4 : 0 ≤ b ∧ b < 8 ∧ -1 ≤ M 11 b ∧ M 11 b ≤ 10000000000 := by
        rcases hg with h | h
        · exact absurd h q2
        · exact ⟨h.1, by omega, hw b h.1 (by omega) h.2.2⟩
      simp +contextual (disch := first | omega | exact Nat.le_of_ble_eq_true rfl | assumption) only [↓r_X6_giveOne_0, ↓r_X6_giveOne_2, ↓r_X6_giveOne_3, ↓r_X6_giveOne_4, ↓r_X6_giveOne_6, ↓r_X6_giveOne_8, ↓r_X6_giveOne_10, ↓r_X6_giveOne_13, ↓r_X6_giveOne_14, ↓r_X6_giveOne_16, ↓r_X6_giveOne_19, ↓r_X6_giveOne_22, ↓r_X6_giveOne_23, ↓r_X6_giveOne_25, ↓r_X6_giveOne_28, ↓r_X6_giveOne_29, ↓r_X6_giveOne_32, ↓r_X6_giveOne_34, ↓r_X6_giveOne_35, ↓r_X6_giveOne_36, ↓r_X6_giveOne_39, ↓r_X6_giveOne_40, ↓r_X6_giveOne_41, ↓r_X6_giveOne_42, ↓r_X6_giveOne_45, ↓r_X6_giveOne_47, ↓r_X6_giveOne_48, ↓r_X6_giveOne_51, ↓r_X6_giveOne_54, ↓r_X6_giveOne_55, ↓r_X6_giveOne_57, ↓r_X6_giveOne_60, ↓r_X6_giveOne_61, ↓r_X6_giveOne_62, ↓r_X6_giveOne_63, ↓r_X6_giveOne_64, ↓r_X6_giveOne_65, ↓r_X6_giveOne_66, ↓r_X6_giveOne_67, ↓r_X6_giveOne_68, ↓r_X6_giveOne_71, ↓r_X6_giveOne_72, ↓r_X6_giveOne_75, ↓r_X6_giveOne_76, ↓x0, ↓x4_3n, ↓x4_3i, ↓x4_3r, ↓x4_4n, ↓x4_4i, ↓x4_4r, ↓x1_4, ↓x32_3, ↓x1_1, ↓lf_X8_isIn, ↓x31_0, ↓x31b0, ↓x1_3, ↓x32_0, ↓x2_0, ↓f6_2, ↓x24, ↓x31_5, ↓x7_4n, ↓x7_4i, ↓x7_4r, ↓x33, ↓x2_2, ↓x29, ↓x8, ↓x27, ↓x48_4, ↓l_2, ↓s_2, ↓l_3, ↓s_3, ↓l_4, ↓s_4, ↓l_5, ↓s_5, ↓l_6, ↓s_6, ↓l_7, ↓l_9, ↓s_9, ↓l_10, ↓s_10, ↓l_11, ↓s_11, ↓l_12, ↓l_13, ↓l_15, ↓s_15, ↓l_16, ↓s_16, ↓l_r1, ↓s_r1, ↓l_r2, ↓s_r2, ↓l_w1, ↓s_w1, ↓l_w2, ↓s_w2, and_self, and_true, true_and, implies_true, true_implies, Int.reduceEq, Int.reduceLE, Int.reduceLT, not_true_eq_false, not_false_eq_true, false_implies, RTf_eq, ↓x31c5]
      refine ⟨fun q3 => ?_, fun q3 => ?_⟩
      · rw [if_neg (fun c => by rcases c.2 with c | c; exact q2 c; omega)] at ih
        exact ih
      · rw [if_pos ⟨q, Or.inr (by omega)⟩] at ih
        exact ih
theorem c_giveOne {set r : Int} (hs : 0 ≤ set ∧ set < 256) (hr0 : 0 ≤ r ∧ r < 64) (hw : ∀ k, 0 ≤ k → k < 8 → bs set k = true → -1 ≤ M 11 k ∧ M 11 k ≤ 10000000000) (hc : 0 < cntb (bs set) 8) : Ctr E 2 35 [vr 8, vi set, vr (18 + 3 * r)] (toAH S M) none (toAH S (up2 (up2 M (18 + 3 * r) (grF (bs set) (M 11) 8) (M (18 + 3 * r) (grF (bs set) (M 11) 8) + 1)) 11 (grF (bs set) (M 11) 8) (-1))) := by
  refine Ctr_f mi_X6_giveOne mo_X6_giveOne (Nat.le_of_ble_eq_true rfl) ⟨Nat.le_refl _, Nat.le_refl _⟩ (fun g lm => ?_)
  rw [show entL mi_X6_giveOne.2.2.1 [vr 8, vi set, vr (18 + 3 * r)] = [some (vr 8), some (vi set), some (vr (18 + 3 * r)), none, none] from rfl]
  refine e_X6_giveOne 400 (lfok E (by omega)) ?_
  simp +contextual (disch := first | omega | exact Nat.le_of_ble_eq_true rfl | assumption) only [↓r_X6_giveOne_0, ↓r_X6_giveOne_2, ↓r_X6_giveOne_3, ↓r_X6_giveOne_4, ↓r_X6_giveOne_6, ↓r_X6_giveOne_8, ↓r_X6_giveOne_10, ↓r_X6_giveOne_13, ↓r_X6_giveOne_14, ↓r_X6_giveOne_16, ↓r_X6_giveOne_19, ↓r_X6_giveOne_22, ↓r_X6_giveOne_23, ↓r_X6_giveOne_25, ↓r_X6_giveOne_28, ↓r_X6_giveOne_29, ↓r_X6_giveOne_32, ↓r_X6_giveOne_34, ↓r_X6_giveOne_35, ↓r_X6_giveOne_36, ↓r_X6_giveOne_39, ↓r_X6_giveOne_40, ↓r_X6_giveOne_41, ↓r_X6_giveOne_42, ↓r_X6_giveOne_45, ↓r_X6_giveOne_47, ↓r_X6_giveOne_48, ↓r_X6_giveOne_51, ↓r_X6_giveOne_54, ↓r_X6_giveOne_55, ↓r_X6_giveOne_57, ↓r_X6_giveOne_60, ↓r_X6_giveOne_61, ↓r_X6_giveOne_62, ↓r_X6_giveOne_63, ↓r_X6_giveOne_64, ↓r_X6_giveOne_65, ↓r_X6_giveOne_66, ↓r_X6_giveOne_67, ↓r_X6_giveOne_68, ↓r_X6_giveOne_71, ↓r_X6_giveOne_72, ↓r_X6_giveOne_75, ↓r_X6_giveOne_76, ↓x0, ↓x4_3n, ↓x4_3i, ↓x4_3r, ↓x4_4n, ↓x4_4i, ↓x4_4r, ↓x1_4, ↓x32_3, ↓x1_1, ↓lf_X8_isIn, ↓x31_0, ↓x31b0, ↓x1_3, ↓x32_0, ↓x2_0, ↓f6_2, ↓x24, ↓x31_5, ↓x7_4n, ↓x7_4i, ↓x7_4r, ↓x33, ↓x2_2, ↓x29, ↓x8, ↓x27, ↓x48_4, ↓l_2, ↓s_2, ↓l_3, ↓s_3, ↓l_4, ↓s_4, ↓l_5, ↓s_5, ↓l_6, ↓s_6, ↓l_7, ↓l_9, ↓s_9, ↓l_10, ↓s_10, ↓l_11, ↓s_11, ↓l_12, ↓l_13, ↓l_15, ↓s_15, ↓l_16, ↓s_16, ↓l_r1, ↓s_r1, ↓l_r2, ↓s_r2, ↓l_w1, ↓s_w1, ↓l_w2, ↓s_w2, and_self, and_true, true_and, implies_true, true_implies, Int.reduceEq, Int.reduceLE, Int.reduceLT, not_true_eq_false, not_false_eq_true, false_implies, RTf_eq]
  exact l_giveOne hs hr0 hw hc ⟨rfl, rfl⟩ 0 (by omega)
end
