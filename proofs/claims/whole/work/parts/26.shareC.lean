/-! ===== sharing out, in the class ===== -/
theorem gv_rs {m : Set8} {x : Vec × Vec} {B : Int} (hB : 0 ≤ B) (h : ∀ k, 0 ≤ k → k < 8 → m k = true → -1 ≤ x.2 k ∧ x.2 k ≤ B) : ∀ t : Nat, ∀ k, 0 ≤ k → k < 8 → m k = true → -1 ≤ (gvN m t x).2 k ∧ (gvN m t x).2 k ≤ B := by
  intro t
  induction t with
  | zero => exact h
  | succ t ih =>
    intro k a b c
    show -1 ≤ upv _ _ _ k ∧ upv _ _ _ k ≤ B
    unfold upv
    split
    · omega
    · exact ih k a b c
section
variable {E : ET} {S : SCR} {M : Mem}
/-- the memory with a row's shares and the rests -/
def shM (M : Mem) (c : Int) (x : Vec × Vec) : Mem := putv (putv M c 0 x.1) 11 0 x.2
theorem shM_c {c : Int} {x : Vec × Vec} {k : Int} (hc : c ≠ 11) (h1 : 0 ≤ k) (h2 : k < 8) : shM M c x c k = x.1 k := by
  unfold shM
  rw [putv_ne hc, putv_at0 h1 h2]
theorem shM_11 {c : Int} {x : Vec × Vec} {k : Int} (h1 : 0 ≤ k) (h2 : k < 8) : shM M c x 11 k = x.2 k := by
  unfold shM
  rw [putv_at0 h1 h2]
theorem shM_ne {c c' z : Int} {x : Vec × Vec} (h1 : c' ≠ c) (h2 : c' ≠ 11) : shM M c x c' z = M c' z := by
  unfold shM
  rw [putv_ne h2, putv_ne h1]
theorem shM_up {c : Int} {x : Vec × Vec} {k a b : Int} (hc : c ≠ 11) (h1 : 0 ≤ k) (h2 : k < 8) : up2 (up2 (shM M c x) c k a) 11 k b = shM M c (upv x.1 k a, upv x.2 k b) := by
  unfold shM
  have e : up2 (putv (putv M c 0 x.1) 11 0 x.2) c k a = putv (putv M c 0 (upv x.1 k a)) 11 0 x.2 := by
    rw [putv_comm hc, up2_putv0 h1 h2, putv_comm hc.symm]
  rw [e, up2_putv0 h1 h2]
theorem l_shareC2 {g : GT} {lm : Nat × Nat} {RT : RTy} {R V set r n : Int} {x : Vec × Vec} {u8 : Option AV} (hs : 0 ≤ set ∧ set < 256) (hr0 : 0 ≤ r ∧ r < 64) (hn : 0 ≤ n ∧ n ≤ 7) (hc : 0 < cntb (bs set) 8) (hx : ∀ k, 0 ≤ k → k < 8 → bs set k = true → -1 ≤ x.2 k ∧ x.2 k ≤ 10000000000) (hr : RT none (toAH S (shM M (18 + 3 * r) (gvN (bs set) n.toNat x)))) :
    ∀ t : Nat, t ≤ n.toNat → G E g mi_X6_shareOut 3 lm RT 95 [some (vr 8), some (vi R), some (vi set), some (vr (18 + 3 * r)), some (vl V), none, some (vi n), some (vi (t : Int)), u8, none] [] (toAH S (shM M (18 + 3 * r) (gvN (bs set) t x))) := by
  refine down ?_ ?_
  · refine q_X6_shareOut_95 400 (lfok E (by omega)) ?_
    simp +contextual (disch := first | omega | exact Nat.le_of_ble_eq_true rfl | assumption) only [↓r_X6_shareOut_0, ↓r_X6_shareOut_1, ↓r_X6_shareOut_2, ↓r_X6_shareOut_5, ↓r_X6_shareOut_7, ↓r_X6_shareOut_9, ↓r_X6_shareOut_10, ↓r_X6_shareOut_11, ↓r_X6_shareOut_14, ↓r_X6_shareOut_15, ↓r_X6_shareOut_16, ↓r_X6_shareOut_17, ↓r_X6_shareOut_20, ↓r_X6_shareOut_21, ↓r_X6_shareOut_22, ↓r_X6_shareOut_24, ↓r_X6_shareOut_25, ↓r_X6_shareOut_27, ↓r_X6_shareOut_29, ↓r_X6_shareOut_31, ↓r_X6_shareOut_34, ↓r_X6_shareOut_35, ↓r_X6_shareOut_37, ↓r_X6_shareOut_40, ↓r_X6_shareOut_43, ↓r_X6_shareOut_44, ↓r_X6_shareOut_45, ↓r_X6_shareOut_46, ↓r_X6_shareOut_49, ↓r_X6_shareOut_51, ↓r_X6_shareOut_52, ↓r_X6_shareOut_53, ↓r_X6_shareOut_55, ↓r_X6_shareOut_56, ↓r_X6_shareOut_58, ↓r_X6_shareOut_60, ↓r_X6_shareOut_62, ↓r_X6_shareOut_63, ↓r_X6_shareOut_64, ↓r_X6_shareOut_65, ↓r_X6_shareOut_66, ↓r_X6_shareOut_69, ↓r_X6_shareOut_71, ↓r_X6_shareOut_73, ↓r_X6_shareOut_75, ↓r_X6_shareOut_76, ↓r_X6_shareOut_77, ↓r_X6_shareOut_79, ↓r_X6_shareOut_80, ↓r_X6_shareOut_82, ↓r_X6_shareOut_83, ↓r_X6_shareOut_84, ↓r_X6_shareOut_86, ↓r_X6_shareOut_89, ↓r_X6_shareOut_92, ↓r_X6_shareOut_93, ↓r_X6_shareOut_95, ↓r_X6_shareOut_97, ↓r_X6_shareOut_99, ↓r_X6_shareOut_102, ↓r_X6_shareOut_104, ↓r_X6_shareOut_106, ↓r_X6_shareOut_109, ↓r_X6_shareOut_110, ↓r_X6_shareOut_111, ↓r_X6_shareOut_112, ↓r_X6_shareOut_115, ↓r_X6_shareOut_118, ↓r_X6_shareOut_121, ↓x2_0, ↓x1_2, ↓v6_2, ↓x6_4n, ↓x6_4i, ↓x6_4r, ↓x3_4, ↓x27, ↓x24, ↓x31_4, ↓x1_1, ↓x2_3, ↓k_3, ↓x48_4, ↓x4_6n, ↓x4_6i, ↓x4_6r, ↓x0, ↓x4_7n, ↓x4_7i, ↓x4_7r, ↓x1_7, ↓x32_3, ↓lf_X8_isIn, ↓x31_0, ↓x31b0, ↓x25, ↓f6_0, ↓x21, ↓x6_8n, ↓x6_8i, ↓x6_8r, ↓x3_8, ↓x22, ↓x26, ↓f6_2, ↓x23, ↓x1_6, ↓x9, ↓x7_7n, ↓x7_7i, ↓x7_7r, ↓x33, ↓v6_3, ↓l_2, ↓s_2, ↓l_3, ↓s_3, ↓l_4, ↓s_4, ↓l_5, ↓s_5, ↓l_6, ↓s_6, ↓l_7, ↓l_9, ↓s_9, ↓l_10, ↓s_10, ↓l_11, ↓s_11, ↓l_12, ↓l_13, ↓l_15, ↓s_15, ↓l_16, ↓s_16, ↓l_r1, ↓s_r1, ↓l_r2, ↓s_r2, ↓l_w1, ↓s_w1, ↓l_w2, ↓s_w2, and_self, and_true, true_and, implies_true, true_implies, Int.reduceEq, Int.reduceLE, Int.reduceLT, not_true_eq_false, not_false_eq_true, false_implies, RTf_eq]
    exact ⟨fun q => hr, fun q => ⟨fun _ => hr, fun q2 => absurd (by omega) q2⟩⟩
  · intro t ht ih
    have hrs := gv_rs (m := bs set) (x := x) (B := 10000000000) (by omega) hx t
    obtain ⟨y, hy⟩ : ∃ y, y = gvN (bs set) t x := ⟨_, rfl⟩
    have e : gvN (bs set) (t + 1) x = gv (bs set) y := by rw [hy]; rfl
    rw [e] at ih
    rw [← hy] at hrs ⊢
    refine q_X6_shareOut_95 400 (lfok E (by omega)) ?_
    simp +contextual (disch := first | omega | exact Nat.le_of_ble_eq_true rfl | assumption) only [↓r_X6_shareOut_0, ↓r_X6_shareOut_1, ↓r_X6_shareOut_2, ↓r_X6_shareOut_5, ↓r_X6_shareOut_7, ↓r_X6_shareOut_9, ↓r_X6_shareOut_10, ↓r_X6_shareOut_11, ↓r_X6_shareOut_14, ↓r_X6_shareOut_15, ↓r_X6_shareOut_16, ↓r_X6_shareOut_17, ↓r_X6_shareOut_20, ↓r_X6_shareOut_21, ↓r_X6_shareOut_22, ↓r_X6_shareOut_24, ↓r_X6_shareOut_25, ↓r_X6_shareOut_27, ↓r_X6_shareOut_29, ↓r_X6_shareOut_31, ↓r_X6_shareOut_34, ↓r_X6_shareOut_35, ↓r_X6_shareOut_37, ↓r_X6_shareOut_40, ↓r_X6_shareOut_43, ↓r_X6_shareOut_44, ↓r_X6_shareOut_45, ↓r_X6_shareOut_46, ↓r_X6_shareOut_49, ↓r_X6_shareOut_51, ↓r_X6_shareOut_52, ↓r_X6_shareOut_53, ↓r_X6_shareOut_55, ↓r_X6_shareOut_56, ↓r_X6_shareOut_58, ↓r_X6_shareOut_60, ↓r_X6_shareOut_62, ↓r_X6_shareOut_63, ↓r_X6_shareOut_64, ↓r_X6_shareOut_65, ↓r_X6_shareOut_66, ↓r_X6_shareOut_69, ↓r_X6_shareOut_71, ↓r_X6_shareOut_73, ↓r_X6_shareOut_75, ↓r_X6_shareOut_76, ↓r_X6_shareOut_77, ↓r_X6_shareOut_79, ↓r_X6_shareOut_80, ↓r_X6_shareOut_82, ↓r_X6_shareOut_83, ↓r_X6_shareOut_84, ↓r_X6_shareOut_86, ↓r_X6_shareOut_89, ↓r_X6_shareOut_92, ↓r_X6_shareOut_93, ↓r_X6_shareOut_95, ↓r_X6_shareOut_97, ↓r_X6_shareOut_99, ↓r_X6_shareOut_102, ↓r_X6_shareOut_104, ↓r_X6_shareOut_106, ↓r_X6_shareOut_109, ↓r_X6_shareOut_110, ↓r_X6_shareOut_111, ↓r_X6_shareOut_112, ↓r_X6_shareOut_115, ↓r_X6_shareOut_118, ↓r_X6_shareOut_121, ↓x2_0, ↓x1_2, ↓v6_2, ↓x6_4n, ↓x6_4i, ↓x6_4r, ↓x3_4, ↓x27, ↓x24, ↓x31_4, ↓x1_1, ↓x2_3, ↓k_3, ↓x48_4, ↓x4_6n, ↓x4_6i, ↓x4_6r, ↓x0, ↓x4_7n, ↓x4_7i, ↓x4_7r, ↓x1_7, ↓x32_3, ↓lf_X8_isIn, ↓x31_0, ↓x31b0, ↓x25, ↓f6_0, ↓x21, ↓x6_8n, ↓x6_8i, ↓x6_8r, ↓x3_8, ↓x22, ↓x26, ↓f6_2, ↓x23, ↓x1_6, ↓x9, ↓x7_7n, ↓x7_7i, ↓x7_7r, ↓x33, ↓v6_3, ↓l_2, ↓s_2, ↓l_3, ↓s_3, ↓l_4, ↓s_4, ↓l_5, ↓s_5, ↓l_6, ↓s_6, ↓l_7, ↓l_9, ↓s_9, ↓l_10, ↓s_10, ↓l_11, ↓s_11, ↓l_12, ↓l_13, ↓l_15, ↓s_15, ↓l_16, ↓s_16, ↓l_r1, ↓s_r1, ↓l_r2, ↓s_r2, ↓l_w1, ↓s_w1, ↓l_w2, ↓s_w2, and_self, and_true, true_and, implies_true, true_implies, Int.reduceEq, Int.reduceLE, Int.reduceLT, not_true_eq_false, not_false_eq_true, false_implies, RTf_eq]
    refine ⟨fun q => by omega, fun _ => ⟨fun q => by omega, fun _ => ?_⟩⟩
    have hg11 : grF (bs set) (shM M (18 + 3 * r) y 11) 8 = grF (bs set) y.2 8 := grF_congr 8 (fun k a b => ⟨rfl, fun _ => shM_11 a (by omega)⟩)
    have hgr := grF_rng (bs set) y.2 8
    refine ck_v (c_giveOne hs hr0 (fun k a b c => by rw [shM_11 a b]; exact hrs k a b c) hc) (by omega) (by simp) ?_
    rw [hg11]
    have hne : 0 ≤ grF (bs set) y.2 8 ∧ grF (bs set) y.2 8 < 8 := by
      rcases hgr with q | q
      · exfalso
        have : ∀ n : Nat, n ≤ 8 → cntb (bs set) n = 0 := by
          intro n hn
          induction n with
          | zero => rfl
          | succ n ih =>
            show cntb (bs set) n + _ = 0
            rw [ih (by omega)]
            split
            · rename_i hm
              exact absurd q (grF_max (m := bs set) (v := y.2) 8 n (by omega) (by omega) hm).1
            · rfl
        have := this 8 (by omega)
        omega
      · omega
    rw [shM_c (by omega) hne.1 hne.2, shM_up (by omega) hne.1 hne.2]
    simp +contextual (disch := first | omega | exact Nat.le_of_ble_eq_true rfl | assumption) only [↓r_X6_shareOut_0, ↓r_X6_shareOut_1, ↓r_X6_shareOut_2, ↓r_X6_shareOut_5, ↓r_X6_shareOut_7, ↓r_X6_shareOut_9, ↓r_X6_shareOut_10, ↓r_X6_shareOut_11, ↓r_X6_shareOut_14, ↓r_X6_shareOut_15, ↓r_X6_shareOut_16, ↓r_X6_shareOut_17, ↓r_X6_shareOut_20, ↓r_X6_shareOut_21, ↓r_X6_shareOut_22, ↓r_X6_shareOut_24, ↓r_X6_shareOut_25, ↓r_X6_shareOut_27, ↓r_X6_shareOut_29, ↓r_X6_shareOut_31, ↓r_X6_shareOut_34, ↓r_X6_shareOut_35, ↓r_X6_shareOut_37, ↓r_X6_shareOut_40, ↓r_X6_shareOut_43, ↓r_X6_shareOut_44, ↓r_X6_shareOut_45, ↓r_X6_shareOut_46, ↓r_X6_shareOut_49, ↓r_X6_shareOut_51, ↓r_X6_shareOut_52, ↓r_X6_shareOut_53, ↓r_X6_shareOut_55, ↓r_X6_shareOut_56, ↓r_X6_shareOut_58, ↓r_X6_shareOut_60, ↓r_X6_shareOut_62, ↓r_X6_shareOut_63, ↓r_X6_shareOut_64, ↓r_X6_shareOut_65, ↓r_X6_shareOut_66, ↓r_X6_shareOut_69, ↓r_X6_shareOut_71, ↓r_X6_shareOut_73, ↓r_X6_shareOut_75, ↓r_X6_shareOut_76, ↓r_X6_shareOut_77, ↓r_X6_shareOut_79, ↓r_X6_shareOut_80, ↓r_X6_shareOut_82, ↓r_X6_shareOut_83, ↓r_X6_shareOut_84, ↓r_X6_shareOut_86, ↓r_X6_shareOut_89, ↓r_X6_shareOut_92, ↓r_X6_shareOut_93, ↓r_X6_shareOut_95, ↓r_X6_shareOut_97, ↓r_X6_shareOut_99, ↓r_X6_shareOut_102, ↓r_X6_shareOut_104, ↓r_X6_shareOut_106, ↓r_X6_shareOut_109, ↓r_X6_shareOut_110, ↓r_X6_shareOut_111, ↓r_X6_shareOut_112, ↓r_X6_shareOut_115, ↓r_X6_shareOut_118, ↓r_X6_shareOut_121, ↓x2_0, ↓x1_2, ↓v6_2, ↓x6_4n, ↓x6_4i, ↓x6_4r, ↓x3_4, ↓x27, ↓x24, ↓x31_4, ↓x1_1, ↓x2_3, ↓k_3, ↓x48_4, ↓x4_6n, ↓x4_6i, ↓x4_6r, ↓x0, ↓x4_7n, ↓x4_7i, ↓x4_7r, ↓x1_7, ↓x32_3, ↓lf_X8_isIn, ↓x31_0, ↓x31b0, ↓x25, ↓f6_0, ↓x21, ↓x6_8n, ↓x6_8i, ↓x6_8r, ↓x3_8, ↓x22, ↓x26, ↓f6_2, ↓x23, ↓x1_6, ↓x9, ↓x7_7n, ↓x7_7i, ↓x7_7r, ↓x33, ↓v6_3, ↓l_2, ↓s_2, ↓l_3, ↓s_3, ↓l_4, ↓s_4, ↓l_5, ↓s_5, ↓l_6, ↓s_6, ↓l_7, ↓l_9, ↓s_9, ↓l_10, ↓s_10, ↓l_11, ↓s_11, ↓l_12, ↓l_13, ↓l_15, ↓s_15, ↓l_16, ↓s_16, ↓l_r1, ↓s_r1, ↓l_r2, ↓s_r2, ↓l_w1, ↓s_w1, ↓l_w2, ↓s_w2, and_self, and_true, true_and, implies_true, true_implies, Int.reduceEq, Int.reduceLE, Int.reduceLT, not_true_eq_false, not_false_eq_true, false_implies, RTf_eq]
    exact ih
theorem l_shareC1 {g : GT} {lm : Nat × Nat} {RT : RTy} {R V set r : Int} (hs : 0 ≤ set ∧ set < 256) (hr0 : 0 ≤ r ∧ r < 64) (hR : 0 ≤ R ∧ R ≤ 1000) (hV : V = smv (bs set) (M 9) 8) (hV0 : 0 < V) (hV1 : V ≤ 80000000) (hp : ∀ k, 0 ≤ k → k < 8 → bs set k = true → 0 ≤ M 9 k ∧ M 9 k ≤ 10000000) (hc : 0 < cntb (bs set) 8)
    (hleft : 0 ≤ R - smv (bs set) (qv R V (bs set) (M 9) (M (18 + 3 * r))) 8 ∧ R - smv (bs set) (qv R V (bs set) (M 9) (M (18 + 3 * r))) 8 ≤ 7)
    (hr : RT none (toAH S (shM M (18 + 3 * r) (gvN (bs set) (R - smv (bs set) (qv R V (bs set) (M 9) (M (18 + 3 * r))) 8).toNat (qv R V (bs set) (M 9) (M (18 + 3 * r)), rv R V (bs set) (M 9) (M 11)))))) :
    ∀ k : Nat, k ≤ 8 → ∀ u8 : Option AV, (u8 = none ∨ ∃ z, u8 = some (vl z)) → G E g mi_X6_shareOut 3 lm RT 27 [some (vr 8), some (vi R), some (vi set), some (vr (18 + 3 * r)), some (vl V), none, some (vi (R - smv (bs set) (qv R V (bs set) (M 9) (M (18 + 3 * r))) k)), some (vi (k : Int)), u8, none] [] (toAH S (shM M (18 + 3 * r) (bl k (qv R V (bs set) (M 9) (M (18 + 3 * r))) (M (18 + 3 * r)), bl k (rv R V (bs set) (M 9) (M 11)) (M 11)))) := by
  have hmod : ∀ z : Int, 0 ≤ z % V ∧ z % V < V := fun z => ⟨Int.emod_nonneg _ (by omega), Int.emod_lt_of_pos _ hV0⟩
  refine down ?_ ?_
  · intro u8 hu8
    have e : shM M (18 + 3 * r) (bl 8 (qv R V (bs set) (M 9) (M (18 + 3 * r))) (M (18 + 3 * r)), bl 8 (rv R V (bs set) (M 9) (M 11)) (M 11)) = shM M (18 + 3 * r) (qv R V (bs set) (M 9) (M (18 + 3 * r)), rv R V (bs set) (M 9) (M 11)) := by
      unfold shM
      rw [putv_congr (f := bl 8 (rv R V (bs set) (M 9) (M 11)) (M 11)) (fun k a b => bl_8 b)]
      rw [putv_congr (c := 18 + 3 * r) (fun k a b => bl_8 b)]
    rw [e]
    refine q_X6_shareOut_27 400 (lfok E (by omega)) ?_
    simp +contextual (disch := first | omega | exact Nat.le_of_ble_eq_true rfl | assumption) only [↓r_X6_shareOut_0, ↓r_X6_shareOut_1, ↓r_X6_shareOut_2, ↓r_X6_shareOut_5, ↓r_X6_shareOut_7, ↓r_X6_shareOut_9, ↓r_X6_shareOut_10, ↓r_X6_shareOut_11, ↓r_X6_shareOut_14, ↓r_X6_shareOut_15, ↓r_X6_shareOut_16, ↓r_X6_shareOut_17, ↓r_X6_shareOut_20, ↓r_X6_shareOut_21, ↓r_X6_shareOut_22, ↓r_X6_shareOut_24, ↓r_X6_shareOut_25, ↓r_X6_shareOut_27, ↓r_X6_shareOut_29, ↓r_X6_shareOut_31, ↓r_X6_shareOut_34, ↓r_X6_shareOut_35, ↓r_X6_shareOut_37, ↓r_X6_shareOut_40, ↓r_X6_shareOut_43, ↓r_X6_shareOut_44, ↓r_X6_shareOut_45, ↓r_X6_shareOut_46, ↓r_X6_shareOut_49, ↓r_X6_shareOut_51, ↓r_X6_shareOut_52, ↓r_X6_shareOut_53, ↓r_X6_shareOut_55, ↓r_X6_shareOut_56, ↓r_X6_shareOut_58, ↓r_X6_shareOut_60, ↓r_X6_shareOut_62, ↓r_X6_shareOut_63, ↓r_X6_shareOut_64, ↓r_X6_shareOut_65, ↓r_X6_shareOut_66, ↓r_X6_shareOut_69, ↓r_X6_shareOut_71, ↓r_X6_shareOut_73, ↓r_X6_shareOut_75, ↓r_X6_shareOut_76, ↓r_X6_shareOut_77, ↓r_X6_shareOut_79, ↓r_X6_shareOut_80, ↓r_X6_shareOut_82, ↓r_X6_shareOut_83, ↓r_X6_shareOut_84, ↓r_X6_shareOut_86, ↓r_X6_shareOut_89, ↓r_X6_shareOut_92, ↓r_X6_shareOut_93, ↓r_X6_shareOut_95, ↓r_X6_shareOut_97, ↓r_X6_shareOut_99, ↓r_X6_shareOut_102, ↓r_X6_shareOut_104, ↓r_X6_shareOut_106, ↓r_X6_shareOut_109, ↓r_X6_shareOut_110, ↓r_X6_shareOut_111, ↓r_X6_shareOut_112, ↓r_X6_shareOut_115, ↓r_X6_shareOut_118, ↓r_X6_shareOut_121, ↓x2_0, ↓x1_2, ↓v6_2, ↓x6_4n, ↓x6_4i, ↓x6_4r, ↓x3_4, ↓x27, ↓x24, ↓x31_4, ↓x1_1, ↓x2_3, ↓k_3, ↓x48_4, ↓x4_6n, ↓x4_6i, ↓x4_6r, ↓x0, ↓x4_7n, ↓x4_7i, ↓x4_7r, ↓x1_7, ↓x32_3, ↓lf_X8_isIn, ↓x31_0, ↓x31b0, ↓x25, ↓f6_0, ↓x21, ↓x6_8n, ↓x6_8i, ↓x6_8r, ↓x3_8, ↓x22, ↓x26, ↓f6_2, ↓x23, ↓x1_6, ↓x9, ↓x7_7n, ↓x7_7i, ↓x7_7r, ↓x33, ↓v6_3, ↓l_2, ↓s_2, ↓l_3, ↓s_3, ↓l_4, ↓s_4, ↓l_5, ↓s_5, ↓l_6, ↓s_6, ↓l_7, ↓l_9, ↓s_9, ↓l_10, ↓s_10, ↓l_11, ↓s_11, ↓l_12, ↓l_13, ↓l_15, ↓s_15, ↓l_16, ↓s_16, ↓l_r1, ↓s_r1, ↓l_r2, ↓s_r2, ↓l_w1, ↓s_w1, ↓l_w2, ↓s_w2, and_self, and_true, true_and, implies_true, true_implies, Int.reduceEq, Int.reduceLE, Int.reduceLT, not_true_eq_false, not_false_eq_true, false_implies, RTf_eq]
    refine ⟨fun _ => ?_, fun q => absurd (by omega) q⟩
    have := l_shareC2 (E := E) (S := S) (M := M) (g := g) (lm := lm) (RT := RT) (R := R) (V := V) (u8 := u8) (x := (qv R V (bs set) (M 9) (M (18 + 3 * r)), rv R V (bs set) (M 9) (M 11))) hs hr0 hleft hc (fun k a b c => by simp only [rv, c, if_true]; have := hmod (R * M 9 k); omega) hr 0 (by omega)
    exact this
  · intro k hk ih u8 hu8
    have e1 : smv (bs set) (qv R V (bs set) (M 9) (M (18 + 3 * r))) (k + 1) = smv (bs set) (qv R V (bs set) (M 9) (M (18 + 3 * r))) k + (if bs set (k : Int) = true then qv R V (bs set) (M 9) (M (18 + 3 * r)) (k : Int) else 0) := rfl
    rw [e1] at ih
    have h9 : ∀ x z, shM M (18 + 3 * r) x 9 z = M 9 z := fun x z => shM_ne (by omega) (by omega)
    obtain ⟨y, hy⟩ : ∃ y, y = (bl k (qv R V (bs set) (M 9) (M (18 + 3 * r))) (M (18 + 3 * r)), bl k (rv R V (bs set) (M 9) (M 11)) (M 11)) := ⟨_, rfl⟩
    rw [← hy]
    refine q_X6_shareOut_27 400 (lfok E (by omega)) ?_
    simp +contextual (disch := first | omega | exact Nat.le_of_ble_eq_true rfl | assumption) only [↓r_X6_shareOut_0, ↓r_X6_shareOut_1, ↓r_X6_shareOut_2, ↓r_X6_shareOut_5, ↓r_X6_shareOut_7, ↓r_X6_shareOut_9, ↓r_X6_shareOut_10, ↓r_X6_shareOut_11, ↓r_X6_shareOut_14, ↓r_X6_shareOut_15, ↓r_X6_shareOut_16, ↓r_X6_shareOut_17, ↓r_X6_shareOut_20, ↓r_X6_shareOut_21, ↓r_X6_shareOut_22, ↓r_X6_shareOut_24, ↓r_X6_shareOut_25, ↓r_X6_shareOut_27, ↓r_X6_shareOut_29, ↓r_X6_shareOut_31, ↓r_X6_shareOut_34, ↓r_X6_shareOut_35, ↓r_X6_shareOut_37, ↓r_X6_shareOut_40, ↓r_X6_shareOut_43, ↓r_X6_shareOut_44, ↓r_X6_shareOut_45, ↓r_X6_shareOut_46, ↓r_X6_shareOut_49, ↓r_X6_shareOut_51, ↓r_X6_shareOut_52, ↓r_X6_shareOut_53, ↓r_X6_shareOut_55, ↓r_X6_shareOut_56, ↓r_X6_shareOut_58, ↓r_X6_shareOut_60, ↓r_X6_shareOut_62, ↓r_X6_shareOut_63, ↓r_X6_shareOut_64, ↓r_X6_shareOut_65, ↓r_X6_shareOut_66, ↓r_X6_shareOut_69, ↓r_X6_shareOut_71, ↓r_X6_shareOut_73, ↓r_X6_shareOut_75, ↓r_X6_shareOut_76, ↓r_X6_shareOut_77, ↓r_X6_shareOut_79, ↓r_X6_shareOut_80, ↓r_X6_shareOut_82, ↓r_X6_shareOut_83, ↓r_X6_shareOut_84, ↓r_X6_shareOut_86, ↓r_X6_shareOut_89, ↓r_X6_shareOut_92, ↓r_X6_shareOut_93, ↓r_X6_shareOut_95, ↓r_X6_shareOut_97, ↓r_X6_shareOut_99, ↓r_X6_shareOut_102, ↓r_X6_shareOut_104, ↓r_X6_shareOut_106, ↓r_X6_shareOut_109, ↓r_X6_shareOut_110, ↓r_X6_shareOut_111, ↓r_X6_shareOut_112, ↓r_X6_shareOut_115, ↓r_X6_shareOut_118, ↓r_X6_shareOut_121, ↓x2_0, ↓x1_2, ↓v6_2, ↓x6_4n, ↓x6_4i, ↓x6_4r, ↓x3_4, ↓x27, ↓x24, ↓x31_4, ↓x1_1, ↓x2_3, ↓k_3, ↓x48_4, ↓x4_6n, ↓x4_6i, ↓x4_6r, ↓x0, ↓x4_7n, ↓x4_7i, ↓x4_7r, ↓x1_7, ↓x32_3, ↓lf_X8_isIn, ↓x31_0, ↓x31b0, ↓x25, ↓f6_0, ↓x21, ↓x6_8n, ↓x6_8i, ↓x6_8r, ↓x3_8, ↓x22, ↓x26, ↓f6_2, ↓x23, ↓x1_6, ↓x9, ↓x7_7n, ↓x7_7i, ↓x7_7r, ↓x33, ↓v6_3, ↓l_2, ↓s_2, ↓l_3, ↓s_3, ↓l_4, ↓s_4, ↓l_5, ↓s_5, ↓l_6, ↓s_6, ↓l_7, ↓l_9, ↓s_9, ↓l_10, ↓s_10, ↓l_11, ↓s_11, ↓l_12, ↓l_13, ↓l_15, ↓s_15, ↓l_16, ↓s_16, ↓l_r1, ↓s_r1, ↓l_r2, ↓s_r2, ↓l_w1, ↓s_w1, ↓l_w2, ↓s_w2, and_self, and_true, true_and, implies_true, true_implies, Int.reduceEq, Int.reduceLE, Int.reduceLT, not_true_eq_false, not_false_eq_true, false_implies, RTf_eq, h9]
    refine ⟨fun q => by omega, fun _ => ⟨fun q => ?_, fun q => ?_⟩⟩
    · have q' : ¬ bs set (k : Int) = true := q
      rw [if_neg q', ← bl_n (by simp [qv, q']), ← bl_n (by simp [rv, q']), ← hy] at ih
      have := ih u8 hu8
      rw [Int.add_zero] at this
      exact this
    · have q' : bs set (k : Int) = true := q
      have hpk := hp k (by omega) (by omega) q'
      have hm := mulb hR.1 hR.2 hpk.1 hpk.2
      have hle := smv_ge (m := bs set) (v := M 9) 8 (fun k a b c => (hp k a (by omega) c).1) k (by omega) (by omega) q'
      have hq := divb (R := R) (p := M 9 k) (V := V) hR.1 hpk.1 (by omega) hV0
      have hql : qv R V (bs set) (M 9) (M (18 + 3 * r)) (k : Int) = R * M 9 k / V := by simp [qv, q']
      have hrl : rv R V (bs set) (M 9) (M 11) (k : Int) = R * M 9 k % V := by simp [rv, q']
      rw [if_pos q', ← bl_s, ← bl_s, hql, hrl] at ih
      rcases hu8 with rfl | ⟨z8, rfl⟩
      all_goals
        simp +contextual (disch := first | omega | exact Nat.le_of_ble_eq_true rfl | assumption) only [↓r_X6_shareOut_0, ↓r_X6_shareOut_1, ↓r_X6_shareOut_2, ↓r_X6_shareOut_5, ↓r_X6_shareOut_7, ↓r_X6_shareOut_9, ↓r_X6_shareOut_10, ↓r_X6_shareOut_11, ↓r_X6_shareOut_14, ↓r_X6_shareOut_15, ↓r_X6_shareOut_16, ↓r_X6_shareOut_17, ↓r_X6_shareOut_20, ↓r_X6_shareOut_21, ↓r_X6_shareOut_22, ↓r_X6_shareOut_24, ↓r_X6_shareOut_25, ↓r_X6_shareOut_27, ↓r_X6_shareOut_29, ↓r_X6_shareOut_31, ↓r_X6_shareOut_34, ↓r_X6_shareOut_35, ↓r_X6_shareOut_37, ↓r_X6_shareOut_40, ↓r_X6_shareOut_43, ↓r_X6_shareOut_44, ↓r_X6_shareOut_45, ↓r_X6_shareOut_46, ↓r_X6_shareOut_49, ↓r_X6_shareOut_51, ↓r_X6_shareOut_52, ↓r_X6_shareOut_53, ↓r_X6_shareOut_55, ↓r_X6_shareOut_56, ↓r_X6_shareOut_58, ↓r_X6_shareOut_60, ↓r_X6_shareOut_62, ↓r_X6_shareOut_63, ↓r_X6_shareOut_64, ↓r_X6_shareOut_65, ↓r_X6_shareOut_66, ↓r_X6_shareOut_69, ↓r_X6_shareOut_71, ↓r_X6_shareOut_73, ↓r_X6_shareOut_75, ↓r_X6_shareOut_76, ↓r_X6_shareOut_77, ↓r_X6_shareOut_79, ↓r_X6_shareOut_80, ↓r_X6_shareOut_82, ↓r_X6_shareOut_83, ↓r_X6_shareOut_84, ↓r_X6_shareOut_86, ↓r_X6_shareOut_89, ↓r_X6_shareOut_92, ↓r_X6_shareOut_93, ↓r_X6_shareOut_95, ↓r_X6_shareOut_97, ↓r_X6_shareOut_99, ↓r_X6_shareOut_102, ↓r_X6_shareOut_104, ↓r_X6_shareOut_106, ↓r_X6_shareOut_109, ↓r_X6_shareOut_110, ↓r_X6_shareOut_111, ↓r_X6_shareOut_112, ↓r_X6_shareOut_115, ↓r_X6_shareOut_118, ↓r_X6_shareOut_121, ↓x2_0, ↓x1_2, ↓v6_2, ↓x6_4n, ↓x6_4i, ↓x6_4r, ↓x3_4, ↓x27, ↓x24, ↓x31_4, ↓x1_1, ↓x2_3, ↓k_3, ↓x48_4, ↓x4_6n, ↓x4_6i, ↓x4_6r, ↓x0, ↓x4_7n, ↓x4_7i, ↓x4_7r, ↓x1_7, ↓x32_3, ↓lf_X8_isIn, ↓x31_0, ↓x31b0, ↓x25, ↓f6_0, ↓x21, ↓x6_8n, ↓x6_8i, ↓x6_8r, ↓x3_8, ↓x22, ↓x26, ↓f6_2, ↓x23, ↓x1_6, ↓x9, ↓x7_7n, ↓x7_7i, ↓x7_7r, ↓x33, ↓v6_3, ↓l_2, ↓s_2, ↓l_3, ↓s_3, ↓l_4, ↓s_4, ↓l_5, ↓s_5, ↓l_6, ↓s_6, ↓l_7, ↓l_9, ↓s_9, ↓l_10, ↓s_10, ↓l_11, ↓s_11, ↓l_12, ↓l_13, ↓l_15, ↓s_15, ↓l_16, ↓s_16, ↓l_r1, ↓s_r1, ↓l_r2, ↓s_r2, ↓l_w1, ↓s_w1, ↓l_w2, ↓s_w2, and_self, and_true, true_and, implies_true, true_implies, Int.reduceEq, Int.reduceLE, Int.reduceLT, not_true_eq_false, not_false_eq_true, false_implies, RTf_eq, h9]
        rw [shM_up (by omega) (by omega) (by omega), shM_c (by omega) (by omega) (by omega)]
        have e9 : (upv y.1 (k : Int) (R * M 9 k / V), upv y.2 (k : Int) (R * M 9 k % V)).1 (k : Int) = R * M 9 k / V := upv_eq
        rw [e9, Int.sub_sub, hy]
        exact ih _ (Or.inr ⟨_, rfl⟩)
end
theorem smv_mul {m : Set8} {p : Vec} {R : Int} : ∀ n : Nat, smv m (fun k => R * p k) n = R * smv m p n := by
  intro n
  induction n with
  | zero => simp [smv]
  | succ n ih =>
    unfold smv
    rw [ih, Int.mul_add]
    split <;> simp
theorem smv_add {m : Set8} {a b : Vec} : ∀ n : Nat, smv m (fun k => a k + b k) n = smv m a n + smv m b n := by
  intro n
  induction n with
  | zero => simp [smv]
  | succ n ih =>
    unfold smv
    rw [ih]
    split <;> omega
theorem smv_lec {m : Set8} {v : Vec} {x : Int} : ∀ n : Nat, (∀ k : Int, 0 ≤ k → k < (n : Int) → m k = true → v k ≤ x) → smv m v n ≤ x * cntb m n := by
  intro n
  induction n with
  | zero => intro _; simp [smv, cntb]
  | succ n ih =>
    intro h
    unfold smv cntb
    have h1 := ih (fun k a b c => h k a (by omega) c)
    rw [Int.mul_add]
    split
    · rename_i hm
      have := h n (by omega) (by omega) hm
      omega
    · omega
/-- what is left is less than there are to get one -/
theorem left_lt {R V : Int} {m : Set8} {p v : Vec} (hV : V = smv m p 8) (hV0 : 0 < V) (hc : 0 < cntb m 8) : 0 ≤ R - smv m (qv R V m p v) 8 ∧ R - smv m (qv R V m p v) 8 ≤ cntb m 8 - 1 := by
  have e1 : smv m (fun k => V * (R * p k / V) + R * p k % V) 8 = R * V := by
    have : (fun k => V * (R * p k / V) + R * p k % V) = fun k => R * p k := by
      funext k
      exact Int.mul_ediv_add_emod _ _
    rw [this, smv_mul, hV]
  rw [smv_add, smv_mul] at e1
  have e2 : smv m (fun k => R * p k / V) 8 = smv m (qv R V m p v) 8 := smv_congr 8 (fun k a b => ⟨rfl, fun c => by simp [qv, c]⟩)
  rw [e2] at e1
  have h1 := smv_nonneg (m := m) (v := fun k => R * p k % V) 8 (fun k _ _ _ => Int.emod_nonneg _ (by omega))
  have h2 := smv_lec (m := m) (v := fun k => R * p k % V) (x := V - 1) 8 (fun k _ _ _ => by have := Int.emod_lt_of_pos (R * p k) hV0; omega)
  generalize smv m (qv R V m p v) 8 = Q at *
  generalize smv m (fun k => R * p k % V) 8 = T at *
  generalize cntb m 8 = C at *
  have e3 : V * (R - Q) = T := by rw [Int.mul_sub, Int.mul_comm V R]; omega
  constructor
  · by_cases h : 0 ≤ R - Q
    · exact h
    · exfalso
      have : V * (R - Q) < 0 := Int.mul_neg_of_pos_of_neg hV0 (by omega)
      omega
  · by_cases h : R - Q ≤ C - 1
    · exact h
    · exfalso
      have h5 : V * C ≤ V * (R - Q) := Int.mul_le_mul_of_nonneg_left (by omega) (by omega)
      have h6 : (V - 1) * C = V * C - C := by rw [Int.sub_mul]; simp
      omega
/-- a number shared out among a set, by parts -/
def shF (R : Int) (m : Set8) (p v w : Vec) : Vec × Vec := gvN m (R - smv m (qv R (smv m p 8) m p v) 8).toNat (qv R (smv m p 8) m p v, rv R (smv m p 8) m p w)
section
variable {E : ET} {S : SCR} {M : Mem}
theorem c_shareOutC {R set r : Int} (hs : 0 ≤ set ∧ set < 256) (hr0 : 0 ≤ r ∧ r < 64) (hR : 0 ≤ R ∧ R ≤ 1000) (hp : ∀ k, 0 ≤ k → k < 8 → bs set k = true → 0 ≤ M 9 k ∧ M 9 k ≤ 10000000) : Ctr E 3 33 [vr 8, vi R, vi set, vr (18 + 3 * r)] (toAH S M) none (toAH S (if 0 < smv (bs set) (M 9) 8 then shM M (18 + 3 * r) (shF R (bs set) (M 9) (M (18 + 3 * r)) (M 11)) else putv M (18 + 3 * r) 0 (evF R (bs set) (getv M (18 + 3 * r) 0)))) := by
  have hV1 := smv_le (m := bs set) (v := M 9) (x := 10000000) (by omega) 8 (fun k a b c => (hp k a (by omega) c).2)
  have hV2 := smv_nonneg (m := bs set) (v := M 9) 8 (fun k a b c => (hp k a (by omega) c).1)
  have hV3 : smv (bs set) (M 9) 8 ≤ 80000000 := hV1
  obtain ⟨V, hV⟩ : ∃ V, V = smv (bs set) (M 9) 8 := ⟨_, rfl⟩
  rw [← hV] at hV2 hV3 ⊢
  refine Ctr_f mi_X6_shareOut mo_X6_shareOut (Nat.le_of_ble_eq_true rfl) ⟨Nat.le_refl _, Nat.le_refl _⟩ (fun g lm => ?_)
  rw [show entL mi_X6_shareOut.2.2.1 [vr 8, vi R, vi set, vr (18 + 3 * r)] = [some (vr 8), some (vi R), some (vi set), some (vr (18 + 3 * r)), none, none, none, none, none, none] from rfl]
  refine e_X6_shareOut 400 (lfok E (by omega)) ?_
  simp +contextual (disch := first | omega | exact Nat.le_of_ble_eq_true rfl | assumption) only [↓r_X6_shareOut_0, ↓r_X6_shareOut_1, ↓r_X6_shareOut_2, ↓r_X6_shareOut_5, ↓r_X6_shareOut_7, ↓r_X6_shareOut_9, ↓r_X6_shareOut_10, ↓r_X6_shareOut_11, ↓r_X6_shareOut_14, ↓r_X6_shareOut_15, ↓r_X6_shareOut_16, ↓r_X6_shareOut_17, ↓r_X6_shareOut_20, ↓r_X6_shareOut_21, ↓r_X6_shareOut_22, ↓r_X6_shareOut_24, ↓r_X6_shareOut_25, ↓r_X6_shareOut_27, ↓r_X6_shareOut_29, ↓r_X6_shareOut_31, ↓r_X6_shareOut_34, ↓r_X6_shareOut_35, ↓r_X6_shareOut_37, ↓r_X6_shareOut_40, ↓r_X6_shareOut_43, ↓r_X6_shareOut_44, ↓r_X6_shareOut_45, ↓r_X6_shareOut_46, ↓r_X6_shareOut_49, ↓r_X6_shareOut_51, ↓r_X6_shareOut_52, ↓r_X6_shareOut_53, ↓r_X6_shareOut_55, ↓r_X6_shareOut_56, ↓r_X6_shareOut_58, ↓r_X6_shareOut_60, ↓r_X6_shareOut_62, ↓r_X6_shareOut_63, ↓r_X6_shareOut_64, ↓r_X6_shareOut_65, ↓r_X6_shareOut_66, ↓r_X6_shareOut_69, ↓r_X6_shareOut_71, ↓r_X6_shareOut_73, ↓r_X6_shareOut_75, ↓r_X6_shareOut_76, ↓r_X6_shareOut_77, ↓r_X6_shareOut_79, ↓r_X6_shareOut_80, ↓r_X6_shareOut_82, ↓r_X6_shareOut_83, ↓r_X6_shareOut_84, ↓r_X6_shareOut_86, ↓r_X6_shareOut_89, ↓r_X6_shareOut_92, ↓r_X6_shareOut_93, ↓r_X6_shareOut_95, ↓r_X6_shareOut_97, ↓r_X6_shareOut_99, ↓r_X6_shareOut_102, ↓r_X6_shareOut_104, ↓r_X6_shareOut_106, ↓r_X6_shareOut_109, ↓r_X6_shareOut_110, ↓r_X6_shareOut_111, ↓r_X6_shareOut_112, ↓r_X6_shareOut_115, ↓r_X6_shareOut_118, ↓r_X6_shareOut_121, ↓x2_0, ↓x1_2, ↓v6_2, ↓x6_4n, ↓x6_4i, ↓x6_4r, ↓x3_4, ↓x27, ↓x24, ↓x31_4, ↓x1_1, ↓x2_3, ↓k_3, ↓x48_4, ↓x4_6n, ↓x4_6i, ↓x4_6r, ↓x0, ↓x4_7n, ↓x4_7i, ↓x4_7r, ↓x1_7, ↓x32_3, ↓lf_X8_isIn, ↓x31_0, ↓x31b0, ↓x25, ↓f6_0, ↓x21, ↓x6_8n, ↓x6_8i, ↓x6_8r, ↓x3_8, ↓x22, ↓x26, ↓f6_2, ↓x23, ↓x1_6, ↓x9, ↓x7_7n, ↓x7_7i, ↓x7_7r, ↓x33, ↓v6_3, ↓l_2, ↓s_2, ↓l_3, ↓s_3, ↓l_4, ↓s_4, ↓l_5, ↓s_5, ↓l_6, ↓s_6, ↓l_7, ↓l_9, ↓s_9, ↓l_10, ↓s_10, ↓l_11, ↓s_11, ↓l_12, ↓l_13, ↓l_15, ↓s_15, ↓l_16, ↓s_16, ↓l_r1, ↓s_r1, ↓l_r2, ↓s_r2, ↓l_w1, ↓s_w1, ↓l_w2, ↓s_w2, and_self, and_true, true_and, implies_true, true_implies, Int.reduceEq, Int.reduceLE, Int.reduceLT, not_true_eq_false, not_false_eq_true, false_implies, RTf_eq]
  refine ck_r (c_sumOfValues hs) (by omega) (by simp) ?_
  rw [← hV]
  simp +contextual (disch := first | omega | exact Nat.le_of_ble_eq_true rfl | assumption) only [↓r_X6_shareOut_0, ↓r_X6_shareOut_1, ↓r_X6_shareOut_2, ↓r_X6_shareOut_5, ↓r_X6_shareOut_7, ↓r_X6_shareOut_9, ↓r_X6_shareOut_10, ↓r_X6_shareOut_11, ↓r_X6_shareOut_14, ↓r_X6_shareOut_15, ↓r_X6_shareOut_16, ↓r_X6_shareOut_17, ↓r_X6_shareOut_20, ↓r_X6_shareOut_21, ↓r_X6_shareOut_22, ↓r_X6_shareOut_24, ↓r_X6_shareOut_25, ↓r_X6_shareOut_27, ↓r_X6_shareOut_29, ↓r_X6_shareOut_31, ↓r_X6_shareOut_34, ↓r_X6_shareOut_35, ↓r_X6_shareOut_37, ↓r_X6_shareOut_40, ↓r_X6_shareOut_43, ↓r_X6_shareOut_44, ↓r_X6_shareOut_45, ↓r_X6_shareOut_46, ↓r_X6_shareOut_49, ↓r_X6_shareOut_51, ↓r_X6_shareOut_52, ↓r_X6_shareOut_53, ↓r_X6_shareOut_55, ↓r_X6_shareOut_56, ↓r_X6_shareOut_58, ↓r_X6_shareOut_60, ↓r_X6_shareOut_62, ↓r_X6_shareOut_63, ↓r_X6_shareOut_64, ↓r_X6_shareOut_65, ↓r_X6_shareOut_66, ↓r_X6_shareOut_69, ↓r_X6_shareOut_71, ↓r_X6_shareOut_73, ↓r_X6_shareOut_75, ↓r_X6_shareOut_76, ↓r_X6_shareOut_77, ↓r_X6_shareOut_79, ↓r_X6_shareOut_80, ↓r_X6_shareOut_82, ↓r_X6_shareOut_83, ↓r_X6_shareOut_84, ↓r_X6_shareOut_86, ↓r_X6_shareOut_89, ↓r_X6_shareOut_92, ↓r_X6_shareOut_93, ↓r_X6_shareOut_95, ↓r_X6_shareOut_97, ↓r_X6_shareOut_99, ↓r_X6_shareOut_102, ↓r_X6_shareOut_104, ↓r_X6_shareOut_106, ↓r_X6_shareOut_109, ↓r_X6_shareOut_110, ↓r_X6_shareOut_111, ↓r_X6_shareOut_112, ↓r_X6_shareOut_115, ↓r_X6_shareOut_118, ↓r_X6_shareOut_121, ↓x2_0, ↓x1_2, ↓v6_2, ↓x6_4n, ↓x6_4i, ↓x6_4r, ↓x3_4, ↓x27, ↓x24, ↓x31_4, ↓x1_1, ↓x2_3, ↓k_3, ↓x48_4, ↓x4_6n, ↓x4_6i, ↓x4_6r, ↓x0, ↓x4_7n, ↓x4_7i, ↓x4_7r, ↓x1_7, ↓x32_3, ↓lf_X8_isIn, ↓x31_0, ↓x31b0, ↓x25, ↓f6_0, ↓x21, ↓x6_8n, ↓x6_8i, ↓x6_8r, ↓x3_8, ↓x22, ↓x26, ↓f6_2, ↓x23, ↓x1_6, ↓x9, ↓x7_7n, ↓x7_7i, ↓x7_7r, ↓x33, ↓v6_3, ↓l_2, ↓s_2, ↓l_3, ↓s_3, ↓l_4, ↓s_4, ↓l_5, ↓s_5, ↓l_6, ↓s_6, ↓l_7, ↓l_9, ↓s_9, ↓l_10, ↓s_10, ↓l_11, ↓s_11, ↓l_12, ↓l_13, ↓l_15, ↓s_15, ↓l_16, ↓s_16, ↓l_r1, ↓s_r1, ↓l_r2, ↓s_r2, ↓l_w1, ↓s_w1, ↓l_w2, ↓s_w2, and_self, and_true, true_and, implies_true, true_implies, Int.reduceEq, Int.reduceLE, Int.reduceLT, not_true_eq_false, not_false_eq_true, false_implies, RTf_eq, ↓x31c4]
  refine ⟨fun q => ?_, fun q => ?_⟩
  · have hc : 0 < cntb (bs set) 8 := by
      have := cntb_rng (bs set) 8
      by_cases h : cntb (bs set) 8 = 0
      · exfalso
        have h2 := smv_lec (m := bs set) (v := M 9) (x := 10000000) 8 (fun k a b c => (hp k a (by omega) c).2)
        rw [h, ← hV] at h2
        omega
      · omega
    have hl := left_lt (R := R) (v := M (18 + 3 * r)) hV q hc
    have hc8 := cntb_rng (bs set) 8
    rw [if_pos trivial]
    have h0 : shM M (18 + 3 * r) (bl 0 (qv R V (bs set) (M 9) (M (18 + 3 * r))) (M (18 + 3 * r)), bl 0 (rv R V (bs set) (M 9) (M 11)) (M 11)) = M := by
      unfold shM
      have e1 : putv M (18 + 3 * r) 0 (bl 0 (qv R V (bs set) (M 9) (M (18 + 3 * r))) (M (18 + 3 * r))) = M := putv_id (fun k a b => by rw [bl_0 a, Int.zero_add])
      rw [e1]
      exact putv_id (fun k a b => by rw [Int.zero_add]; exact bl_0 a)
    have := l_shareC1 (E := E) (S := S) (M := M) (g := g) (lm := lm) (RT := RTf none (toAH S (shM M (18 + 3 * r) (shF R (bs set) (M 9) (M (18 + 3 * r)) (M 11))))) hs hr0 hR hV q hV3 hp hc ⟨hl.1, by omega⟩ ⟨rfl, by rw [hV]; rfl⟩ 0 (by omega) none (Or.inl rfl)
    rw [h0] at this
    simpa [smv] using this
  · rw [if_neg (fun h => h)]
    refine ck_v (c_evenOut hs hr0 hR) (by omega) (by simp) ?_
    simp +contextual (disch := first | omega | exact Nat.le_of_ble_eq_true rfl | assumption) only [↓r_X6_shareOut_0, ↓r_X6_shareOut_1, ↓r_X6_shareOut_2, ↓r_X6_shareOut_5, ↓r_X6_shareOut_7, ↓r_X6_shareOut_9, ↓r_X6_shareOut_10, ↓r_X6_shareOut_11, ↓r_X6_shareOut_14, ↓r_X6_shareOut_15, ↓r_X6_shareOut_16, ↓r_X6_shareOut_17, ↓r_X6_shareOut_20, ↓r_X6_shareOut_21, ↓r_X6_shareOut_22, ↓r_X6_shareOut_24, ↓r_X6_shareOut_25, ↓r_X6_shareOut_27, ↓r_X6_shareOut_29, ↓r_X6_shareOut_31, ↓r_X6_shareOut_34, ↓r_X6_shareOut_35, ↓r_X6_shareOut_37, ↓r_X6_shareOut_40, ↓r_X6_shareOut_43, ↓r_X6_shareOut_44, ↓r_X6_shareOut_45, ↓r_X6_shareOut_46, ↓r_X6_shareOut_49, ↓r_X6_shareOut_51, ↓r_X6_shareOut_52, ↓r_X6_shareOut_53, ↓r_X6_shareOut_55, ↓r_X6_shareOut_56, ↓r_X6_shareOut_58, ↓r_X6_shareOut_60, ↓r_X6_shareOut_62, ↓r_X6_shareOut_63, ↓r_X6_shareOut_64, ↓r_X6_shareOut_65, ↓r_X6_shareOut_66, ↓r_X6_shareOut_69, ↓r_X6_shareOut_71, ↓r_X6_shareOut_73, ↓r_X6_shareOut_75, ↓r_X6_shareOut_76, ↓r_X6_shareOut_77, ↓r_X6_shareOut_79, ↓r_X6_shareOut_80, ↓r_X6_shareOut_82, ↓r_X6_shareOut_83, ↓r_X6_shareOut_84, ↓r_X6_shareOut_86, ↓r_X6_shareOut_89, ↓r_X6_shareOut_92, ↓r_X6_shareOut_93, ↓r_X6_shareOut_95, ↓r_X6_shareOut_97, ↓r_X6_shareOut_99, ↓r_X6_shareOut_102, ↓r_X6_shareOut_104, ↓r_X6_shareOut_106, ↓r_X6_shareOut_109, ↓r_X6_shareOut_110, ↓r_X6_shareOut_111, ↓r_X6_shareOut_112, ↓r_X6_shareOut_115, ↓r_X6_shareOut_118, ↓r_X6_shareOut_121, ↓x2_0, ↓x1_2, ↓v6_2, ↓x6_4n, ↓x6_4i, ↓x6_4r, ↓x3_4, ↓x27, ↓x24, ↓x31_4, ↓x1_1, ↓x2_3, ↓k_3, ↓x48_4, ↓x4_6n, ↓x4_6i, ↓x4_6r, ↓x0, ↓x4_7n, ↓x4_7i, ↓x4_7r, ↓x1_7, ↓x32_3, ↓lf_X8_isIn, ↓x31_0, ↓x31b0, ↓x25, ↓f6_0, ↓x21, ↓x6_8n, ↓x6_8i, ↓x6_8r, ↓x3_8, ↓x22, ↓x26, ↓f6_2, ↓x23, ↓x1_6, ↓x9, ↓x7_7n, ↓x7_7i, ↓x7_7r, ↓x33, ↓v6_3, ↓l_2, ↓s_2, ↓l_3, ↓s_3, ↓l_4, ↓s_4, ↓l_5, ↓s_5, ↓l_6, ↓s_6, ↓l_7, ↓l_9, ↓s_9, ↓l_10, ↓s_10, ↓l_11, ↓s_11, ↓l_12, ↓l_13, ↓l_15, ↓s_15, ↓l_16, ↓s_16, ↓l_r1, ↓s_r1, ↓l_r2, ↓s_r2, ↓l_w1, ↓s_w1, ↓l_w2, ↓s_w2, and_self, and_true, true_and, implies_true, true_implies, Int.reduceEq, Int.reduceLE, Int.reduceLT, not_true_eq_false, not_false_eq_true, false_implies, RTf_eq]
end
