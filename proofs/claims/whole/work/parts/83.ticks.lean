/-! ===== ticks side by side ===== -/
section
variable {A B A' B' : Mem} {T w : Int} {E : ET} {S : SCR}
theorem Rel_time (h : Rel T A B) : Rel (T + 1) (up2 A 0 10 (A 0 10 + 1)) (up2 B 248 12 (B 248 12 + 1)) := by
  obtain ⟨A1, eA⟩ : ∃ A1, A1 = up2 A 0 10 (A 0 10 + 1) := ⟨_, rfl⟩
  obtain ⟨B1, eB⟩ : ∃ B1, B1 = up2 B 248 12 (B 248 12 + 1) := ⟨_, rfl⟩
  rw [← eA, ← eB]
  have oA : ∀ c z, ¬ (c = 0 ∧ z = 10) → A1 c z = A c z := fun c z q => by rw [eA]; exact up2_other q
  have oB : ∀ c z, ¬ (c = 248 ∧ z = 12) → B1 c z = B c z := fun c z q => by rw [eB]; exact up2_other q
  have a10 : A1 0 10 = A 0 10 + 1 := by rw [eA, up2_same]
  have b12 : B1 248 12 = B 248 12 + 1 := by rw [eB, up2_same]
  obtain ⟨hN, hR, hO, hS, hW⟩ := h
  have fA : ∀ c, ¬ c = 0 → A1 c = A c := fun c q => funext fun z => oA c z (by omega)
  have fB : ∀ c, ¬ c = 248 → B1 c = B c := fun c q => funext fun z => oB c z (by omega)
  refine ⟨RN_congr hN (fA 2 (by omega)) (fA 3 (by omega)) (fA 4 (by omega)) (fA 5 (by omega)) (oA 1 5 (by omega)) (fun c _ _ => fB c (by omega)), RR_congr hR (fA 5 (by omega)) (fun r _ _ => ⟨oA _ _ (by omega), fA _ (by omega)⟩) (fB _ (by omega)), RO_congr hO (fun r _ _ => ⟨oA _ _ (by omega), oA _ _ (by omega), fA _ (by omega)⟩) (fB _ (by omega)) (fB _ (by omega)), ?_, fun u a b => ?_⟩
  · obtain ⟨s1, s2, s3, s4, s5, s6, s7, s8⟩ := hS
    unfold RS
    rw [a10, b12, fA 14 (by omega), oA 0 8 (by omega), oA 0 9 (by omega), oA 0 11 (by omega), oA 0 12 (by omega), oA 0 13 (by omega), oB 248 6 (by omega), oB 248 7 (by omega), oB 248 14 (by omega), oB 248 15 (by omega), oB 248 16 (by omega), oB 248 11 (by omega), oB 248 13 (by omega)]
    exact ⟨s1, s2, ⟨by omega, by omega, by omega⟩, s4, s5, s6, s7, s8⟩
  · obtain ⟨hc, hd, g1, g2, g3⟩ := hW u a b
    have el : ∀ i k, lk8 A1 i k = lk8 A i k := fun i k => lk8_congr (fun z => oA _ _ (by omega)) (fun z => oA _ _ (by omega)) (fun z => oA _ _ (by omega))
    unfold WR WC WD WB WE
    simp only [fA (209 + 3 * u) (by omega), fA (210 + 3 * u) (by omega), fA (211 + 3 * u) (by omega), el, fB 258 (by omega), fB 259 (by omega), fB 260 (by omega), fB 261 (by omega), fB 262 (by omega), fB 263 (by omega), fB 264 (by omega), fB 265 (by omega), fB 266 (by omega), fB 267 (by omega), fB 268 (by omega), fB 269 (by omega), fB 270 (by omega), a10]
    refine ⟨hc, hd, g1, g2, fun q => ?_⟩
    obtain ⟨x, y⟩ := g3 q
    refine ⟨⟨x.1, x.2.1, x.2.2.1, fun j j1 j2 => ?_, x.2.2.2.2⟩, ⟨y.1, y.2.1, by have := y.2.2.1; omega, y.2.2.2.1, y.2.2.2.2⟩⟩
    have := x.2.2.2.1 j j1 j2
    exact ⟨this.1, this.2.1, this.2.2.1, by omega⟩
theorem goM_fr {i c z : Int} (hw : 0 ≤ w ∧ w < 12) (h : ¬ c = 14 ∧ ¬ c = 15 ∧ ¬ c = 209 + 3 * w ∧ ¬ (c = 0 ∧ z = 12)) : goM A w i c z = A c z := by
  have lo : ∀ N : Mem, loM N w c z = N c z := fun N => by unfold loM; rw [up2_other (by omega), up2_other (by omega), up2_other (by omega)]
  unfold goM
  split
  · exact lo _
  · split
    · rw [lo, pk8M_ot (by omega) (by omega)]
    · unfold trM
      rw [up2_other (by omega), up2_other (by omega), up2_other (by omega), up2_other (by omega), pk8M_ot (by omega) (by omega)]
theorem sbM_fr {c z : Int} (h : ¬ c = 209 + 3 * w ∧ ¬ (c = 0 ∧ z = 12)) : sbM A w c z = A c z := by
  unfold sbM loM trM
  split
  · rw [up2_other (by omega), up2_other (by omega), up2_other (by omega)]
  · rw [up2_other (by omega), up2_other (by omega), up2_other (by omega), up2_other (by omega)]
theorem coM_fr {c z : Int} (hw : 0 ≤ w ∧ w < 12) (h : ¬ c = 14 ∧ ¬ c = 15 ∧ ¬ (209 + 3 * w ≤ c ∧ c ≤ 211 + 3 * w) ∧ ¬ (c = 0 ∧ z = 12)) : coM A w c z = A c z := by
  unfold coM
  split
  · rw [sbM_fr (by omega)]; unfold coT; rw [up2_other (by omega), up2_other (by omega), coA_ot hw (by omega)]
  · rw [goM_fr hw (by omega), coA_ot hw (by omega)]
theorem cbM_fr {c z : Int} {p' w' : Vec} (hw : 0 ≤ w ∧ w < 12) (hr : 0 ≤ cbR A w ∧ cbR A w < 64) (h : 248 ≤ c) : cbM A w p' w' c z = A c z := by
  unfold cbM
  split
  · unfold fiM; rw [up2_other (by omega), up2_other (by omega), up2_other (by omega), up2_other (by omega), cb2_ot (by omega)]
  · rw [sbM_fr (by omega), cb2_ot (by omega)]
theorem goN_fr {i c z : Int} (h : c < 248) : goN B w i c z = B c z := by
  have lo : ∀ N : Mem, loN N w c z = N c z := fun N => by unfold loN; rw [up2_other (by omega), up2_other (by omega)]
  unfold goN
  split
  · rw [lo, kp9_ot (by omega)]
  · rw [up2_other (by omega), up2_other (by omega), up2_other (by omega), up2_other (by omega), kp9_ot (by omega)]
theorem sbN_fr {c z : Int} (h : c < 248) : sbN B w c z = B c z := by
  unfold sbN loN
  split
  · rw [up2_other (by omega), up2_other (by omega)]
  · rw [up2_other (by omega), up2_other (by omega), up2_other (by omega)]
theorem coN_fr {c z : Int} (h : c < 248) : coN B w c z = B c z := by
  unfold coN
  split
  · rw [sbN_fr h]; unfold coU; rw [up2_other (by omega), up2_other (by omega), coB_ot (by omega)]
  · rw [goN_fr h, coB_ot (by omega)]
theorem dbM_fr {c z : Int} {p' w' : Vec} (h : c < 248) : dbM B w p' w' c z = B c z := by
  unfold dbM
  split
  · unfold fiN; rw [up2_other (by omega), up2_other (by omega), up2_other (by omega), db2_ot (by omega)]
  · rw [sbN_fr h, db2_ot (by omega)]
theorem tick_step {k : Nat} {B0 : Mem} (hk : k < 12) (h0 : Rel T A B0) (hT : T ≤ 1000000) : ∃ A' : Mem, (∀ {g : GT} {lm : Nat × Nat} {RT : RTy} {a2 : Option AV}, (∀ a3 : Option AV, G E g mi_X8_passTick 7 lm RT 12 [some (vr 0), some (vi ((k : Int) + 1)), a3] [] (toAH S A')) → G E g mi_X8_passTick 7 lm RT 12 [some (vr 0), some (vi (k : Int)), a2] [] (toAH S A)) ∧ (∀ c z, 248 ≤ c → A' c z = A c z) ∧
    ∀ B, Rel T A B → ∃ (B' : Mem) (b : Int), (∀ {g : GT} {lm : Nat × Nat} {RT : RTy} {nn many q : Int}, G E g mi_X9_ticks 7 lm RT 36 [some (vr 248), some (vi nn), some (vi (many + b)), some (vi q), some (vi ((k : Int) + 1))] [] (toAH S B') → G E g mi_X9_ticks 7 lm RT 36 [some (vr 248), some (vi nn), some (vi many), some (vi q), some (vi (k : Int))] [] (toAH S B)) ∧ (∀ c z, c < 248 → B' c z = B c z) ∧ Rel T A' B' ∧ A' 0 11 = A 0 11 + b := by
  obtain ⟨u, eu⟩ : ∃ u : Int, u = (k : Int) := ⟨_, rfl⟩
  have hu : 0 ≤ u ∧ u < 12 := by omega
  rw [← eu]
  obtain ⟨hc, hd0, g10, g20, g30⟩ := h0.2.2.2.2 u hu.1 hu.2
  have tm0 := h0.2.2.2.1.2.2.1
  rcases hc.1 with c3 | c3
  · -- it does not walk
    refine ⟨A, fun {g lm RT a2} hg => ?_, fun _ _ _ => rfl, fun B h => ⟨B, 0, fun {g lm RT nn many q} hg => ?_, fun _ _ _ => rfl, h, by omega⟩⟩
    · refine q_X8_passTick_12 400 (lfok E (by omega)) ?_
      simp +contextual (disch := first | omega | exact Nat.le_of_ble_eq_true rfl | assumption) only [↓r_X8_passTick_0, ↓r_X8_passTick_1, ↓r_X8_passTick_2, ↓r_X8_passTick_5, ↓r_X8_passTick_6, ↓r_X8_passTick_7, ↓r_X8_passTick_10, ↓r_X8_passTick_11, ↓r_X8_passTick_12, ↓r_X8_passTick_13, ↓r_X8_passTick_15, ↓r_X8_passTick_18, ↓r_X8_passTick_19, ↓r_X8_passTick_22, ↓r_X8_passTick_23, ↓r_X8_passTick_24, ↓r_X8_passTick_25, ↓r_X8_passTick_26, ↓r_X8_passTick_29, ↓r_X8_passTick_32, ↓r_X8_passTick_33, ↓r_X8_passTick_36, ↓r_X8_passTick_37, ↓r_X8_passTick_40, ↓r_X8_passTick_43, ↓r_X8_passTick_46, ↓r_X8_passTick_47, ↓r_X8_passTick_50, ↓r_X8_passTick_53, ↓r_X8_passTick_54, ↓r_X8_passTick_55, ↓r_X8_passTick_58, ↓r_X8_passTick_61, ↓r_X8_passTick_62, ↓r_X8_passTick_63, ↓r_X8_passTick_66, ↓r_X8_passTick_69, ↓r_X8_passTick_72, ↓x2_0, ↓x28i, ↓x28r, ↓f8_10, ↓x0, ↓x8, ↓p8_10, ↓x4_1n, ↓x4_1i, ↓x4_1r, ↓x1_1, ↓x32_3, ↓f8_3, ↓x5_2n, ↓x5_2i, ↓x5_2r, ↓x2_2, ↓f7_3, ↓x31_0, ↓x31b0, ↓f7_10, ↓x32_0, ↓x33, ↓f7_4, ↓v8_2, ↓x7_1n, ↓x7_1i, ↓x7_1r, ↓x48_4, ↓l_2, ↓l_3, ↓l_4, ↓l_5, ↓l_6, ↓l_7, ↓l_9, ↓l_10, ↓l_11, ↓l_12, ↓l_13, ↓l_15, ↓l_16, ↓l_r1, ↓l_r2, ↓l_w1, ↓l_w2, and_self, and_true, true_and, implies_true, true_implies, Int.reduceEq, Int.reduceLE, Int.reduceLT, not_true_eq_false, not_false_eq_true, false_implies, RTf_eq]
      exact ⟨fun q => by omega, fun _ => ⟨fun _ => hg _, fun q => absurd c3 q⟩⟩
    · have b8 : B 258 u = 0 := by rw [(h.2.2.2.2 u hu.1 hu.2).2.2.1]; exact c3
      rw [Int.add_zero] at hg
      refine q_X9_ticks_36 400 (lfok E (by omega)) ?_
      simp +contextual (disch := first | omega | exact Nat.le_of_ble_eq_true rfl | assumption) only [↓r_X9_ticks_0, ↓r_X9_ticks_1, ↓r_X9_ticks_2, ↓r_X9_ticks_5, ↓r_X9_ticks_8, ↓r_X9_ticks_11, ↓r_X9_ticks_13, ↓r_X9_ticks_14, ↓r_X9_ticks_15, ↓r_X9_ticks_16, ↓r_X9_ticks_17, ↓r_X9_ticks_18, ↓r_X9_ticks_19, ↓r_X9_ticks_20, ↓r_X9_ticks_23, ↓r_X9_ticks_24, ↓r_X9_ticks_25, ↓r_X9_ticks_28, ↓r_X9_ticks_29, ↓r_X9_ticks_30, ↓r_X9_ticks_33, ↓r_X9_ticks_34, ↓r_X9_ticks_36, ↓r_X9_ticks_38, ↓r_X9_ticks_40, ↓r_X9_ticks_43, ↓r_X9_ticks_44, ↓r_X9_ticks_47, ↓r_X9_ticks_49, ↓r_X9_ticks_50, ↓r_X9_ticks_53, ↓r_X9_ticks_54, ↓r_X9_ticks_57, ↓r_X9_ticks_59, ↓r_X9_ticks_60, ↓r_X9_ticks_61, ↓r_X9_ticks_64, ↓r_X9_ticks_67, ↓r_X9_ticks_68, ↓r_X9_ticks_71, ↓r_X9_ticks_73, ↓r_X9_ticks_74, ↓r_X9_ticks_77, ↓r_X9_ticks_78, ↓r_X9_ticks_79, ↓r_X9_ticks_81, ↓r_X9_ticks_84, ↓r_X9_ticks_87, ↓r_X9_ticks_88, ↓r_X9_ticks_91, ↓r_X9_ticks_92, ↓r_X9_ticks_93, ↓r_X9_ticks_94, ↓r_X9_ticks_97, ↓r_X9_ticks_98, ↓r_X9_ticks_100, ↓r_X9_ticks_103, ↓r_X9_ticks_106, ↓r_X9_ticks_109, ↓r_X9_ticks_112, ↓r_X9_ticks_115, ↓r_X9_ticks_116, ↓x1_1, ↓x0, ↓lf_X9_within, ↓x31_1, ↓x31b1, ↓x48_0, ↓x4_2n, ↓x4_2i, ↓x4_2r, ↓x4_3n, ↓x4_3i, ↓x4_3r, ↓x1_3, ↓x32_3, ↓x2_0, ↓x28i, ↓x28r, ↓f9_12, ↓x8, ↓p9_12, ↓x4_4n, ↓x4_4i, ↓x4_4r, ↓x1_4, ↓f9_17, ↓x31_0, ↓x31b0, ↓f9_24, ↓x32_1, ↓f9_21, ↓x1_2, ↓v9_2, ↓x33, ↓x7_4n, ↓x7_4i, ↓x7_4r, ↓x7_3n, ↓x7_3i, ↓x7_3r, ↓l_249, ↓l_250, ↓l_251, ↓l_252, ↓l_253, ↓l_254, ↓l_255, ↓l_256, ↓l_257, ↓l_258, ↓l_259, ↓l_260, ↓l_261, ↓l_262, ↓l_263, ↓l_264, ↓l_265, ↓l_266, ↓l_267, ↓l_268, ↓l_269, ↓l_270, ↓l_271, ↓l_272, ↓l_273, ↓l_274, and_self, and_true, true_and, implies_true, true_implies, Int.reduceEq, Int.reduceLE, Int.reduceLT, not_true_eq_false, not_false_eq_true, false_implies, RTf_eq]
      exact ⟨fun q => by omega, fun _ => ⟨fun _ => hg, fun q => absurd b8 q⟩⟩
  · obtain ⟨wb0, we0⟩ := g30 c3
    have due0 := we0.2.2.1
    have c3' : ¬ A (209 + 3 * u) 3 = 0 := by omega
    by_cases cd : A (209 + 3 * u) 10 = A 0 10
    · rcases hc.2.1 with c4 | c4
      · -- it comes out
        have p0 := out_rel h0 hu c3 c4 cd
        have cC := c_comeOut (E := E) (S := S) (M := A) (w := u) (Rel_CW h0) hu we0.2.1 (by have := wb0.2.1; exact ⟨by omega, by omega⟩) p0.1
        refine ⟨coM A u, fun {g lm RT a2} hg => ?_, fun c z q => coM_fr hu (by omega), fun B h => ?_⟩
        · refine q_X8_passTick_12 400 (lfok E (by omega)) ?_
          simp +contextual (disch := first | omega | exact Nat.le_of_ble_eq_true rfl | assumption) only [↓r_X8_passTick_0, ↓r_X8_passTick_1, ↓r_X8_passTick_2, ↓r_X8_passTick_5, ↓r_X8_passTick_6, ↓r_X8_passTick_7, ↓r_X8_passTick_10, ↓r_X8_passTick_11, ↓r_X8_passTick_12, ↓r_X8_passTick_13, ↓r_X8_passTick_15, ↓r_X8_passTick_18, ↓r_X8_passTick_19, ↓r_X8_passTick_22, ↓r_X8_passTick_23, ↓r_X8_passTick_24, ↓r_X8_passTick_25, ↓r_X8_passTick_26, ↓r_X8_passTick_29, ↓r_X8_passTick_32, ↓r_X8_passTick_33, ↓r_X8_passTick_36, ↓r_X8_passTick_37, ↓r_X8_passTick_40, ↓r_X8_passTick_43, ↓r_X8_passTick_46, ↓r_X8_passTick_47, ↓r_X8_passTick_50, ↓r_X8_passTick_53, ↓r_X8_passTick_54, ↓r_X8_passTick_55, ↓r_X8_passTick_58, ↓r_X8_passTick_61, ↓r_X8_passTick_62, ↓r_X8_passTick_63, ↓r_X8_passTick_66, ↓r_X8_passTick_69, ↓r_X8_passTick_72, ↓x2_0, ↓x28i, ↓x28r, ↓f8_10, ↓x0, ↓x8, ↓p8_10, ↓x4_1n, ↓x4_1i, ↓x4_1r, ↓x1_1, ↓x32_3, ↓f8_3, ↓x5_2n, ↓x5_2i, ↓x5_2r, ↓x2_2, ↓f7_3, ↓x31_0, ↓x31b0, ↓f7_10, ↓x32_0, ↓x33, ↓f7_4, ↓v8_2, ↓x7_1n, ↓x7_1i, ↓x7_1r, ↓x48_4, ↓l_2, ↓l_3, ↓l_4, ↓l_5, ↓l_6, ↓l_7, ↓l_9, ↓l_10, ↓l_11, ↓l_12, ↓l_13, ↓l_15, ↓l_16, ↓l_r1, ↓l_r2, ↓l_w1, ↓l_w2, and_self, and_true, true_and, implies_true, true_implies, Int.reduceEq, Int.reduceLE, Int.reduceLT, not_true_eq_false, not_false_eq_true, false_implies, RTf_eq]
          refine ⟨fun q => by omega, fun _ => ⟨fun q => absurd q c3', fun _ => ⟨fun _ => ⟨fun _ => ?_, fun q => absurd c4 q⟩, fun q => absurd cd q⟩⟩⟩
          refine ck_v cC (by omega) (by simp) ?_
          simp +contextual (disch := first | omega | exact Nat.le_of_ble_eq_true rfl | assumption) only [↓r_X8_passTick_0, ↓r_X8_passTick_1, ↓r_X8_passTick_2, ↓r_X8_passTick_5, ↓r_X8_passTick_6, ↓r_X8_passTick_7, ↓r_X8_passTick_10, ↓r_X8_passTick_11, ↓r_X8_passTick_12, ↓r_X8_passTick_13, ↓r_X8_passTick_15, ↓r_X8_passTick_18, ↓r_X8_passTick_19, ↓r_X8_passTick_22, ↓r_X8_passTick_23, ↓r_X8_passTick_24, ↓r_X8_passTick_25, ↓r_X8_passTick_26, ↓r_X8_passTick_29, ↓r_X8_passTick_32, ↓r_X8_passTick_33, ↓r_X8_passTick_36, ↓r_X8_passTick_37, ↓r_X8_passTick_40, ↓r_X8_passTick_43, ↓r_X8_passTick_46, ↓r_X8_passTick_47, ↓r_X8_passTick_50, ↓r_X8_passTick_53, ↓r_X8_passTick_54, ↓r_X8_passTick_55, ↓r_X8_passTick_58, ↓r_X8_passTick_61, ↓r_X8_passTick_62, ↓r_X8_passTick_63, ↓r_X8_passTick_66, ↓r_X8_passTick_69, ↓r_X8_passTick_72, ↓x2_0, ↓x28i, ↓x28r, ↓f8_10, ↓x0, ↓x8, ↓p8_10, ↓x4_1n, ↓x4_1i, ↓x4_1r, ↓x1_1, ↓x32_3, ↓f8_3, ↓x5_2n, ↓x5_2i, ↓x5_2r, ↓x2_2, ↓f7_3, ↓x31_0, ↓x31b0, ↓f7_10, ↓x32_0, ↓x33, ↓f7_4, ↓v8_2, ↓x7_1n, ↓x7_1i, ↓x7_1r, ↓x48_4, ↓l_2, ↓l_3, ↓l_4, ↓l_5, ↓l_6, ↓l_7, ↓l_9, ↓l_10, ↓l_11, ↓l_12, ↓l_13, ↓l_15, ↓l_16, ↓l_r1, ↓l_r2, ↓l_w1, ↓l_w2, and_self, and_true, true_and, implies_true, true_implies, Int.reduceEq, Int.reduceLE, Int.reduceLT, not_true_eq_false, not_false_eq_true, false_implies, RTf_eq]
          exact hg _
        · have p1 := out_rel h hu c3 c4 cd
          obtain ⟨_, hdB, g1, g2, g3⟩ := h.2.2.2.2 u hu.1 hu.2
          obtain ⟨wb, we⟩ := g3 c3
          have cM := c_comesOut (E := E) (S := S) (M := B) (w := u) (Rel_MW h) hu (by rw [← we.1.1]; exact we.2.1) p1.2.1 (by rw [← wb.1.2.2.2.2.2.1]; have := wb.2.1; exact ⟨by omega, by omega⟩) p1.2.2.1
          have tm := h.2.2.2.1.2.2.1
          have b8 : ¬ B 258 u = 0 := by rw [g1]; omega
          have b4 : B 262 u = 0 := by rw [← wb.1.2.2.2.1]; exact c4
          have bd : B 265 u = B 248 12 := by rw [← we.1.2, ← tm.1]; exact cd
          have r1 : -2147483648 ≤ B 265 u ∧ B 265 u < 2147483648 := by rw [bd, ← tm.1]; omega
          have r2 : -2147483648 ≤ B 248 12 ∧ B 248 12 < 2147483648 := by rw [← tm.1]; omega
          refine ⟨coN B u, 0, fun {g lm RT nn many q} hg => ?_, fun c z q => coN_fr q, p1.2.2.2, by rw [coM_fr hu (by omega)]; omega⟩
          rw [Int.add_zero] at hg
          refine q_X9_ticks_36 400 (lfok E (by omega)) ?_
          simp +contextual (disch := first | omega | exact Nat.le_of_ble_eq_true rfl | assumption) only [↓r_X9_ticks_0, ↓r_X9_ticks_1, ↓r_X9_ticks_2, ↓r_X9_ticks_5, ↓r_X9_ticks_8, ↓r_X9_ticks_11, ↓r_X9_ticks_13, ↓r_X9_ticks_14, ↓r_X9_ticks_15, ↓r_X9_ticks_16, ↓r_X9_ticks_17, ↓r_X9_ticks_18, ↓r_X9_ticks_19, ↓r_X9_ticks_20, ↓r_X9_ticks_23, ↓r_X9_ticks_24, ↓r_X9_ticks_25, ↓r_X9_ticks_28, ↓r_X9_ticks_29, ↓r_X9_ticks_30, ↓r_X9_ticks_33, ↓r_X9_ticks_34, ↓r_X9_ticks_36, ↓r_X9_ticks_38, ↓r_X9_ticks_40, ↓r_X9_ticks_43, ↓r_X9_ticks_44, ↓r_X9_ticks_47, ↓r_X9_ticks_49, ↓r_X9_ticks_50, ↓r_X9_ticks_53, ↓r_X9_ticks_54, ↓r_X9_ticks_57, ↓r_X9_ticks_59, ↓r_X9_ticks_60, ↓r_X9_ticks_61, ↓r_X9_ticks_64, ↓r_X9_ticks_67, ↓r_X9_ticks_68, ↓r_X9_ticks_71, ↓r_X9_ticks_73, ↓r_X9_ticks_74, ↓r_X9_ticks_77, ↓r_X9_ticks_78, ↓r_X9_ticks_79, ↓r_X9_ticks_81, ↓r_X9_ticks_84, ↓r_X9_ticks_87, ↓r_X9_ticks_88, ↓r_X9_ticks_91, ↓r_X9_ticks_92, ↓r_X9_ticks_93, ↓r_X9_ticks_94, ↓r_X9_ticks_97, ↓r_X9_ticks_98, ↓r_X9_ticks_100, ↓r_X9_ticks_103, ↓r_X9_ticks_106, ↓r_X9_ticks_109, ↓r_X9_ticks_112, ↓r_X9_ticks_115, ↓r_X9_ticks_116, ↓x1_1, ↓x0, ↓lf_X9_within, ↓x31_1, ↓x31b1, ↓x48_0, ↓x4_2n, ↓x4_2i, ↓x4_2r, ↓x4_3n, ↓x4_3i, ↓x4_3r, ↓x1_3, ↓x32_3, ↓x2_0, ↓x28i, ↓x28r, ↓f9_12, ↓x8, ↓p9_12, ↓x4_4n, ↓x4_4i, ↓x4_4r, ↓x1_4, ↓f9_17, ↓x31_0, ↓x31b0, ↓f9_24, ↓x32_1, ↓f9_21, ↓x1_2, ↓v9_2, ↓x33, ↓x7_4n, ↓x7_4i, ↓x7_4r, ↓x7_3n, ↓x7_3i, ↓x7_3r, ↓l_249, ↓l_250, ↓l_251, ↓l_252, ↓l_253, ↓l_254, ↓l_255, ↓l_256, ↓l_257, ↓l_258, ↓l_259, ↓l_260, ↓l_261, ↓l_262, ↓l_263, ↓l_264, ↓l_265, ↓l_266, ↓l_267, ↓l_268, ↓l_269, ↓l_270, ↓l_271, ↓l_272, ↓l_273, ↓l_274, and_self, and_true, true_and, implies_true, true_implies, Int.reduceEq, Int.reduceLE, Int.reduceLT, not_true_eq_false, not_false_eq_true, false_implies, RTf_eq]
          refine ⟨fun q => by omega, fun _ => ⟨fun q => absurd q b8, fun _ => ⟨fun q => absurd bd q, fun _ => ⟨fun _ => ?_, fun q => absurd b4 q⟩⟩⟩⟩
          refine ck_v cM (by omega) (by simp) ?_
          simp +contextual (disch := first | omega | exact Nat.le_of_ble_eq_true rfl | assumption) only [↓r_X9_ticks_0, ↓r_X9_ticks_1, ↓r_X9_ticks_2, ↓r_X9_ticks_5, ↓r_X9_ticks_8, ↓r_X9_ticks_11, ↓r_X9_ticks_13, ↓r_X9_ticks_14, ↓r_X9_ticks_15, ↓r_X9_ticks_16, ↓r_X9_ticks_17, ↓r_X9_ticks_18, ↓r_X9_ticks_19, ↓r_X9_ticks_20, ↓r_X9_ticks_23, ↓r_X9_ticks_24, ↓r_X9_ticks_25, ↓r_X9_ticks_28, ↓r_X9_ticks_29, ↓r_X9_ticks_30, ↓r_X9_ticks_33, ↓r_X9_ticks_34, ↓r_X9_ticks_36, ↓r_X9_ticks_38, ↓r_X9_ticks_40, ↓r_X9_ticks_43, ↓r_X9_ticks_44, ↓r_X9_ticks_47, ↓r_X9_ticks_49, ↓r_X9_ticks_50, ↓r_X9_ticks_53, ↓r_X9_ticks_54, ↓r_X9_ticks_57, ↓r_X9_ticks_59, ↓r_X9_ticks_60, ↓r_X9_ticks_61, ↓r_X9_ticks_64, ↓r_X9_ticks_67, ↓r_X9_ticks_68, ↓r_X9_ticks_71, ↓r_X9_ticks_73, ↓r_X9_ticks_74, ↓r_X9_ticks_77, ↓r_X9_ticks_78, ↓r_X9_ticks_79, ↓r_X9_ticks_81, ↓r_X9_ticks_84, ↓r_X9_ticks_87, ↓r_X9_ticks_88, ↓r_X9_ticks_91, ↓r_X9_ticks_92, ↓r_X9_ticks_93, ↓r_X9_ticks_94, ↓r_X9_ticks_97, ↓r_X9_ticks_98, ↓r_X9_ticks_100, ↓r_X9_ticks_103, ↓r_X9_ticks_106, ↓r_X9_ticks_109, ↓r_X9_ticks_112, ↓r_X9_ticks_115, ↓r_X9_ticks_116, ↓x1_1, ↓x0, ↓lf_X9_within, ↓x31_1, ↓x31b1, ↓x48_0, ↓x4_2n, ↓x4_2i, ↓x4_2r, ↓x4_3n, ↓x4_3i, ↓x4_3r, ↓x1_3, ↓x32_3, ↓x2_0, ↓x28i, ↓x28r, ↓f9_12, ↓x8, ↓p9_12, ↓x4_4n, ↓x4_4i, ↓x4_4r, ↓x1_4, ↓f9_17, ↓x31_0, ↓x31b0, ↓f9_24, ↓x32_1, ↓f9_21, ↓x1_2, ↓v9_2, ↓x33, ↓x7_4n, ↓x7_4i, ↓x7_4r, ↓x7_3n, ↓x7_3i, ↓x7_3r, ↓l_249, ↓l_250, ↓l_251, ↓l_252, ↓l_253, ↓l_254, ↓l_255, ↓l_256, ↓l_257, ↓l_258, ↓l_259, ↓l_260, ↓l_261, ↓l_262, ↓l_263, ↓l_264, ↓l_265, ↓l_266, ↓l_267, ↓l_268, ↓l_269, ↓l_270, ↓l_271, ↓l_272, ↓l_273, ↓l_274, and_self, and_true, true_and, implies_true, true_implies, Int.reduceEq, Int.reduceLE, Int.reduceLT, not_true_eq_false, not_false_eq_true, false_implies, RTf_eq]
          exact hg
      · -- it comes back
        have n5 := h0.1.2.2.2.2.1
        obtain ⟨⟨q1, q2, q3⟩, ⟨eR, eT, hT2⟩, nbh, ek, eW, bk⟩ := home_pre h0 hT hu c3 c4
        have a7 := hc.2.2.2.2.2.2
        have to := we0.2.1
        have hr : 0 ≤ cbR A u ∧ cbR A u < 64 := by unfold cbR; omega
        have er8 : cbR A u / 8 = A (209 + 3 * u) 9 := by unfold cbR; omega
        have rr := h0.2.1 (cbR A u) hr.1 hr.2
        rw [er8] at rr
        have o := h0.2.2.1 (cbR A u) hr.1 hr.2
        obtain ⟨p', w', cC⟩ := c_comeBack (E := E) (S := S) (M := A) (w := u) (Rel_CW h0) hu to ⟨q1, q2⟩ (by rw [rr.1]; exact n5 _ (by omega) (by omega)) (by rw [rr.1]; exact nbh) h0.2.2.2.1.1.2 h0.2.2.2.1.2.1.2 (by rw [rr.1]; exact rr.2.1) ⟨⟨o.1.1.1, o.1.1.2.1⟩, ⟨o.1.1.2.2.1, o.1.1.2.2.2⟩⟩ o.1.2.1 (fun j a b => (o.2.2 j a b).1) hT2
        refine ⟨cbM A u p' w', fun {g lm RT a2} hg => ?_, fun c z q => cbM_fr hu hr q, fun B h => ?_⟩
        · refine q_X8_passTick_12 400 (lfok E (by omega)) ?_
          simp +contextual (disch := first | omega | exact Nat.le_of_ble_eq_true rfl | assumption) only [↓r_X8_passTick_0, ↓r_X8_passTick_1, ↓r_X8_passTick_2, ↓r_X8_passTick_5, ↓r_X8_passTick_6, ↓r_X8_passTick_7, ↓r_X8_passTick_10, ↓r_X8_passTick_11, ↓r_X8_passTick_12, ↓r_X8_passTick_13, ↓r_X8_passTick_15, ↓r_X8_passTick_18, ↓r_X8_passTick_19, ↓r_X8_passTick_22, ↓r_X8_passTick_23, ↓r_X8_passTick_24, ↓r_X8_passTick_25, ↓r_X8_passTick_26, ↓r_X8_passTick_29, ↓r_X8_passTick_32, ↓r_X8_passTick_33, ↓r_X8_passTick_36, ↓r_X8_passTick_37, ↓r_X8_passTick_40, ↓r_X8_passTick_43, ↓r_X8_passTick_46, ↓r_X8_passTick_47, ↓r_X8_passTick_50, ↓r_X8_passTick_53, ↓r_X8_passTick_54, ↓r_X8_passTick_55, ↓r_X8_passTick_58, ↓r_X8_passTick_61, ↓r_X8_passTick_62, ↓r_X8_passTick_63, ↓r_X8_passTick_66, ↓r_X8_passTick_69, ↓r_X8_passTick_72, ↓x2_0, ↓x28i, ↓x28r, ↓f8_10, ↓x0, ↓x8, ↓p8_10, ↓x4_1n, ↓x4_1i, ↓x4_1r, ↓x1_1, ↓x32_3, ↓f8_3, ↓x5_2n, ↓x5_2i, ↓x5_2r, ↓x2_2, ↓f7_3, ↓x31_0, ↓x31b0, ↓f7_10, ↓x32_0, ↓x33, ↓f7_4, ↓v8_2, ↓x7_1n, ↓x7_1i, ↓x7_1r, ↓x48_4, ↓l_2, ↓l_3, ↓l_4, ↓l_5, ↓l_6, ↓l_7, ↓l_9, ↓l_10, ↓l_11, ↓l_12, ↓l_13, ↓l_15, ↓l_16, ↓l_r1, ↓l_r2, ↓l_w1, ↓l_w2, and_self, and_true, true_and, implies_true, true_implies, Int.reduceEq, Int.reduceLE, Int.reduceLT, not_true_eq_false, not_false_eq_true, false_implies, RTf_eq]
          refine ⟨fun q => by omega, fun _ => ⟨fun q => absurd q c3', fun _ => ⟨fun _ => ⟨fun q => by omega, fun _ => ?_⟩, fun q => absurd cd q⟩⟩⟩
          refine ck_v cC (by omega) (by simp) ?_
          simp +contextual (disch := first | omega | exact Nat.le_of_ble_eq_true rfl | assumption) only [↓r_X8_passTick_0, ↓r_X8_passTick_1, ↓r_X8_passTick_2, ↓r_X8_passTick_5, ↓r_X8_passTick_6, ↓r_X8_passTick_7, ↓r_X8_passTick_10, ↓r_X8_passTick_11, ↓r_X8_passTick_12, ↓r_X8_passTick_13, ↓r_X8_passTick_15, ↓r_X8_passTick_18, ↓r_X8_passTick_19, ↓r_X8_passTick_22, ↓r_X8_passTick_23, ↓r_X8_passTick_24, ↓r_X8_passTick_25, ↓r_X8_passTick_26, ↓r_X8_passTick_29, ↓r_X8_passTick_32, ↓r_X8_passTick_33, ↓r_X8_passTick_36, ↓r_X8_passTick_37, ↓r_X8_passTick_40, ↓r_X8_passTick_43, ↓r_X8_passTick_46, ↓r_X8_passTick_47, ↓r_X8_passTick_50, ↓r_X8_passTick_53, ↓r_X8_passTick_54, ↓r_X8_passTick_55, ↓r_X8_passTick_58, ↓r_X8_passTick_61, ↓r_X8_passTick_62, ↓r_X8_passTick_63, ↓r_X8_passTick_66, ↓r_X8_passTick_69, ↓r_X8_passTick_72, ↓x2_0, ↓x28i, ↓x28r, ↓f8_10, ↓x0, ↓x8, ↓p8_10, ↓x4_1n, ↓x4_1i, ↓x4_1r, ↓x1_1, ↓x32_3, ↓f8_3, ↓x5_2n, ↓x5_2i, ↓x5_2r, ↓x2_2, ↓f7_3, ↓x31_0, ↓x31b0, ↓f7_10, ↓x32_0, ↓x33, ↓f7_4, ↓v8_2, ↓x7_1n, ↓x7_1i, ↓x7_1r, ↓x48_4, ↓l_2, ↓l_3, ↓l_4, ↓l_5, ↓l_6, ↓l_7, ↓l_9, ↓l_10, ↓l_11, ↓l_12, ↓l_13, ↓l_15, ↓l_16, ↓l_r1, ↓l_r2, ↓l_w1, ↓l_w2, and_self, and_true, true_and, implies_true, true_implies, Int.reduceEq, Int.reduceLE, Int.reduceLT, not_true_eq_false, not_false_eq_true, false_implies, RTf_eq]
          exact hg _
        · obtain ⟨⟨z1, z2, z3⟩, ⟨fR, fT, gT2⟩, nbh2, ek2, eW2, bk2⟩ := home_pre h hT hu c3 c4
          obtain ⟨_, hdB, g1, g2, g3⟩ := h.2.2.2.2 u hu.1 hu.2
          obtain ⟨wb, we⟩ := g3 c3
          have tm := h.2.2.2.1.2.2.1
          have hmo := RR_model h hr
          rw [er8] at hmo
          have oB := h.2.2.1 (cbR A u) hr.1 hr.2
          have s := h.2.2.2.1
          have n8 := hc.2.2.2.1
          have hv := hc.2.2.2.2.1 (A (209 + 3 * u) 12 + 1) (by omega) (by omega)
          obtain ⟨p2, w2, cM⟩ := c_comesBack (E := E) (S := S) (M := B) (w := u) (Rel_MW h) hu (by rw [← we.1.1]; exact we.2.1) (by rw [z3, ← wb.1.2.2.2.2.2.2]; omega) (by rw [← we.1.1, ← ek2, ← hmo.2.2 _ (by omega) (by omega)]; exact nbh2) (by rw [← s.1.1]; exact s.1.2) (by rw [← s.2.1.1]; exact s.2.1.2) (by rw [← we.1.1, ← fR]; exact hmo.1) (by rw [← fR, oB.2.1]; exact ⟨oB.1.1.1, oB.1.1.2.1⟩) (fun j a b => by rw [← fR]; exact (oB.2.2 j a b).2) (by rw [← fT]; exact gT2)
          have key := home_rel h hT hu c3 c4 p' w' p2 w2
          have b8 : ¬ B 258 u = 0 := by rw [g1]; omega
          have b4 : ¬ B 262 u = 0 := by rw [← wb.1.2.2.2.1]; omega
          have bd : B 265 u = B 248 12 := by rw [← we.1.2, ← tm.1]; exact cd
          have r1 : -2147483648 ≤ B 265 u ∧ B 265 u < 2147483648 := by rw [bd, ← tm.1]; omega
          have r2 : -2147483648 ≤ B 248 12 ∧ B 248 12 < 2147483648 := by rw [← tm.1]; omega
          have rb := hdB.2.1
          refine ⟨dbM B u p2 w2, b2 (B 270 u - 1 = 0), fun {g lm RT nn many q} hg => ?_, fun c z q => dbM_fr q, key.1, key.2⟩
          refine q_X9_ticks_36 400 (lfok E (by omega)) ?_
          simp +contextual (disch := first | omega | exact Nat.le_of_ble_eq_true rfl | assumption) only [↓r_X9_ticks_0, ↓r_X9_ticks_1, ↓r_X9_ticks_2, ↓r_X9_ticks_5, ↓r_X9_ticks_8, ↓r_X9_ticks_11, ↓r_X9_ticks_13, ↓r_X9_ticks_14, ↓r_X9_ticks_15, ↓r_X9_ticks_16, ↓r_X9_ticks_17, ↓r_X9_ticks_18, ↓r_X9_ticks_19, ↓r_X9_ticks_20, ↓r_X9_ticks_23, ↓r_X9_ticks_24, ↓r_X9_ticks_25, ↓r_X9_ticks_28, ↓r_X9_ticks_29, ↓r_X9_ticks_30, ↓r_X9_ticks_33, ↓r_X9_ticks_34, ↓r_X9_ticks_36, ↓r_X9_ticks_38, ↓r_X9_ticks_40, ↓r_X9_ticks_43, ↓r_X9_ticks_44, ↓r_X9_ticks_47, ↓r_X9_ticks_49, ↓r_X9_ticks_50, ↓r_X9_ticks_53, ↓r_X9_ticks_54, ↓r_X9_ticks_57, ↓r_X9_ticks_59, ↓r_X9_ticks_60, ↓r_X9_ticks_61, ↓r_X9_ticks_64, ↓r_X9_ticks_67, ↓r_X9_ticks_68, ↓r_X9_ticks_71, ↓r_X9_ticks_73, ↓r_X9_ticks_74, ↓r_X9_ticks_77, ↓r_X9_ticks_78, ↓r_X9_ticks_79, ↓r_X9_ticks_81, ↓r_X9_ticks_84, ↓r_X9_ticks_87, ↓r_X9_ticks_88, ↓r_X9_ticks_91, ↓r_X9_ticks_92, ↓r_X9_ticks_93, ↓r_X9_ticks_94, ↓r_X9_ticks_97, ↓r_X9_ticks_98, ↓r_X9_ticks_100, ↓r_X9_ticks_103, ↓r_X9_ticks_106, ↓r_X9_ticks_109, ↓r_X9_ticks_112, ↓r_X9_ticks_115, ↓r_X9_ticks_116, ↓x1_1, ↓x0, ↓lf_X9_within, ↓x31_1, ↓x31b1, ↓x48_0, ↓x4_2n, ↓x4_2i, ↓x4_2r, ↓x4_3n, ↓x4_3i, ↓x4_3r, ↓x1_3, ↓x32_3, ↓x2_0, ↓x28i, ↓x28r, ↓f9_12, ↓x8, ↓p9_12, ↓x4_4n, ↓x4_4i, ↓x4_4r, ↓x1_4, ↓f9_17, ↓x31_0, ↓x31b0, ↓f9_24, ↓x32_1, ↓f9_21, ↓x1_2, ↓v9_2, ↓x33, ↓x7_4n, ↓x7_4i, ↓x7_4r, ↓x7_3n, ↓x7_3i, ↓x7_3r, ↓l_249, ↓l_250, ↓l_251, ↓l_252, ↓l_253, ↓l_254, ↓l_255, ↓l_256, ↓l_257, ↓l_258, ↓l_259, ↓l_260, ↓l_261, ↓l_262, ↓l_263, ↓l_264, ↓l_265, ↓l_266, ↓l_267, ↓l_268, ↓l_269, ↓l_270, ↓l_271, ↓l_272, ↓l_273, ↓l_274, and_self, and_true, true_and, implies_true, true_implies, Int.reduceEq, Int.reduceLE, Int.reduceLT, not_true_eq_false, not_false_eq_true, false_implies, RTf_eq]
          refine ⟨fun q => by omega, fun _ => ⟨fun q => absurd q b8, fun _ => ⟨fun q => absurd bd q, fun _ => ⟨fun q => absurd q b4, fun _ => ?_⟩⟩⟩⟩
          refine ck_r cM (by omega) (by simp) ?_
          by_cases y : B 270 u - 1 = 0
          · have a1 : b2 (B 270 u - 1 = 0) = 1 := by simp [b2, y]
            rw [a1] at hg ⊢
            simp +contextual (disch := first | omega | exact Nat.le_of_ble_eq_true rfl | assumption) only [↓r_X9_ticks_0, ↓r_X9_ticks_1, ↓r_X9_ticks_2, ↓r_X9_ticks_5, ↓r_X9_ticks_8, ↓r_X9_ticks_11, ↓r_X9_ticks_13, ↓r_X9_ticks_14, ↓r_X9_ticks_15, ↓r_X9_ticks_16, ↓r_X9_ticks_17, ↓r_X9_ticks_18, ↓r_X9_ticks_19, ↓r_X9_ticks_20, ↓r_X9_ticks_23, ↓r_X9_ticks_24, ↓r_X9_ticks_25, ↓r_X9_ticks_28, ↓r_X9_ticks_29, ↓r_X9_ticks_30, ↓r_X9_ticks_33, ↓r_X9_ticks_34, ↓r_X9_ticks_36, ↓r_X9_ticks_38, ↓r_X9_ticks_40, ↓r_X9_ticks_43, ↓r_X9_ticks_44, ↓r_X9_ticks_47, ↓r_X9_ticks_49, ↓r_X9_ticks_50, ↓r_X9_ticks_53, ↓r_X9_ticks_54, ↓r_X9_ticks_57, ↓r_X9_ticks_59, ↓r_X9_ticks_60, ↓r_X9_ticks_61, ↓r_X9_ticks_64, ↓r_X9_ticks_67, ↓r_X9_ticks_68, ↓r_X9_ticks_71, ↓r_X9_ticks_73, ↓r_X9_ticks_74, ↓r_X9_ticks_77, ↓r_X9_ticks_78, ↓r_X9_ticks_79, ↓r_X9_ticks_81, ↓r_X9_ticks_84, ↓r_X9_ticks_87, ↓r_X9_ticks_88, ↓r_X9_ticks_91, ↓r_X9_ticks_92, ↓r_X9_ticks_93, ↓r_X9_ticks_94, ↓r_X9_ticks_97, ↓r_X9_ticks_98, ↓r_X9_ticks_100, ↓r_X9_ticks_103, ↓r_X9_ticks_106, ↓r_X9_ticks_109, ↓r_X9_ticks_112, ↓r_X9_ticks_115, ↓r_X9_ticks_116, ↓x1_1, ↓x0, ↓lf_X9_within, ↓x31_1, ↓x31b1, ↓x48_0, ↓x4_2n, ↓x4_2i, ↓x4_2r, ↓x4_3n, ↓x4_3i, ↓x4_3r, ↓x1_3, ↓x32_3, ↓x2_0, ↓x28i, ↓x28r, ↓f9_12, ↓x8, ↓p9_12, ↓x4_4n, ↓x4_4i, ↓x4_4r, ↓x1_4, ↓f9_17, ↓x31_0, ↓x31b0, ↓f9_24, ↓x32_1, ↓f9_21, ↓x1_2, ↓v9_2, ↓x33, ↓x7_4n, ↓x7_4i, ↓x7_4r, ↓x7_3n, ↓x7_3i, ↓x7_3r, ↓l_249, ↓l_250, ↓l_251, ↓l_252, ↓l_253, ↓l_254, ↓l_255, ↓l_256, ↓l_257, ↓l_258, ↓l_259, ↓l_260, ↓l_261, ↓l_262, ↓l_263, ↓l_264, ↓l_265, ↓l_266, ↓l_267, ↓l_268, ↓l_269, ↓l_270, ↓l_271, ↓l_272, ↓l_273, ↓l_274, and_self, and_true, true_and, implies_true, true_implies, Int.reduceEq, Int.reduceLE, Int.reduceLT, not_true_eq_false, not_false_eq_true, false_implies, RTf_eq]
            exact hg
          · have a1 : b2 (B 270 u - 1 = 0) = 0 := by simp [b2, y]
            rw [a1] at hg ⊢
            simp +contextual (disch := first | omega | exact Nat.le_of_ble_eq_true rfl | assumption) only [↓r_X9_ticks_0, ↓r_X9_ticks_1, ↓r_X9_ticks_2, ↓r_X9_ticks_5, ↓r_X9_ticks_8, ↓r_X9_ticks_11, ↓r_X9_ticks_13, ↓r_X9_ticks_14, ↓r_X9_ticks_15, ↓r_X9_ticks_16, ↓r_X9_ticks_17, ↓r_X9_ticks_18, ↓r_X9_ticks_19, ↓r_X9_ticks_20, ↓r_X9_ticks_23, ↓r_X9_ticks_24, ↓r_X9_ticks_25, ↓r_X9_ticks_28, ↓r_X9_ticks_29, ↓r_X9_ticks_30, ↓r_X9_ticks_33, ↓r_X9_ticks_34, ↓r_X9_ticks_36, ↓r_X9_ticks_38, ↓r_X9_ticks_40, ↓r_X9_ticks_43, ↓r_X9_ticks_44, ↓r_X9_ticks_47, ↓r_X9_ticks_49, ↓r_X9_ticks_50, ↓r_X9_ticks_53, ↓r_X9_ticks_54, ↓r_X9_ticks_57, ↓r_X9_ticks_59, ↓r_X9_ticks_60, ↓r_X9_ticks_61, ↓r_X9_ticks_64, ↓r_X9_ticks_67, ↓r_X9_ticks_68, ↓r_X9_ticks_71, ↓r_X9_ticks_73, ↓r_X9_ticks_74, ↓r_X9_ticks_77, ↓r_X9_ticks_78, ↓r_X9_ticks_79, ↓r_X9_ticks_81, ↓r_X9_ticks_84, ↓r_X9_ticks_87, ↓r_X9_ticks_88, ↓r_X9_ticks_91, ↓r_X9_ticks_92, ↓r_X9_ticks_93, ↓r_X9_ticks_94, ↓r_X9_ticks_97, ↓r_X9_ticks_98, ↓r_X9_ticks_100, ↓r_X9_ticks_103, ↓r_X9_ticks_106, ↓r_X9_ticks_109, ↓r_X9_ticks_112, ↓r_X9_ticks_115, ↓r_X9_ticks_116, ↓x1_1, ↓x0, ↓lf_X9_within, ↓x31_1, ↓x31b1, ↓x48_0, ↓x4_2n, ↓x4_2i, ↓x4_2r, ↓x4_3n, ↓x4_3i, ↓x4_3r, ↓x1_3, ↓x32_3, ↓x2_0, ↓x28i, ↓x28r, ↓f9_12, ↓x8, ↓p9_12, ↓x4_4n, ↓x4_4i, ↓x4_4r, ↓x1_4, ↓f9_17, ↓x31_0, ↓x31b0, ↓f9_24, ↓x32_1, ↓f9_21, ↓x1_2, ↓v9_2, ↓x33, ↓x7_4n, ↓x7_4i, ↓x7_4r, ↓x7_3n, ↓x7_3i, ↓x7_3r, ↓l_249, ↓l_250, ↓l_251, ↓l_252, ↓l_253, ↓l_254, ↓l_255, ↓l_256, ↓l_257, ↓l_258, ↓l_259, ↓l_260, ↓l_261, ↓l_262, ↓l_263, ↓l_264, ↓l_265, ↓l_266, ↓l_267, ↓l_268, ↓l_269, ↓l_270, ↓l_271, ↓l_272, ↓l_273, ↓l_274, and_self, and_true, true_and, implies_true, true_implies, Int.reduceEq, Int.reduceLE, Int.reduceLT, not_true_eq_false, not_false_eq_true, false_implies, RTf_eq]
            exact hg
    · -- not yet
      refine ⟨A, fun {g lm RT a2} hg => ?_, fun _ _ _ => rfl, fun B h => ⟨B, 0, fun {g lm RT nn many q} hg => ?_, fun _ _ _ => rfl, h, by omega⟩⟩
      · refine q_X8_passTick_12 400 (lfok E (by omega)) ?_
        simp +contextual (disch := first | omega | exact Nat.le_of_ble_eq_true rfl | assumption) only [↓r_X8_passTick_0, ↓r_X8_passTick_1, ↓r_X8_passTick_2, ↓r_X8_passTick_5, ↓r_X8_passTick_6, ↓r_X8_passTick_7, ↓r_X8_passTick_10, ↓r_X8_passTick_11, ↓r_X8_passTick_12, ↓r_X8_passTick_13, ↓r_X8_passTick_15, ↓r_X8_passTick_18, ↓r_X8_passTick_19, ↓r_X8_passTick_22, ↓r_X8_passTick_23, ↓r_X8_passTick_24, ↓r_X8_passTick_25, ↓r_X8_passTick_26, ↓r_X8_passTick_29, ↓r_X8_passTick_32, ↓r_X8_passTick_33, ↓r_X8_passTick_36, ↓r_X8_passTick_37, ↓r_X8_passTick_40, ↓r_X8_passTick_43, ↓r_X8_passTick_46, ↓r_X8_passTick_47, ↓r_X8_passTick_50, ↓r_X8_passTick_53, ↓r_X8_passTick_54, ↓r_X8_passTick_55, ↓r_X8_passTick_58, ↓r_X8_passTick_61, ↓r_X8_passTick_62, ↓r_X8_passTick_63, ↓r_X8_passTick_66, ↓r_X8_passTick_69, ↓r_X8_passTick_72, ↓x2_0, ↓x28i, ↓x28r, ↓f8_10, ↓x0, ↓x8, ↓p8_10, ↓x4_1n, ↓x4_1i, ↓x4_1r, ↓x1_1, ↓x32_3, ↓f8_3, ↓x5_2n, ↓x5_2i, ↓x5_2r, ↓x2_2, ↓f7_3, ↓x31_0, ↓x31b0, ↓f7_10, ↓x32_0, ↓x33, ↓f7_4, ↓v8_2, ↓x7_1n, ↓x7_1i, ↓x7_1r, ↓x48_4, ↓l_2, ↓l_3, ↓l_4, ↓l_5, ↓l_6, ↓l_7, ↓l_9, ↓l_10, ↓l_11, ↓l_12, ↓l_13, ↓l_15, ↓l_16, ↓l_r1, ↓l_r2, ↓l_w1, ↓l_w2, and_self, and_true, true_and, implies_true, true_implies, Int.reduceEq, Int.reduceLE, Int.reduceLT, not_true_eq_false, not_false_eq_true, false_implies, RTf_eq]
        exact ⟨fun q => by omega, fun _ => ⟨fun _ => hg _, fun _ => ⟨fun q => absurd q cd, fun _ => hg _⟩⟩⟩
      · obtain ⟨_, hdB, g1, g2, g3⟩ := h.2.2.2.2 u hu.1 hu.2
        obtain ⟨wb, we⟩ := g3 c3
        have tm := h.2.2.2.1.2.2.1
        have b8 : ¬ B 258 u = 0 := by rw [g1]; omega
        have bd : ¬ B 265 u = B 248 12 := by rw [← we.1.2, ← tm.1]; exact cd
        have r1 : -2147483648 ≤ B 265 u ∧ B 265 u < 2147483648 := by rw [← we.1.2]; omega
        have r2 : -2147483648 ≤ B 248 12 ∧ B 248 12 < 2147483648 := by rw [← tm.1]; omega
        rw [Int.add_zero] at hg
        refine q_X9_ticks_36 400 (lfok E (by omega)) ?_
        simp +contextual (disch := first | omega | exact Nat.le_of_ble_eq_true rfl | assumption) only [↓r_X9_ticks_0, ↓r_X9_ticks_1, ↓r_X9_ticks_2, ↓r_X9_ticks_5, ↓r_X9_ticks_8, ↓r_X9_ticks_11, ↓r_X9_ticks_13, ↓r_X9_ticks_14, ↓r_X9_ticks_15, ↓r_X9_ticks_16, ↓r_X9_ticks_17, ↓r_X9_ticks_18, ↓r_X9_ticks_19, ↓r_X9_ticks_20, ↓r_X9_ticks_23, ↓r_X9_ticks_24, ↓r_X9_ticks_25, ↓r_X9_ticks_28, ↓r_X9_ticks_29, ↓r_X9_ticks_30, ↓r_X9_ticks_33, ↓r_X9_ticks_34, ↓r_X9_ticks_36, ↓r_X9_ticks_38, ↓r_X9_ticks_40, ↓r_X9_ticks_43, ↓r_X9_ticks_44, ↓r_X9_ticks_47, ↓r_X9_ticks_49, ↓r_X9_ticks_50, ↓r_X9_ticks_53, ↓r_X9_ticks_54, ↓r_X9_ticks_57, ↓r_X9_ticks_59, ↓r_X9_ticks_60, ↓r_X9_ticks_61, ↓r_X9_ticks_64, ↓r_X9_ticks_67, ↓r_X9_ticks_68, ↓r_X9_ticks_71, ↓r_X9_ticks_73, ↓r_X9_ticks_74, ↓r_X9_ticks_77, ↓r_X9_ticks_78, ↓r_X9_ticks_79, ↓r_X9_ticks_81, ↓r_X9_ticks_84, ↓r_X9_ticks_87, ↓r_X9_ticks_88, ↓r_X9_ticks_91, ↓r_X9_ticks_92, ↓r_X9_ticks_93, ↓r_X9_ticks_94, ↓r_X9_ticks_97, ↓r_X9_ticks_98, ↓r_X9_ticks_100, ↓r_X9_ticks_103, ↓r_X9_ticks_106, ↓r_X9_ticks_109, ↓r_X9_ticks_112, ↓r_X9_ticks_115, ↓r_X9_ticks_116, ↓x1_1, ↓x0, ↓lf_X9_within, ↓x31_1, ↓x31b1, ↓x48_0, ↓x4_2n, ↓x4_2i, ↓x4_2r, ↓x4_3n, ↓x4_3i, ↓x4_3r, ↓x1_3, ↓x32_3, ↓x2_0, ↓x28i, ↓x28r, ↓f9_12, ↓x8, ↓p9_12, ↓x4_4n, ↓x4_4i, ↓x4_4r, ↓x1_4, ↓f9_17, ↓x31_0, ↓x31b0, ↓f9_24, ↓x32_1, ↓f9_21, ↓x1_2, ↓v9_2, ↓x33, ↓x7_4n, ↓x7_4i, ↓x7_4r, ↓x7_3n, ↓x7_3i, ↓x7_3r, ↓l_249, ↓l_250, ↓l_251, ↓l_252, ↓l_253, ↓l_254, ↓l_255, ↓l_256, ↓l_257, ↓l_258, ↓l_259, ↓l_260, ↓l_261, ↓l_262, ↓l_263, ↓l_264, ↓l_265, ↓l_266, ↓l_267, ↓l_268, ↓l_269, ↓l_270, ↓l_271, ↓l_272, ↓l_273, ↓l_274, and_self, and_true, true_and, implies_true, true_implies, Int.reduceEq, Int.reduceLE, Int.reduceLT, not_true_eq_false, not_false_eq_true, false_implies, RTf_eq]
        exact ⟨fun q => by omega, fun _ => ⟨fun _ => hg, fun _ => ⟨fun _ => hg, fun q => absurd bd q⟩⟩⟩
end
