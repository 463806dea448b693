/-! ===== going on, going back ===== -/
/-- a walker of the class is lost -/
def loM (M : Mem) (w : Int) : Mem := up2 (up2 (up2 M (209 + 3 * w) 3 0) (209 + 3 * w) 8 (-9)) 0 12 (M 0 12 + 1)
/-- a walker of the model is lost -/
def loN (M : Mem) (w : Int) : Mem := up2 (up2 M 258 w 0) 248 15 (M 248 15 + 1)
/-- the link between two nodes, in the class -/
def lk8 (M : Mem) (i k : Int) : Int := fi (btB M (min i k) (max i k)) 0 16
def trM (M : Mem) (w a b c : Int) : Mem := up2 (up2 (up2 M (209 + 3 * w) 8 a) (209 + 3 * w) 9 b) (209 + 3 * w) 10 c
def goM (M : Mem) (w i : Int) : Mem :=
  if M 5 i = 0 ∨ 24 ≤ M (209 + 3 * w) 11 then loM M w
  else if lk8 M i (pk8 M w i) = -9 then loM (pk8M M w i) w
  else trM (up2 (pk8M M w i) (209 + 3 * w) 11 (M (209 + 3 * w) 11 + 1)) w (lk8 M i (pk8 M w i)) (pk8 M w i) (M 0 10 + M 4 (lk8 M i (pk8 M w i)) + cnt (onB M (lk8 M i (pk8 M w i)) 0) 12)
section
variable {E : ET} {S : SCR} {M : Mem}
theorem pk8M_ot {w i c z : Int} (h1 : ¬ c = 14) (h2 : ¬ c = 15) : pk8M M w i c z = M c z := by
  unfold pk8M
  split
  · unfold d8M; rw [up2_other (by omega), up2_other (by omega), putv_ne h2]
  · rw [putv_ne h2]
theorem lk8_congr {N : Mem} {i k : Int} (h2 : ∀ z, N 2 z = M 2 z) (h3 : ∀ z, N 3 z = M 3 z) (h4 : ∀ z, N 4 z = M 4 z) : lk8 N i k = lk8 M i k := by
  unfold lk8
  rw [show btB N (min i k) (max i k) = btB M (min i k) (max i k) from by unfold btB; funext l; rw [h2, h3, h4]]
theorem c_lk8 {i k : Int} (hW : CW M) (hi : rg i) (hk : rg k) : Ctr E 2 9 [vr 1, vi i, vi k] (toAH S M) (some (vi (lk8 M i k))) (toAH S M) := by
  obtain ⟨h3, h4, h8, hd, hlo, hhi, hN, hS, hn, hv, hkd, ha⟩ := hW
  exact c_between hi hk (fun z a b => by have := hd z a b; exact ⟨by omega, by omega⟩) (fun z a b => by have := hlo z a b; exact ⟨by omega, by omega⟩) (fun z a b => by have := hhi z a b; exact ⟨by omega, by omega⟩)
theorem CW_pk {w i : Int} (hW : CW M) : CW (pk8M M w i) := by
  obtain ⟨h3, h4, h8, hd, hlo, hhi, hN, hS, hn, hv, hkd, ha⟩ := hW
  refine ⟨fun k a b => ?_, fun k a b => ?_, fun k a b => ?_, fun k a b => ?_, fun k a b => ?_, fun k a b => ?_, fun k a b => ?_, fun r k a b a1 b1 => ?_, fun k a b => ?_, fun k j a b a1 b1 => ?_, fun k a b => ?_, fun k a b => ?_⟩ <;> rw [pk8M_ot (by omega) (by omega)]
  · exact h3 k a b
  · exact h4 k a b
  · exact h8 k a b
  · exact hd k a b
  · exact hlo k a b
  · exact hhi k a b
  · exact hN k a b
  · exact hS r k a b a1 b1
  · exact hn k a b
  · exact hv k j a b a1 b1
  · exact hkd k a b
  · exact ha k a b
theorem pkF_rng {ch : Set8} {wt : Vec} {dr : Int} : pkF ch wt dr = -9 ∨ (0 ≤ pkF ch wt dr ∧ pkF ch wt dr < 8 ∧ ch (pkF ch wt dr) = true) := by
  have h := fi_rng (p := pkP ch wt dr) 8 0 (by omega)
  unfold pkF
  rcases h with h | h
  · exact Or.inl h
  · refine Or.inr ⟨by omega, by omega, ?_⟩
    have := h.2.2
    unfold pkP at this
    simp only [Bool.and_eq_true] at this
    exact this.1
theorem c_goOn {w i : Int} (hW : CW M) (hw : 0 ≤ w ∧ w < 12) (hi : 0 ≤ i ∧ i < 8) (hb : rg (M (209 + 3 * w) 11)) : Ctr E 5 80 [vr 0, vr (209 + 3 * w), vi i] (toAH S M) none (toAH S (goM M w i)) := by
  have hW' := hW
  obtain ⟨h3, h4, h8, hd, hlo, hhi, hN, hS, hn, hv, hkd, ha⟩ := hW'
  have n5 := hN i hi.1 hi.2
  have eG : goM M w i = if M 5 i = 0 ∨ 24 ≤ M (209 + 3 * w) 11 then loM M w else if lk8 M i (pk8 M w i) = -9 then loM (pk8M M w i) w else trM (up2 (pk8M M w i) (209 + 3 * w) 11 (M (209 + 3 * w) 11 + 1)) w (lk8 M i (pk8 M w i)) (pk8 M w i) (M 0 10 + M 4 (lk8 M i (pk8 M w i)) + cnt (onB M (lk8 M i (pk8 M w i)) 0) 12) := rfl
  have cP := c_pick8 (E := E) (S := S) hW hw hi
  have hW2 := CW_pk (w := w) (i := i) hW
  have pr : pk8 M w i = -9 ∨ (0 ≤ pk8 M w i ∧ pk8 M w i < 8 ∧ ch8 M w i (pk8 M w i) = true) := pkF_rng
  have e0 : pk8M M w i 0 10 = M 0 10 := pk8M_ot (by omega) (by omega)
  have e4 : ∀ z, pk8M M w i 4 z = M 4 z := fun z => pk8M_ot (by omega) (by omega)
  have e11 : pk8M M w i (209 + 3 * w) 11 = M (209 + 3 * w) 11 := pk8M_ot (by omega) (by omega)
  have cB := c_lk8 (E := E) (S := S) (M := pk8M M w i) (i := i) (k := pk8 M w i) hW2 ⟨by omega, by omega⟩ ⟨by omega, by omega⟩
  rw [lk8_congr (M := M) (fun z => pk8M_ot (by omega) (by omega)) (fun z => pk8M_ot (by omega) (by omega)) e4] at cB
  have lr := fi_rng (p := btB M (min i (pk8 M w i)) (max i (pk8 M w i))) 16 0 (by omega)
  have lr' : lk8 M i (pk8 M w i) = -9 ∨ (0 ≤ lk8 M i (pk8 M w i) ∧ lk8 M i (pk8 M w i) < 16) := by
    rcases lr with q | q
    · exact Or.inl q
    · exact Or.inr ⟨by have := q.1; exact this, by have := q.2.1; unfold lk8; omega⟩
  have eO : cnt (onB (pk8M M w i) (lk8 M i (pk8 M w i)) 0) 12 = cnt (onB M (lk8 M i (pk8 M w i)) 0) 12 := cnt_congr 12 (fun j a b => by
    unfold onB; rw [pk8M_ot (by omega) (by omega), pk8M_ot (by omega) (by omega)])
  obtain ⟨g3, g4, g8, gd, glo, ghi, gN, gS, gn, gv, gkd, ga⟩ := hW2
  have cC := c_countOn (E := E) (S := S) (M := pk8M M w i) (l := lk8 M i (pk8 M w i)) (z := 0) ⟨by omega, by omega⟩ (Or.inl rfl) g8 g4
  rw [eO] at cC
  have cL0 := c_lose (E := E) (S := S) (M := M) hw
  have cL1 := c_lose (E := E) (S := S) (M := pk8M M w i) hw
  rw [show up2 (up2 (up2 M (209 + 3 * w) 3 0) (209 + 3 * w) 8 (-9)) 0 12 (M 0 12 + 1) = loM M w from rfl] at cL0
  rw [show up2 (up2 (up2 (pk8M M w i) (209 + 3 * w) 3 0) (209 + 3 * w) 8 (-9)) 0 12 (pk8M M w i 0 12 + 1) = loM (pk8M M w i) w from rfl] at cL1
  obtain ⟨P, hP⟩ : ∃ P, P = pk8M M w i := ⟨_, rfl⟩
  obtain ⟨k, hk⟩ : ∃ k, k = pk8 M w i := ⟨_, rfl⟩
  rw [← hP, ← hk] at cP
  rw [← hk] at pr cB lr' cC
  rw [← hP] at cB cC cL1 e0 e4 e11
  rw [← hk, ← hP] at eG
  obtain ⟨l, hl⟩ : ∃ l, l = lk8 M i k := ⟨_, rfl⟩
  rw [← hl] at cB cC lr' eG
  obtain ⟨n, en⟩ : ∃ n, n = cnt (onB M l 0) 12 := ⟨_, rfl⟩
  rw [← en] at cC eG
  have cT := c_travel (E := E) (S := S) (M := up2 P (209 + 3 * w) 11 (M (209 + 3 * w) 11 + 1)) (a := l) (b := k) (c := M 0 10 + M 4 l + n) hw
  rw [show up2 (up2 (up2 (up2 P (209 + 3 * w) 11 (M (209 + 3 * w) 11 + 1)) (209 + 3 * w) 8 l) (209 + 3 * w) 9 k) (209 + 3 * w) 10 (M 0 10 + M 4 l + n) = trM (up2 P (209 + 3 * w) 11 (M (209 + 3 * w) 11 + 1)) w l k (M 0 10 + M 4 l + n) from rfl] at cT
  obtain ⟨Z, hZ⟩ : ∃ Z, Z = goM M w i := ⟨_, rfl⟩
  rw [← hZ] at eG ⊢
  have g4l := e4 l
  refine Ctr_f mi_X8_goOn mo_X8_goOn (Nat.le_of_ble_eq_true rfl) ⟨Nat.le_refl _, Nat.le_refl _⟩ (fun g lm => ?_)
  rw [show entL mi_X8_goOn.2.2.1 [vr 0, vr (209 + 3 * w), vi i] = [some (vr 0), some (vr (209 + 3 * w)), some (vi i), none, none, none] from rfl]
  refine e_X8_goOn 400 (lfok E (by omega)) ?_
  by_cases c1 : M 5 i = 0
  · rw [if_pos (Or.inl c1)] at eG
    simp +contextual (disch := first | omega | exact Nat.le_of_ble_eq_true rfl | assumption) only [↓r_X8_goOn_0, ↓r_X8_goOn_1, ↓r_X8_goOn_4, ↓r_X8_goOn_7, ↓r_X8_goOn_8, ↓r_X8_goOn_9, ↓r_X8_goOn_12, ↓r_X8_goOn_13, ↓r_X8_goOn_16, ↓r_X8_goOn_18, ↓r_X8_goOn_21, ↓r_X8_goOn_22, ↓r_X8_goOn_23, ↓r_X8_goOn_26, ↓r_X8_goOn_27, ↓r_X8_goOn_28, ↓r_X8_goOn_29, ↓r_X8_goOn_30, ↓r_X8_goOn_33, ↓r_X8_goOn_34, ↓r_X8_goOn_35, ↓r_X8_goOn_38, ↓r_X8_goOn_39, ↓r_X8_goOn_40, ↓r_X8_goOn_43, ↓r_X8_goOn_45, ↓r_X8_goOn_47, ↓r_X8_goOn_49, ↓r_X8_goOn_52, ↓r_X8_goOn_53, ↓r_X8_goOn_54, ↓r_X8_goOn_57, ↓r_X8_goOn_58, ↓r_X8_goOn_59, ↓r_X8_goOn_62, ↓r_X8_goOn_63, ↓r_X8_goOn_66, ↓r_X8_goOn_69, ↓r_X8_goOn_71, ↓r_X8_goOn_72, ↓r_X8_goOn_73, ↓r_X8_goOn_74, ↓r_X8_goOn_76, ↓r_X8_goOn_77, ↓r_X8_goOn_80, ↓r_X8_goOn_81, ↓r_X8_goOn_83, ↓r_X8_goOn_84, ↓r_X8_goOn_85, ↓r_X8_goOn_88, ↓r_X8_goOn_89, ↓r_X8_goOn_90, ↓r_X8_goOn_93, ↓r_X8_goOn_94, ↓r_X8_goOn_96, ↓r_X8_goOn_97, ↓r_X8_goOn_99, ↓r_X8_goOn_102, ↓x2_0, ↓f8_0, ↓f3_3, ↓x1_2, ↓x31_0, ↓x31b0, ↓x2_1, ↓f7_11, ↓x0, ↓x32_2, ↓v8_2, ↓x48_4, ↓v8_3, ↓x4_3n, ↓x4_3i, ↓x4_3r, ↓x1_3, ↓v3_3, ↓x4_4n, ↓x4_4i, ↓x4_4r, ↓x1_4, ↓x32_1, ↓f8_10, ↓f3_2, ↓x8, ↓x4_5n, ↓x4_5i, ↓x4_5r, ↓x28i, ↓x28r, ↓p7_11, ↓x1_5, ↓v7_4, ↓l_2, ↓l_3, ↓l_4, ↓l_5, ↓l_6, ↓l_7, ↓l_9, ↓l_10, ↓l_11, ↓l_12, ↓l_13, ↓l_15, ↓l_16, ↓l_r1, ↓l_r2, ↓l_w1, ↓l_w2, and_self, and_true, true_and, implies_true, true_implies, Int.reduceEq, Int.reduceLE, Int.reduceLT, not_true_eq_false, not_false_eq_true, false_implies, RTf_eq]
    refine ⟨fun _ => ?_, fun f => absurd c1 f⟩
    refine ck_v cL0 (by omega) (by simp) ?_
    simp +contextual (disch := first | omega | exact Nat.le_of_ble_eq_true rfl | assumption) only [↓r_X8_goOn_0, ↓r_X8_goOn_1, ↓r_X8_goOn_4, ↓r_X8_goOn_7, ↓r_X8_goOn_8, ↓r_X8_goOn_9, ↓r_X8_goOn_12, ↓r_X8_goOn_13, ↓r_X8_goOn_16, ↓r_X8_goOn_18, ↓r_X8_goOn_21, ↓r_X8_goOn_22, ↓r_X8_goOn_23, ↓r_X8_goOn_26, ↓r_X8_goOn_27, ↓r_X8_goOn_28, ↓r_X8_goOn_29, ↓r_X8_goOn_30, ↓r_X8_goOn_33, ↓r_X8_goOn_34, ↓r_X8_goOn_35, ↓r_X8_goOn_38, ↓r_X8_goOn_39, ↓r_X8_goOn_40, ↓r_X8_goOn_43, ↓r_X8_goOn_45, ↓r_X8_goOn_47, ↓r_X8_goOn_49, ↓r_X8_goOn_52, ↓r_X8_goOn_53, ↓r_X8_goOn_54, ↓r_X8_goOn_57, ↓r_X8_goOn_58, ↓r_X8_goOn_59, ↓r_X8_goOn_62, ↓r_X8_goOn_63, ↓r_X8_goOn_66, ↓r_X8_goOn_69, ↓r_X8_goOn_71, ↓r_X8_goOn_72, ↓r_X8_goOn_73, ↓r_X8_goOn_74, ↓r_X8_goOn_76, ↓r_X8_goOn_77, ↓r_X8_goOn_80, ↓r_X8_goOn_81, ↓r_X8_goOn_83, ↓r_X8_goOn_84, ↓r_X8_goOn_85, ↓r_X8_goOn_88, ↓r_X8_goOn_89, ↓r_X8_goOn_90, ↓r_X8_goOn_93, ↓r_X8_goOn_94, ↓r_X8_goOn_96, ↓r_X8_goOn_97, ↓r_X8_goOn_99, ↓r_X8_goOn_102, ↓x2_0, ↓f8_0, ↓f3_3, ↓x1_2, ↓x31_0, ↓x31b0, ↓x2_1, ↓f7_11, ↓x0, ↓x32_2, ↓v8_2, ↓x48_4, ↓v8_3, ↓x4_3n, ↓x4_3i, ↓x4_3r, ↓x1_3, ↓v3_3, ↓x4_4n, ↓x4_4i, ↓x4_4r, ↓x1_4, ↓x32_1, ↓f8_10, ↓f3_2, ↓x8, ↓x4_5n, ↓x4_5i, ↓x4_5r, ↓x28i, ↓x28r, ↓p7_11, ↓x1_5, ↓v7_4, ↓l_2, ↓l_3, ↓l_4, ↓l_5, ↓l_6, ↓l_7, ↓l_9, ↓l_10, ↓l_11, ↓l_12, ↓l_13, ↓l_15, ↓l_16, ↓l_r1, ↓l_r2, ↓l_w1, ↓l_w2, and_self, and_true, true_and, implies_true, true_implies, Int.reduceEq, Int.reduceLE, Int.reduceLT, not_true_eq_false, not_false_eq_true, false_implies, RTf_eq]
    rw [eG]
  · by_cases c2 : 24 ≤ M (209 + 3 * w) 11
    · rw [if_pos (Or.inr c2)] at eG
      simp +contextual (disch := first | omega | exact Nat.le_of_ble_eq_true rfl | assumption) only [↓r_X8_goOn_0, ↓r_X8_goOn_1, ↓r_X8_goOn_4, ↓r_X8_goOn_7, ↓r_X8_goOn_8, ↓r_X8_goOn_9, ↓r_X8_goOn_12, ↓r_X8_goOn_13, ↓r_X8_goOn_16, ↓r_X8_goOn_18, ↓r_X8_goOn_21, ↓r_X8_goOn_22, ↓r_X8_goOn_23, ↓r_X8_goOn_26, ↓r_X8_goOn_27, ↓r_X8_goOn_28, ↓r_X8_goOn_29, ↓r_X8_goOn_30, ↓r_X8_goOn_33, ↓r_X8_goOn_34, ↓r_X8_goOn_35, ↓r_X8_goOn_38, ↓r_X8_goOn_39, ↓r_X8_goOn_40, ↓r_X8_goOn_43, ↓r_X8_goOn_45, ↓r_X8_goOn_47, ↓r_X8_goOn_49, ↓r_X8_goOn_52, ↓r_X8_goOn_53, ↓r_X8_goOn_54, ↓r_X8_goOn_57, ↓r_X8_goOn_58, ↓r_X8_goOn_59, ↓r_X8_goOn_62, ↓r_X8_goOn_63, ↓r_X8_goOn_66, ↓r_X8_goOn_69, ↓r_X8_goOn_71, ↓r_X8_goOn_72, ↓r_X8_goOn_73, ↓r_X8_goOn_74, ↓r_X8_goOn_76, ↓r_X8_goOn_77, ↓r_X8_goOn_80, ↓r_X8_goOn_81, ↓r_X8_goOn_83, ↓r_X8_goOn_84, ↓r_X8_goOn_85, ↓r_X8_goOn_88, ↓r_X8_goOn_89, ↓r_X8_goOn_90, ↓r_X8_goOn_93, ↓r_X8_goOn_94, ↓r_X8_goOn_96, ↓r_X8_goOn_97, ↓r_X8_goOn_99, ↓r_X8_goOn_102, ↓x2_0, ↓f8_0, ↓f3_3, ↓x1_2, ↓x31_0, ↓x31b0, ↓x2_1, ↓f7_11, ↓x0, ↓x32_2, ↓v8_2, ↓x48_4, ↓v8_3, ↓x4_3n, ↓x4_3i, ↓x4_3r, ↓x1_3, ↓v3_3, ↓x4_4n, ↓x4_4i, ↓x4_4r, ↓x1_4, ↓x32_1, ↓f8_10, ↓f3_2, ↓x8, ↓x4_5n, ↓x4_5i, ↓x4_5r, ↓x28i, ↓x28r, ↓p7_11, ↓x1_5, ↓v7_4, ↓l_2, ↓l_3, ↓l_4, ↓l_5, ↓l_6, ↓l_7, ↓l_9, ↓l_10, ↓l_11, ↓l_12, ↓l_13, ↓l_15, ↓l_16, ↓l_r1, ↓l_r2, ↓l_w1, ↓l_w2, and_self, and_true, true_and, implies_true, true_implies, Int.reduceEq, Int.reduceLE, Int.reduceLT, not_true_eq_false, not_false_eq_true, false_implies, RTf_eq]
      refine ⟨fun f => absurd f c1, fun _ => ⟨fun f => by omega, fun _ => ?_⟩⟩
      refine ck_v cL0 (by omega) (by simp) ?_
      simp +contextual (disch := first | omega | exact Nat.le_of_ble_eq_true rfl | assumption) only [↓r_X8_goOn_0, ↓r_X8_goOn_1, ↓r_X8_goOn_4, ↓r_X8_goOn_7, ↓r_X8_goOn_8, ↓r_X8_goOn_9, ↓r_X8_goOn_12, ↓r_X8_goOn_13, ↓r_X8_goOn_16, ↓r_X8_goOn_18, ↓r_X8_goOn_21, ↓r_X8_goOn_22, ↓r_X8_goOn_23, ↓r_X8_goOn_26, ↓r_X8_goOn_27, ↓r_X8_goOn_28, ↓r_X8_goOn_29, ↓r_X8_goOn_30, ↓r_X8_goOn_33, ↓r_X8_goOn_34, ↓r_X8_goOn_35, ↓r_X8_goOn_38, ↓r_X8_goOn_39, ↓r_X8_goOn_40, ↓r_X8_goOn_43, ↓r_X8_goOn_45, ↓r_X8_goOn_47, ↓r_X8_goOn_49, ↓r_X8_goOn_52, ↓r_X8_goOn_53, ↓r_X8_goOn_54, ↓r_X8_goOn_57, ↓r_X8_goOn_58, ↓r_X8_goOn_59, ↓r_X8_goOn_62, ↓r_X8_goOn_63, ↓r_X8_goOn_66, ↓r_X8_goOn_69, ↓r_X8_goOn_71, ↓r_X8_goOn_72, ↓r_X8_goOn_73, ↓r_X8_goOn_74, ↓r_X8_goOn_76, ↓r_X8_goOn_77, ↓r_X8_goOn_80, ↓r_X8_goOn_81, ↓r_X8_goOn_83, ↓r_X8_goOn_84, ↓r_X8_goOn_85, ↓r_X8_goOn_88, ↓r_X8_goOn_89, ↓r_X8_goOn_90, ↓r_X8_goOn_93, ↓r_X8_goOn_94, ↓r_X8_goOn_96, ↓r_X8_goOn_97, ↓r_X8_goOn_99, ↓r_X8_goOn_102, ↓x2_0, ↓f8_0, ↓f3_3, ↓x1_2, ↓x31_0, ↓x31b0, ↓x2_1, ↓f7_11, ↓x0, ↓x32_2, ↓v8_2, ↓x48_4, ↓v8_3, ↓x4_3n, ↓x4_3i, ↓x4_3r, ↓x1_3, ↓v3_3, ↓x4_4n, ↓x4_4i, ↓x4_4r, ↓x1_4, ↓x32_1, ↓f8_10, ↓f3_2, ↓x8, ↓x4_5n, ↓x4_5i, ↓x4_5r, ↓x28i, ↓x28r, ↓p7_11, ↓x1_5, ↓v7_4, ↓l_2, ↓l_3, ↓l_4, ↓l_5, ↓l_6, ↓l_7, ↓l_9, ↓l_10, ↓l_11, ↓l_12, ↓l_13, ↓l_15, ↓l_16, ↓l_r1, ↓l_r2, ↓l_w1, ↓l_w2, and_self, and_true, true_and, implies_true, true_implies, Int.reduceEq, Int.reduceLE, Int.reduceLT, not_true_eq_false, not_false_eq_true, false_implies, RTf_eq]
      rw [eG]
    · rw [if_neg (by omega)] at eG
      simp +contextual (disch := first | omega | exact Nat.le_of_ble_eq_true rfl | assumption) only [↓r_X8_goOn_0, ↓r_X8_goOn_1, ↓r_X8_goOn_4, ↓r_X8_goOn_7, ↓r_X8_goOn_8, ↓r_X8_goOn_9, ↓r_X8_goOn_12, ↓r_X8_goOn_13, ↓r_X8_goOn_16, ↓r_X8_goOn_18, ↓r_X8_goOn_21, ↓r_X8_goOn_22, ↓r_X8_goOn_23, ↓r_X8_goOn_26, ↓r_X8_goOn_27, ↓r_X8_goOn_28, ↓r_X8_goOn_29, ↓r_X8_goOn_30, ↓r_X8_goOn_33, ↓r_X8_goOn_34, ↓r_X8_goOn_35, ↓r_X8_goOn_38, ↓r_X8_goOn_39, ↓r_X8_goOn_40, ↓r_X8_goOn_43, ↓r_X8_goOn_45, ↓r_X8_goOn_47, ↓r_X8_goOn_49, ↓r_X8_goOn_52, ↓r_X8_goOn_53, ↓r_X8_goOn_54, ↓r_X8_goOn_57, ↓r_X8_goOn_58, ↓r_X8_goOn_59, ↓r_X8_goOn_62, ↓r_X8_goOn_63, ↓r_X8_goOn_66, ↓r_X8_goOn_69, ↓r_X8_goOn_71, ↓r_X8_goOn_72, ↓r_X8_goOn_73, ↓r_X8_goOn_74, ↓r_X8_goOn_76, ↓r_X8_goOn_77, ↓r_X8_goOn_80, ↓r_X8_goOn_81, ↓r_X8_goOn_83, ↓r_X8_goOn_84, ↓r_X8_goOn_85, ↓r_X8_goOn_88, ↓r_X8_goOn_89, ↓r_X8_goOn_90, ↓r_X8_goOn_93, ↓r_X8_goOn_94, ↓r_X8_goOn_96, ↓r_X8_goOn_97, ↓r_X8_goOn_99, ↓r_X8_goOn_102, ↓x2_0, ↓f8_0, ↓f3_3, ↓x1_2, ↓x31_0, ↓x31b0, ↓x2_1, ↓f7_11, ↓x0, ↓x32_2, ↓v8_2, ↓x48_4, ↓v8_3, ↓x4_3n, ↓x4_3i, ↓x4_3r, ↓x1_3, ↓v3_3, ↓x4_4n, ↓x4_4i, ↓x4_4r, ↓x1_4, ↓x32_1, ↓f8_10, ↓f3_2, ↓x8, ↓x4_5n, ↓x4_5i, ↓x4_5r, ↓x28i, ↓x28r, ↓p7_11, ↓x1_5, ↓v7_4, ↓l_2, ↓l_3, ↓l_4, ↓l_5, ↓l_6, ↓l_7, ↓l_9, ↓l_10, ↓l_11, ↓l_12, ↓l_13, ↓l_15, ↓l_16, ↓l_r1, ↓l_r2, ↓l_w1, ↓l_w2, and_self, and_true, true_and, implies_true, true_implies, Int.reduceEq, Int.reduceLE, Int.reduceLT, not_true_eq_false, not_false_eq_true, false_implies, RTf_eq]
      refine ⟨fun f => absurd f c1, fun _ => ⟨fun f => ?_, fun f => by omega⟩⟩
      refine ck_r cP (by omega) (by simp) ?_
      simp +contextual (disch := first | omega | exact Nat.le_of_ble_eq_true rfl | assumption) only [↓r_X8_goOn_0, ↓r_X8_goOn_1, ↓r_X8_goOn_4, ↓r_X8_goOn_7, ↓r_X8_goOn_8, ↓r_X8_goOn_9, ↓r_X8_goOn_12, ↓r_X8_goOn_13, ↓r_X8_goOn_16, ↓r_X8_goOn_18, ↓r_X8_goOn_21, ↓r_X8_goOn_22, ↓r_X8_goOn_23, ↓r_X8_goOn_26, ↓r_X8_goOn_27, ↓r_X8_goOn_28, ↓r_X8_goOn_29, ↓r_X8_goOn_30, ↓r_X8_goOn_33, ↓r_X8_goOn_34, ↓r_X8_goOn_35, ↓r_X8_goOn_38, ↓r_X8_goOn_39, ↓r_X8_goOn_40, ↓r_X8_goOn_43, ↓r_X8_goOn_45, ↓r_X8_goOn_47, ↓r_X8_goOn_49, ↓r_X8_goOn_52, ↓r_X8_goOn_53, ↓r_X8_goOn_54, ↓r_X8_goOn_57, ↓r_X8_goOn_58, ↓r_X8_goOn_59, ↓r_X8_goOn_62, ↓r_X8_goOn_63, ↓r_X8_goOn_66, ↓r_X8_goOn_69, ↓r_X8_goOn_71, ↓r_X8_goOn_72, ↓r_X8_goOn_73, ↓r_X8_goOn_74, ↓r_X8_goOn_76, ↓r_X8_goOn_77, ↓r_X8_goOn_80, ↓r_X8_goOn_81, ↓r_X8_goOn_83, ↓r_X8_goOn_84, ↓r_X8_goOn_85, ↓r_X8_goOn_88, ↓r_X8_goOn_89, ↓r_X8_goOn_90, ↓r_X8_goOn_93, ↓r_X8_goOn_94, ↓r_X8_goOn_96, ↓r_X8_goOn_97, ↓r_X8_goOn_99, ↓r_X8_goOn_102, ↓x2_0, ↓f8_0, ↓f3_3, ↓x1_2, ↓x31_0, ↓x31b0, ↓x2_1, ↓f7_11, ↓x0, ↓x32_2, ↓v8_2, ↓x48_4, ↓v8_3, ↓x4_3n, ↓x4_3i, ↓x4_3r, ↓x1_3, ↓v3_3, ↓x4_4n, ↓x4_4i, ↓x4_4r, ↓x1_4, ↓x32_1, ↓f8_10, ↓f3_2, ↓x8, ↓x4_5n, ↓x4_5i, ↓x4_5r, ↓x28i, ↓x28r, ↓p7_11, ↓x1_5, ↓v7_4, ↓l_2, ↓l_3, ↓l_4, ↓l_5, ↓l_6, ↓l_7, ↓l_9, ↓l_10, ↓l_11, ↓l_12, ↓l_13, ↓l_15, ↓l_16, ↓l_r1, ↓l_r2, ↓l_w1, ↓l_w2, and_self, and_true, true_and, implies_true, true_implies, Int.reduceEq, Int.reduceLE, Int.reduceLT, not_true_eq_false, not_false_eq_true, false_implies, RTf_eq]
      refine ck_r cB (by omega) (by simp) ?_
      by_cases c3 : l = -9
      · rw [if_pos c3] at eG
        simp +contextual (disch := first | omega | exact Nat.le_of_ble_eq_true rfl | assumption) only [↓r_X8_goOn_0, ↓r_X8_goOn_1, ↓r_X8_goOn_4, ↓r_X8_goOn_7, ↓r_X8_goOn_8, ↓r_X8_goOn_9, ↓r_X8_goOn_12, ↓r_X8_goOn_13, ↓r_X8_goOn_16, ↓r_X8_goOn_18, ↓r_X8_goOn_21, ↓r_X8_goOn_22, ↓r_X8_goOn_23, ↓r_X8_goOn_26, ↓r_X8_goOn_27, ↓r_X8_goOn_28, ↓r_X8_goOn_29, ↓r_X8_goOn_30, ↓r_X8_goOn_33, ↓r_X8_goOn_34, ↓r_X8_goOn_35, ↓r_X8_goOn_38, ↓r_X8_goOn_39, ↓r_X8_goOn_40, ↓r_X8_goOn_43, ↓r_X8_goOn_45, ↓r_X8_goOn_47, ↓r_X8_goOn_49, ↓r_X8_goOn_52, ↓r_X8_goOn_53, ↓r_X8_goOn_54, ↓r_X8_goOn_57, ↓r_X8_goOn_58, ↓r_X8_goOn_59, ↓r_X8_goOn_62, ↓r_X8_goOn_63, ↓r_X8_goOn_66, ↓r_X8_goOn_69, ↓r_X8_goOn_71, ↓r_X8_goOn_72, ↓r_X8_goOn_73, ↓r_X8_goOn_74, ↓r_X8_goOn_76, ↓r_X8_goOn_77, ↓r_X8_goOn_80, ↓r_X8_goOn_81, ↓r_X8_goOn_83, ↓r_X8_goOn_84, ↓r_X8_goOn_85, ↓r_X8_goOn_88, ↓r_X8_goOn_89, ↓r_X8_goOn_90, ↓r_X8_goOn_93, ↓r_X8_goOn_94, ↓r_X8_goOn_96, ↓r_X8_goOn_97, ↓r_X8_goOn_99, ↓r_X8_goOn_102, ↓x2_0, ↓f8_0, ↓f3_3, ↓x1_2, ↓x31_0, ↓x31b0, ↓x2_1, ↓f7_11, ↓x0, ↓x32_2, ↓v8_2, ↓x48_4, ↓v8_3, ↓x4_3n, ↓x4_3i, ↓x4_3r, ↓x1_3, ↓v3_3, ↓x4_4n, ↓x4_4i, ↓x4_4r, ↓x1_4, ↓x32_1, ↓f8_10, ↓f3_2, ↓x8, ↓x4_5n, ↓x4_5i, ↓x4_5r, ↓x28i, ↓x28r, ↓p7_11, ↓x1_5, ↓v7_4, ↓l_2, ↓l_3, ↓l_4, ↓l_5, ↓l_6, ↓l_7, ↓l_9, ↓l_10, ↓l_11, ↓l_12, ↓l_13, ↓l_15, ↓l_16, ↓l_r1, ↓l_r2, ↓l_w1, ↓l_w2, and_self, and_true, true_and, implies_true, true_implies, Int.reduceEq, Int.reduceLE, Int.reduceLT, not_true_eq_false, not_false_eq_true, false_implies, RTf_eq]
        refine ⟨fun f => absurd c3 f, fun _ => ?_⟩
        refine ck_v cL1 (by omega) (by simp) ?_
        simp +contextual (disch := first | omega | exact Nat.le_of_ble_eq_true rfl | assumption) only [↓r_X8_goOn_0, ↓r_X8_goOn_1, ↓r_X8_goOn_4, ↓r_X8_goOn_7, ↓r_X8_goOn_8, ↓r_X8_goOn_9, ↓r_X8_goOn_12, ↓r_X8_goOn_13, ↓r_X8_goOn_16, ↓r_X8_goOn_18, ↓r_X8_goOn_21, ↓r_X8_goOn_22, ↓r_X8_goOn_23, ↓r_X8_goOn_26, ↓r_X8_goOn_27, ↓r_X8_goOn_28, ↓r_X8_goOn_29, ↓r_X8_goOn_30, ↓r_X8_goOn_33, ↓r_X8_goOn_34, ↓r_X8_goOn_35, ↓r_X8_goOn_38, ↓r_X8_goOn_39, ↓r_X8_goOn_40, ↓r_X8_goOn_43, ↓r_X8_goOn_45, ↓r_X8_goOn_47, ↓r_X8_goOn_49, ↓r_X8_goOn_52, ↓r_X8_goOn_53, ↓r_X8_goOn_54, ↓r_X8_goOn_57, ↓r_X8_goOn_58, ↓r_X8_goOn_59, ↓r_X8_goOn_62, ↓r_X8_goOn_63, ↓r_X8_goOn_66, ↓r_X8_goOn_69, ↓r_X8_goOn_71, ↓r_X8_goOn_72, ↓r_X8_goOn_73, ↓r_X8_goOn_74, ↓r_X8_goOn_76, ↓r_X8_goOn_77, ↓r_X8_goOn_80, ↓r_X8_goOn_81, ↓r_X8_goOn_83, ↓r_X8_goOn_84, ↓r_X8_goOn_85, ↓r_X8_goOn_88, ↓r_X8_goOn_89, ↓r_X8_goOn_90, ↓r_X8_goOn_93, ↓r_X8_goOn_94, ↓r_X8_goOn_96, ↓r_X8_goOn_97, ↓r_X8_goOn_99, ↓r_X8_goOn_102, ↓x2_0, ↓f8_0, ↓f3_3, ↓x1_2, ↓x31_0, ↓x31b0, ↓x2_1, ↓f7_11, ↓x0, ↓x32_2, ↓v8_2, ↓x48_4, ↓v8_3, ↓x4_3n, ↓x4_3i, ↓x4_3r, ↓x1_3, ↓v3_3, ↓x4_4n, ↓x4_4i, ↓x4_4r, ↓x1_4, ↓x32_1, ↓f8_10, ↓f3_2, ↓x8, ↓x4_5n, ↓x4_5i, ↓x4_5r, ↓x28i, ↓x28r, ↓p7_11, ↓x1_5, ↓v7_4, ↓l_2, ↓l_3, ↓l_4, ↓l_5, ↓l_6, ↓l_7, ↓l_9, ↓l_10, ↓l_11, ↓l_12, ↓l_13, ↓l_15, ↓l_16, ↓l_r1, ↓l_r2, ↓l_w1, ↓l_w2, and_self, and_true, true_and, implies_true, true_implies, Int.reduceEq, Int.reduceLE, Int.reduceLT, not_true_eq_false, not_false_eq_true, false_implies, RTf_eq]
        rw [eG]
      · rw [if_neg c3] at eG
        simp +contextual (disch := first | omega | exact Nat.le_of_ble_eq_true rfl | assumption) only [↓r_X8_goOn_0, ↓r_X8_goOn_1, ↓r_X8_goOn_4, ↓r_X8_goOn_7, ↓r_X8_goOn_8, ↓r_X8_goOn_9, ↓r_X8_goOn_12, ↓r_X8_goOn_13, ↓r_X8_goOn_16, ↓r_X8_goOn_18, ↓r_X8_goOn_21, ↓r_X8_goOn_22, ↓r_X8_goOn_23, ↓r_X8_goOn_26, ↓r_X8_goOn_27, ↓r_X8_goOn_28, ↓r_X8_goOn_29, ↓r_X8_goOn_30, ↓r_X8_goOn_33, ↓r_X8_goOn_34, ↓r_X8_goOn_35, ↓r_X8_goOn_38, ↓r_X8_goOn_39, ↓r_X8_goOn_40, ↓r_X8_goOn_43, ↓r_X8_goOn_45, ↓r_X8_goOn_47, ↓r_X8_goOn_49, ↓r_X8_goOn_52, ↓r_X8_goOn_53, ↓r_X8_goOn_54, ↓r_X8_goOn_57, ↓r_X8_goOn_58, ↓r_X8_goOn_59, ↓r_X8_goOn_62, ↓r_X8_goOn_63, ↓r_X8_goOn_66, ↓r_X8_goOn_69, ↓r_X8_goOn_71, ↓r_X8_goOn_72, ↓r_X8_goOn_73, ↓r_X8_goOn_74, ↓r_X8_goOn_76, ↓r_X8_goOn_77, ↓r_X8_goOn_80, ↓r_X8_goOn_81, ↓r_X8_goOn_83, ↓r_X8_goOn_84, ↓r_X8_goOn_85, ↓r_X8_goOn_88, ↓r_X8_goOn_89, ↓r_X8_goOn_90, ↓r_X8_goOn_93, ↓r_X8_goOn_94, ↓r_X8_goOn_96, ↓r_X8_goOn_97, ↓r_X8_goOn_99, ↓r_X8_goOn_102, ↓x2_0, ↓f8_0, ↓f3_3, ↓x1_2, ↓x31_0, ↓x31b0, ↓x2_1, ↓f7_11, ↓x0, ↓x32_2, ↓v8_2, ↓x48_4, ↓v8_3, ↓x4_3n, ↓x4_3i, ↓x4_3r, ↓x1_3, ↓v3_3, ↓x4_4n, ↓x4_4i, ↓x4_4r, ↓x1_4, ↓x32_1, ↓f8_10, ↓f3_2, ↓x8, ↓x4_5n, ↓x4_5i, ↓x4_5r, ↓x28i, ↓x28r, ↓p7_11, ↓x1_5, ↓v7_4, ↓l_2, ↓l_3, ↓l_4, ↓l_5, ↓l_6, ↓l_7, ↓l_9, ↓l_10, ↓l_11, ↓l_12, ↓l_13, ↓l_15, ↓l_16, ↓l_r1, ↓l_r2, ↓l_w1, ↓l_w2, and_self, and_true, true_and, implies_true, true_implies, Int.reduceEq, Int.reduceLE, Int.reduceLT, not_true_eq_false, not_false_eq_true, false_implies, RTf_eq, e0, g4l]
        refine ⟨fun _ => ?_, fun f => absurd c3 f⟩
        refine ck_r cC (by omega) (by simp) ?_
        simp +contextual (disch := first | omega | exact Nat.le_of_ble_eq_true rfl | assumption) only [↓r_X8_goOn_0, ↓r_X8_goOn_1, ↓r_X8_goOn_4, ↓r_X8_goOn_7, ↓r_X8_goOn_8, ↓r_X8_goOn_9, ↓r_X8_goOn_12, ↓r_X8_goOn_13, ↓r_X8_goOn_16, ↓r_X8_goOn_18, ↓r_X8_goOn_21, ↓r_X8_goOn_22, ↓r_X8_goOn_23, ↓r_X8_goOn_26, ↓r_X8_goOn_27, ↓r_X8_goOn_28, ↓r_X8_goOn_29, ↓r_X8_goOn_30, ↓r_X8_goOn_33, ↓r_X8_goOn_34, ↓r_X8_goOn_35, ↓r_X8_goOn_38, ↓r_X8_goOn_39, ↓r_X8_goOn_40, ↓r_X8_goOn_43, ↓r_X8_goOn_45, ↓r_X8_goOn_47, ↓r_X8_goOn_49, ↓r_X8_goOn_52, ↓r_X8_goOn_53, ↓r_X8_goOn_54, ↓r_X8_goOn_57, ↓r_X8_goOn_58, ↓r_X8_goOn_59, ↓r_X8_goOn_62, ↓r_X8_goOn_63, ↓r_X8_goOn_66, ↓r_X8_goOn_69, ↓r_X8_goOn_71, ↓r_X8_goOn_72, ↓r_X8_goOn_73, ↓r_X8_goOn_74, ↓r_X8_goOn_76, ↓r_X8_goOn_77, ↓r_X8_goOn_80, ↓r_X8_goOn_81, ↓r_X8_goOn_83, ↓r_X8_goOn_84, ↓r_X8_goOn_85, ↓r_X8_goOn_88, ↓r_X8_goOn_89, ↓r_X8_goOn_90, ↓r_X8_goOn_93, ↓r_X8_goOn_94, ↓r_X8_goOn_96, ↓r_X8_goOn_97, ↓r_X8_goOn_99, ↓r_X8_goOn_102, ↓x2_0, ↓f8_0, ↓f3_3, ↓x1_2, ↓x31_0, ↓x31b0, ↓x2_1, ↓f7_11, ↓x0, ↓x32_2, ↓v8_2, ↓x48_4, ↓v8_3, ↓x4_3n, ↓x4_3i, ↓x4_3r, ↓x1_3, ↓v3_3, ↓x4_4n, ↓x4_4i, ↓x4_4r, ↓x1_4, ↓x32_1, ↓f8_10, ↓f3_2, ↓x8, ↓x4_5n, ↓x4_5i, ↓x4_5r, ↓x28i, ↓x28r, ↓p7_11, ↓x1_5, ↓v7_4, ↓l_2, ↓l_3, ↓l_4, ↓l_5, ↓l_6, ↓l_7, ↓l_9, ↓l_10, ↓l_11, ↓l_12, ↓l_13, ↓l_15, ↓l_16, ↓l_r1, ↓l_r2, ↓l_w1, ↓l_w2, and_self, and_true, true_and, implies_true, true_implies, Int.reduceEq, Int.reduceLE, Int.reduceLT, not_true_eq_false, not_false_eq_true, false_implies, RTf_eq, e11]
        refine ck_v cT (by omega) (by simp) ?_
        simp +contextual (disch := first | omega | exact Nat.le_of_ble_eq_true rfl | assumption) only [↓r_X8_goOn_0, ↓r_X8_goOn_1, ↓r_X8_goOn_4, ↓r_X8_goOn_7, ↓r_X8_goOn_8, ↓r_X8_goOn_9, ↓r_X8_goOn_12, ↓r_X8_goOn_13, ↓r_X8_goOn_16, ↓r_X8_goOn_18, ↓r_X8_goOn_21, ↓r_X8_goOn_22, ↓r_X8_goOn_23, ↓r_X8_goOn_26, ↓r_X8_goOn_27, ↓r_X8_goOn_28, ↓r_X8_goOn_29, ↓r_X8_goOn_30, ↓r_X8_goOn_33, ↓r_X8_goOn_34, ↓r_X8_goOn_35, ↓r_X8_goOn_38, ↓r_X8_goOn_39, ↓r_X8_goOn_40, ↓r_X8_goOn_43, ↓r_X8_goOn_45, ↓r_X8_goOn_47, ↓r_X8_goOn_49, ↓r_X8_goOn_52, ↓r_X8_goOn_53, ↓r_X8_goOn_54, ↓r_X8_goOn_57, ↓r_X8_goOn_58, ↓r_X8_goOn_59, ↓r_X8_goOn_62, ↓r_X8_goOn_63, ↓r_X8_goOn_66, ↓r_X8_goOn_69, ↓r_X8_goOn_71, ↓r_X8_goOn_72, ↓r_X8_goOn_73, ↓r_X8_goOn_74, ↓r_X8_goOn_76, ↓r_X8_goOn_77, ↓r_X8_goOn_80, ↓r_X8_goOn_81, ↓r_X8_goOn_83, ↓r_X8_goOn_84, ↓r_X8_goOn_85, ↓r_X8_goOn_88, ↓r_X8_goOn_89, ↓r_X8_goOn_90, ↓r_X8_goOn_93, ↓r_X8_goOn_94, ↓r_X8_goOn_96, ↓r_X8_goOn_97, ↓r_X8_goOn_99, ↓r_X8_goOn_102, ↓x2_0, ↓f8_0, ↓f3_3, ↓x1_2, ↓x31_0, ↓x31b0, ↓x2_1, ↓f7_11, ↓x0, ↓x32_2, ↓v8_2, ↓x48_4, ↓v8_3, ↓x4_3n, ↓x4_3i, ↓x4_3r, ↓x1_3, ↓v3_3, ↓x4_4n, ↓x4_4i, ↓x4_4r, ↓x1_4, ↓x32_1, ↓f8_10, ↓f3_2, ↓x8, ↓x4_5n, ↓x4_5i, ↓x4_5r, ↓x28i, ↓x28r, ↓p7_11, ↓x1_5, ↓v7_4, ↓l_2, ↓l_3, ↓l_4, ↓l_5, ↓l_6, ↓l_7, ↓l_9, ↓l_10, ↓l_11, ↓l_12, ↓l_13, ↓l_15, ↓l_16, ↓l_r1, ↓l_r2, ↓l_w1, ↓l_w2, and_self, and_true, true_and, implies_true, true_implies, Int.reduceEq, Int.reduceLE, Int.reduceLT, not_true_eq_false, not_false_eq_true, false_implies, RTf_eq]
        rw [eG]
/-- going on, in the model -/
def kn9 (M : Mem) (w i : Int) : Int := if M 266 w = 24 then -9 else pk9 M w i
def kp9 (M : Mem) (w i : Int) : Mem := if M 266 w = 24 then M else pk9M M w i
def goN (M : Mem) (w i : Int) : Mem :=
  if kn9 M w i = -9 then loN (kp9 M w i) w
  else up2 (up2 (up2 (up2 (kp9 M w i) 263 w (M 253 (8 * i + kn9 M w i))) 264 w (kn9 M w i)) 265 w (M 248 12 + M 252 (M 253 (8 * i + kn9 M w i)) + cnt (onB9 M (M 253 (8 * i + kn9 M w i)) 0) 12)) 266 w (M 266 w + 1)
theorem kp9_ot {w i c z : Int} (h : ¬ c = 248 ∨ (¬ z = 11 ∧ ¬ z = 13)) : kp9 M w i c z = M c z := by
  unfold kp9 pk9M
  split
  · rfl
  · split
    · unfold d9M; rw [up2_other (by omega), up2_other (by omega)]
    · rfl
theorem ch9_sub {w i k : Int} (h : ch9 M w i k = true) : nbm M i k = true := by
  unfold ch9 chS at h
  split at h
  · unfold stS at h; simp only [Bool.and_eq_true] at h; exact h.1
  · exact h
theorem c_goesOn {w i : Int} (hW : MW M) (hw : 0 ≤ w ∧ w < 12) (hi : 0 ≤ i ∧ i < 8) (hb : rg (M 266 w)) : Ctr E 5 125 [vr 248, vi w, vi i] (toAH S M) (some (vi (b2 (¬ kn9 M w i = -9)))) (toAH S (goN M w i)) := by
  have hW' := hW
  obtain ⟨h3, h4, h8, hL, hS, hn, hv, hkd, ha⟩ := hW'
  have eG : goN M w i = if kn9 M w i = -9 then loN (kp9 M w i) w else up2 (up2 (up2 (up2 (kp9 M w i) 263 w (M 253 (8 * i + kn9 M w i))) 264 w (kn9 M w i)) 265 w (M 248 12 + M 252 (M 253 (8 * i + kn9 M w i)) + cnt (onB9 M (M 253 (8 * i + kn9 M w i)) 0) 12)) 266 w (M 266 w + 1) := rfl
  have cP := c_pick9 (E := E) (S := S) hW hw hi
  rw [show pkF (ch9 M w i) (wt9 M w i) (if 0 < smv (ch9 M w i) (wt9 M w i) 8 then drw (M 248 11) (smv (ch9 M w i) (wt9 M w i) 8) else -1) = pk9 M w i from rfl, show (if 0 < smv (ch9 M w i) (wt9 M w i) 8 then d9M M else M) = pk9M M w i from rfl] at cP
  have pr : pk9 M w i = -9 ∨ (0 ≤ pk9 M w i ∧ pk9 M w i < 8 ∧ ch9 M w i (pk9 M w i) = true) := pkF_rng
  have kr : kn9 M w i = -9 ∨ (0 ≤ kn9 M w i ∧ kn9 M w i < 8 ∧ nbm M i (kn9 M w i) = true) := by
    unfold kn9
    split
    · exact Or.inl rfl
    · rcases pr with q | q
      · exact Or.inl q
      · exact Or.inr ⟨q.1, q.2.1, ch9_sub q.2.2⟩
  have e : ∀ c z, (¬ c = 248 ∨ (¬ z = 11 ∧ ¬ z = 13)) → kp9 M w i c z = M c z := fun c z h => kp9_ot h
  have cL := c_loses (E := E) (S := S) (M := kp9 M w i) hw
  rw [show up2 (up2 (kp9 M w i) 258 w 0) 248 15 (kp9 M w i 248 15 + 1) = loN (kp9 M w i) w from rfl] at cL
  have ek : kn9 M w i = if M 266 w = 24 then -9 else pk9 M w i := rfl
  have ep : kp9 M w i = if M 266 w = 24 then M else pk9M M w i := rfl
  obtain ⟨P, hP⟩ : ∃ P, P = kp9 M w i := ⟨_, rfl⟩
  obtain ⟨k, hk⟩ : ∃ k, k = kn9 M w i := ⟨_, rfl⟩
  rw [← hP] at eG e cL ep
  rw [← hk] at eG kr ek ⊢
  obtain ⟨l, hl⟩ : ∃ l, l = M 253 (8 * i + k) := ⟨_, rfl⟩
  have lr : ¬ k = -9 → 0 ≤ l ∧ l < 16 := fun c => by
    have k1 : 0 ≤ k ∧ k < 8 ∧ nbm M i k = true := by rcases kr with q | q; exact absurd q c; exact q
    have := hL (8 * i + k) (by omega) (by omega)
    have k2 := k1.2.2
    unfold nbm at k2
    have k3 := of_decide_eq_true k2
    rw [← hl] at this k3
    omega
  rw [← hl] at eG
  obtain ⟨n, en⟩ : ∃ n, n = cnt (onB9 M l 0) 12 := ⟨_, rfl⟩
  rw [← en] at eG
  obtain ⟨Z, hZ⟩ : ∃ Z, Z = goN M w i := ⟨_, rfl⟩
  rw [← hZ] at eG ⊢
  obtain ⟨A, hA⟩ : ∃ A, A = b2 (¬ k = -9) := ⟨_, rfl⟩
  rw [← hA]
  have eO : onB9 P l 0 = onB9 M l 0 := by
    unfold onB9; funext j; rw [e 258 j (by omega), e 263 j (by omega), e 262 j (by omega)]
  have fin : ∀ (g : GT) (lm : Nat × Nat) (N : Nat), run E g mi_X9_goesOn 5 lm (RTf (some (vi A)) (toAH S Z)) lfF pm_X9_goesOn (N + 100) 22 [some (vr 248), some (vi w), some (vi i), none, none, none] [vi k] (toAH S P) := by
    intro g lm N
    by_cases c : k = -9
    · rw [if_pos c] at eG
      have hA' : A = 0 := by rw [hA]; simp [b2, c]
      simp +contextual (disch := first | omega | exact Nat.le_of_ble_eq_true rfl | assumption) only [↓r_X9_goesOn_0, ↓r_X9_goesOn_1, ↓r_X9_goesOn_4, ↓r_X9_goesOn_5, ↓r_X9_goesOn_6, ↓r_X9_goesOn_8, ↓r_X9_goesOn_11, ↓r_X9_goesOn_13, ↓r_X9_goesOn_16, ↓r_X9_goesOn_17, ↓r_X9_goesOn_18, ↓r_X9_goesOn_19, ↓r_X9_goesOn_22, ↓r_X9_goesOn_23, ↓r_X9_goesOn_24, ↓r_X9_goesOn_26, ↓r_X9_goesOn_29, ↓r_X9_goesOn_30, ↓r_X9_goesOn_31, ↓r_X9_goesOn_34, ↓r_X9_goesOn_35, ↓r_X9_goesOn_36, ↓r_X9_goesOn_37, ↓r_X9_goesOn_40, ↓r_X9_goesOn_42, ↓r_X9_goesOn_43, ↓r_X9_goesOn_44, ↓r_X9_goesOn_45, ↓r_X9_goesOn_46, ↓r_X9_goesOn_47, ↓r_X9_goesOn_49, ↓r_X9_goesOn_50, ↓r_X9_goesOn_52, ↓r_X9_goesOn_53, ↓r_X9_goesOn_56, ↓r_X9_goesOn_58, ↓r_X9_goesOn_59, ↓r_X9_goesOn_62, ↓r_X9_goesOn_63, ↓r_X9_goesOn_65, ↓r_X9_goesOn_66, ↓r_X9_goesOn_67, ↓r_X9_goesOn_70, ↓r_X9_goesOn_71, ↓r_X9_goesOn_72, ↓r_X9_goesOn_73, ↓r_X9_goesOn_74, ↓r_X9_goesOn_77, ↓r_X9_goesOn_78, ↓r_X9_goesOn_79, ↓r_X9_goesOn_82, ↓r_X9_goesOn_83, ↓r_X9_goesOn_86, ↓r_X9_goesOn_88, ↓r_X9_goesOn_89, ↓r_X9_goesOn_90, ↓r_X9_goesOn_92, ↓r_X9_goesOn_93, ↓r_X9_goesOn_94, ↓r_X9_goesOn_95, ↓r_X9_goesOn_98, ↓r_X9_goesOn_99, ↓r_X9_goesOn_100, ↓r_X9_goesOn_101, ↓r_X9_goesOn_102, ↓r_X9_goesOn_103, ↓r_X9_goesOn_104, ↓r_X9_goesOn_105, ↓x2_0, ↓f9_25, ↓x1_1, ↓x0, ↓x32_1, ↓x33, ↓x1_2, ↓v9_3, ↓x4_3n, ↓x4_3i, ↓x4_3r, ↓x1_3, ↓v9_2, ↓x48_1, ↓f9_4, ↓x10, ↓x8, ↓x4_4n, ↓x4_4i, ↓x4_4r, ↓x1_4, ↓x4_5n, ↓x4_5i, ↓x4_5r, ↓f9_22, ↓f9_23, ↓f9_24, ↓f9_12, ↓f9_3, ↓x1_5, ↓x29, ↓l_249, ↓s_249, ↓l_250, ↓s_250, ↓l_251, ↓s_251, ↓l_252, ↓s_252, ↓l_253, ↓s_253, ↓l_254, ↓s_254, ↓l_255, ↓s_255, ↓l_256, ↓s_256, ↓l_257, ↓s_257, ↓l_258, ↓s_258, ↓l_259, ↓s_259, ↓l_260, ↓s_260, ↓l_261, ↓s_261, ↓l_262, ↓s_262, ↓l_263, ↓s_263, ↓l_264, ↓s_264, ↓l_265, ↓s_265, ↓l_266, ↓s_266, ↓l_267, ↓s_267, ↓l_268, ↓s_268, ↓l_269, ↓s_269, ↓l_270, ↓s_270, ↓l_271, ↓s_271, ↓l_272, ↓s_272, ↓l_273, ↓s_273, ↓l_274, ↓s_274, and_self, and_true, true_and, implies_true, true_implies, Int.reduceEq, Int.reduceLE, Int.reduceLT, not_true_eq_false, not_false_eq_true, false_implies, RTf_eq]
      refine ⟨fun f => absurd c f, fun _ => ?_⟩
      refine ck_v cL (by omega) (by simp) ?_
      simp +contextual (disch := first | omega | exact Nat.le_of_ble_eq_true rfl | assumption) only [↓r_X9_goesOn_0, ↓r_X9_goesOn_1, ↓r_X9_goesOn_4, ↓r_X9_goesOn_5, ↓r_X9_goesOn_6, ↓r_X9_goesOn_8, ↓r_X9_goesOn_11, ↓r_X9_goesOn_13, ↓r_X9_goesOn_16, ↓r_X9_goesOn_17, ↓r_X9_goesOn_18, ↓r_X9_goesOn_19, ↓r_X9_goesOn_22, ↓r_X9_goesOn_23, ↓r_X9_goesOn_24, ↓r_X9_goesOn_26, ↓r_X9_goesOn_29, ↓r_X9_goesOn_30, ↓r_X9_goesOn_31, ↓r_X9_goesOn_34, ↓r_X9_goesOn_35, ↓r_X9_goesOn_36, ↓r_X9_goesOn_37, ↓r_X9_goesOn_40, ↓r_X9_goesOn_42, ↓r_X9_goesOn_43, ↓r_X9_goesOn_44, ↓r_X9_goesOn_45, ↓r_X9_goesOn_46, ↓r_X9_goesOn_47, ↓r_X9_goesOn_49, ↓r_X9_goesOn_50, ↓r_X9_goesOn_52, ↓r_X9_goesOn_53, ↓r_X9_goesOn_56, ↓r_X9_goesOn_58, ↓r_X9_goesOn_59, ↓r_X9_goesOn_62, ↓r_X9_goesOn_63, ↓r_X9_goesOn_65, ↓r_X9_goesOn_66, ↓r_X9_goesOn_67, ↓r_X9_goesOn_70, ↓r_X9_goesOn_71, ↓r_X9_goesOn_72, ↓r_X9_goesOn_73, ↓r_X9_goesOn_74, ↓r_X9_goesOn_77, ↓r_X9_goesOn_78, ↓r_X9_goesOn_79, ↓r_X9_goesOn_82, ↓r_X9_goesOn_83, ↓r_X9_goesOn_86, ↓r_X9_goesOn_88, ↓r_X9_goesOn_89, ↓r_X9_goesOn_90, ↓r_X9_goesOn_92, ↓r_X9_goesOn_93, ↓r_X9_goesOn_94, ↓r_X9_goesOn_95, ↓r_X9_goesOn_98, ↓r_X9_goesOn_99, ↓r_X9_goesOn_100, ↓r_X9_goesOn_101, ↓r_X9_goesOn_102, ↓r_X9_goesOn_103, ↓r_X9_goesOn_104, ↓r_X9_goesOn_105, ↓x2_0, ↓f9_25, ↓x1_1, ↓x0, ↓x32_1, ↓x33, ↓x1_2, ↓v9_3, ↓x4_3n, ↓x4_3i, ↓x4_3r, ↓x1_3, ↓v9_2, ↓x48_1, ↓f9_4, ↓x10, ↓x8, ↓x4_4n, ↓x4_4i, ↓x4_4r, ↓x1_4, ↓x4_5n, ↓x4_5i, ↓x4_5r, ↓f9_22, ↓f9_23, ↓f9_24, ↓f9_12, ↓f9_3, ↓x1_5, ↓x29, ↓l_249, ↓s_249, ↓l_250, ↓s_250, ↓l_251, ↓s_251, ↓l_252, ↓s_252, ↓l_253, ↓s_253, ↓l_254, ↓s_254, ↓l_255, ↓s_255, ↓l_256, ↓s_256, ↓l_257, ↓s_257, ↓l_258, ↓s_258, ↓l_259, ↓s_259, ↓l_260, ↓s_260, ↓l_261, ↓s_261, ↓l_262, ↓s_262, ↓l_263, ↓s_263, ↓l_264, ↓s_264, ↓l_265, ↓s_265, ↓l_266, ↓s_266, ↓l_267, ↓s_267, ↓l_268, ↓s_268, ↓l_269, ↓s_269, ↓l_270, ↓s_270, ↓l_271, ↓s_271, ↓l_272, ↓s_272, ↓l_273, ↓s_273, ↓l_274, ↓s_274, and_self, and_true, true_and, implies_true, true_implies, Int.reduceEq, Int.reduceLE, Int.reduceLT, not_true_eq_false, not_false_eq_true, false_implies, RTf_eq]
      rw [eG, hA']
      simp
    · rw [if_neg c] at eG
      have hA' : A = 1 := by rw [hA]; simp [b2, c]
      have l1 := lr c
      have k1 : 0 ≤ k ∧ k < 8 := by omega
      have eP : P 253 (8 * i + k) = l := by rw [e 253 _ (by omega), hl]
      have cC := c_onIt (E := E) (S := S) (M := P) (l := l) (z := 0) ⟨by omega, by omega⟩ (Or.inl rfl) (fun j a b => by rw [e 258 j (by omega)]; exact h3 j a b) (fun j a b => by rw [e 263 j (by omega)]; exact h8 j a b) (fun j a b => by rw [e 262 j (by omega)]; exact h4 j a b)
      rw [eO, ← en] at cC
      have e1 : up2 (up2 P 263 w l) 264 w k 248 12 = M 248 12 := by rw [up2_other (by omega), up2_other (by omega), e 248 12 (by omega)]
      have e2 : up2 (up2 P 263 w l) 264 w k 252 l = M 252 l := by rw [up2_other (by omega), up2_other (by omega), e 252 l (by omega)]
      have e3 : up2 (up2 (up2 P 263 w l) 264 w k) 265 w (M 248 12 + M 252 l + n) 266 w = M 266 w := by rw [up2_other (by omega), up2_other (by omega), up2_other (by omega), e 266 w (by omega)]
      simp +contextual (disch := first | omega | exact Nat.le_of_ble_eq_true rfl | assumption) only [↓r_X9_goesOn_0, ↓r_X9_goesOn_1, ↓r_X9_goesOn_4, ↓r_X9_goesOn_5, ↓r_X9_goesOn_6, ↓r_X9_goesOn_8, ↓r_X9_goesOn_11, ↓r_X9_goesOn_13, ↓r_X9_goesOn_16, ↓r_X9_goesOn_17, ↓r_X9_goesOn_18, ↓r_X9_goesOn_19, ↓r_X9_goesOn_22, ↓r_X9_goesOn_23, ↓r_X9_goesOn_24, ↓r_X9_goesOn_26, ↓r_X9_goesOn_29, ↓r_X9_goesOn_30, ↓r_X9_goesOn_31, ↓r_X9_goesOn_34, ↓r_X9_goesOn_35, ↓r_X9_goesOn_36, ↓r_X9_goesOn_37, ↓r_X9_goesOn_40, ↓r_X9_goesOn_42, ↓r_X9_goesOn_43, ↓r_X9_goesOn_44, ↓r_X9_goesOn_45, ↓r_X9_goesOn_46, ↓r_X9_goesOn_47, ↓r_X9_goesOn_49, ↓r_X9_goesOn_50, ↓r_X9_goesOn_52, ↓r_X9_goesOn_53, ↓r_X9_goesOn_56, ↓r_X9_goesOn_58, ↓r_X9_goesOn_59, ↓r_X9_goesOn_62, ↓r_X9_goesOn_63, ↓r_X9_goesOn_65, ↓r_X9_goesOn_66, ↓r_X9_goesOn_67, ↓r_X9_goesOn_70, ↓r_X9_goesOn_71, ↓r_X9_goesOn_72, ↓r_X9_goesOn_73, ↓r_X9_goesOn_74, ↓r_X9_goesOn_77, ↓r_X9_goesOn_78, ↓r_X9_goesOn_79, ↓r_X9_goesOn_82, ↓r_X9_goesOn_83, ↓r_X9_goesOn_86, ↓r_X9_goesOn_88, ↓r_X9_goesOn_89, ↓r_X9_goesOn_90, ↓r_X9_goesOn_92, ↓r_X9_goesOn_93, ↓r_X9_goesOn_94, ↓r_X9_goesOn_95, ↓r_X9_goesOn_98, ↓r_X9_goesOn_99, ↓r_X9_goesOn_100, ↓r_X9_goesOn_101, ↓r_X9_goesOn_102, ↓r_X9_goesOn_103, ↓r_X9_goesOn_104, ↓r_X9_goesOn_105, ↓x2_0, ↓f9_25, ↓x1_1, ↓x0, ↓x32_1, ↓x33, ↓x1_2, ↓v9_3, ↓x4_3n, ↓x4_3i, ↓x4_3r, ↓x1_3, ↓v9_2, ↓x48_1, ↓f9_4, ↓x10, ↓x8, ↓x4_4n, ↓x4_4i, ↓x4_4r, ↓x1_4, ↓x4_5n, ↓x4_5i, ↓x4_5r, ↓f9_22, ↓f9_23, ↓f9_24, ↓f9_12, ↓f9_3, ↓x1_5, ↓x29, ↓l_249, ↓s_249, ↓l_250, ↓s_250, ↓l_251, ↓s_251, ↓l_252, ↓s_252, ↓l_253, ↓s_253, ↓l_254, ↓s_254, ↓l_255, ↓s_255, ↓l_256, ↓s_256, ↓l_257, ↓s_257, ↓l_258, ↓s_258, ↓l_259, ↓s_259, ↓l_260, ↓s_260, ↓l_261, ↓s_261, ↓l_262, ↓s_262, ↓l_263, ↓s_263, ↓l_264, ↓s_264, ↓l_265, ↓s_265, ↓l_266, ↓s_266, ↓l_267, ↓s_267, ↓l_268, ↓s_268, ↓l_269, ↓s_269, ↓l_270, ↓s_270, ↓l_271, ↓s_271, ↓l_272, ↓s_272, ↓l_273, ↓s_273, ↓l_274, ↓s_274, and_self, and_true, true_and, implies_true, true_implies, Int.reduceEq, Int.reduceLE, Int.reduceLT, not_true_eq_false, not_false_eq_true, false_implies, RTf_eq, eP]
      refine ⟨fun _ => ?_, fun f => absurd c f⟩
      refine ck_r cC (by omega) (by simp) ?_
      simp +contextual (disch := first | omega | exact Nat.le_of_ble_eq_true rfl | assumption) only [↓r_X9_goesOn_0, ↓r_X9_goesOn_1, ↓r_X9_goesOn_4, ↓r_X9_goesOn_5, ↓r_X9_goesOn_6, ↓r_X9_goesOn_8, ↓r_X9_goesOn_11, ↓r_X9_goesOn_13, ↓r_X9_goesOn_16, ↓r_X9_goesOn_17, ↓r_X9_goesOn_18, ↓r_X9_goesOn_19, ↓r_X9_goesOn_22, ↓r_X9_goesOn_23, ↓r_X9_goesOn_24, ↓r_X9_goesOn_26, ↓r_X9_goesOn_29, ↓r_X9_goesOn_30, ↓r_X9_goesOn_31, ↓r_X9_goesOn_34, ↓r_X9_goesOn_35, ↓r_X9_goesOn_36, ↓r_X9_goesOn_37, ↓r_X9_goesOn_40, ↓r_X9_goesOn_42, ↓r_X9_goesOn_43, ↓r_X9_goesOn_44, ↓r_X9_goesOn_45, ↓r_X9_goesOn_46, ↓r_X9_goesOn_47, ↓r_X9_goesOn_49, ↓r_X9_goesOn_50, ↓r_X9_goesOn_52, ↓r_X9_goesOn_53, ↓r_X9_goesOn_56, ↓r_X9_goesOn_58, ↓r_X9_goesOn_59, ↓r_X9_goesOn_62, ↓r_X9_goesOn_63, ↓r_X9_goesOn_65, ↓r_X9_goesOn_66, ↓r_X9_goesOn_67, ↓r_X9_goesOn_70, ↓r_X9_goesOn_71, ↓r_X9_goesOn_72, ↓r_X9_goesOn_73, ↓r_X9_goesOn_74, ↓r_X9_goesOn_77, ↓r_X9_goesOn_78, ↓r_X9_goesOn_79, ↓r_X9_goesOn_82, ↓r_X9_goesOn_83, ↓r_X9_goesOn_86, ↓r_X9_goesOn_88, ↓r_X9_goesOn_89, ↓r_X9_goesOn_90, ↓r_X9_goesOn_92, ↓r_X9_goesOn_93, ↓r_X9_goesOn_94, ↓r_X9_goesOn_95, ↓r_X9_goesOn_98, ↓r_X9_goesOn_99, ↓r_X9_goesOn_100, ↓r_X9_goesOn_101, ↓r_X9_goesOn_102, ↓r_X9_goesOn_103, ↓r_X9_goesOn_104, ↓r_X9_goesOn_105, ↓x2_0, ↓f9_25, ↓x1_1, ↓x0, ↓x32_1, ↓x33, ↓x1_2, ↓v9_3, ↓x4_3n, ↓x4_3i, ↓x4_3r, ↓x1_3, ↓v9_2, ↓x48_1, ↓f9_4, ↓x10, ↓x8, ↓x4_4n, ↓x4_4i, ↓x4_4r, ↓x1_4, ↓x4_5n, ↓x4_5i, ↓x4_5r, ↓f9_22, ↓f9_23, ↓f9_24, ↓f9_12, ↓f9_3, ↓x1_5, ↓x29, ↓l_249, ↓s_249, ↓l_250, ↓s_250, ↓l_251, ↓s_251, ↓l_252, ↓s_252, ↓l_253, ↓s_253, ↓l_254, ↓s_254, ↓l_255, ↓s_255, ↓l_256, ↓s_256, ↓l_257, ↓s_257, ↓l_258, ↓s_258, ↓l_259, ↓s_259, ↓l_260, ↓s_260, ↓l_261, ↓s_261, ↓l_262, ↓s_262, ↓l_263, ↓s_263, ↓l_264, ↓s_264, ↓l_265, ↓s_265, ↓l_266, ↓s_266, ↓l_267, ↓s_267, ↓l_268, ↓s_268, ↓l_269, ↓s_269, ↓l_270, ↓s_270, ↓l_271, ↓s_271, ↓l_272, ↓s_272, ↓l_273, ↓s_273, ↓l_274, ↓s_274, and_self, and_true, true_and, implies_true, true_implies, Int.reduceEq, Int.reduceLE, Int.reduceLT, not_true_eq_false, not_false_eq_true, false_implies, RTf_eq, e1, e2, e3]
      rw [eG, hA']
      simp
  refine Ctr_f mi_X9_goesOn mo_X9_goesOn (Nat.le_of_ble_eq_true rfl) ⟨Nat.le_refl _, Nat.le_refl _⟩ (fun g lm => ?_)
  rw [show entL mi_X9_goesOn.2.2.1 [vr 248, vi w, vi i] = [some (vr 248), some (vi w), some (vi i), none, none, none] from rfl]
  refine e_X9_goesOn 400 (lfok E (by omega)) ?_
  by_cases c0 : M 266 w = 24
  · rw [if_pos c0] at ek ep
    rw [if_pos ek] at eG
    have hA' : A = 0 := by rw [hA]; simp [b2, ek]
    rw [ep] at cL eG
    simp +contextual (disch := first | omega | exact Nat.le_of_ble_eq_true rfl | assumption) only [↓r_X9_goesOn_0, ↓r_X9_goesOn_1, ↓r_X9_goesOn_4, ↓r_X9_goesOn_5, ↓r_X9_goesOn_6, ↓r_X9_goesOn_8, ↓r_X9_goesOn_11, ↓r_X9_goesOn_13, ↓r_X9_goesOn_16, ↓r_X9_goesOn_17, ↓r_X9_goesOn_18, ↓r_X9_goesOn_19, ↓r_X9_goesOn_22, ↓r_X9_goesOn_23, ↓r_X9_goesOn_24, ↓r_X9_goesOn_26, ↓r_X9_goesOn_29, ↓r_X9_goesOn_30, ↓r_X9_goesOn_31, ↓r_X9_goesOn_34, ↓r_X9_goesOn_35, ↓r_X9_goesOn_36, ↓r_X9_goesOn_37, ↓r_X9_goesOn_40, ↓r_X9_goesOn_42, ↓r_X9_goesOn_43, ↓r_X9_goesOn_44, ↓r_X9_goesOn_45, ↓r_X9_goesOn_46, ↓r_X9_goesOn_47, ↓r_X9_goesOn_49, ↓r_X9_goesOn_50, ↓r_X9_goesOn_52, ↓r_X9_goesOn_53, ↓r_X9_goesOn_56, ↓r_X9_goesOn_58, ↓r_X9_goesOn_59, ↓r_X9_goesOn_62, ↓r_X9_goesOn_63, ↓r_X9_goesOn_65, ↓r_X9_goesOn_66, ↓r_X9_goesOn_67, ↓r_X9_goesOn_70, ↓r_X9_goesOn_71, ↓r_X9_goesOn_72, ↓r_X9_goesOn_73, ↓r_X9_goesOn_74, ↓r_X9_goesOn_77, ↓r_X9_goesOn_78, ↓r_X9_goesOn_79, ↓r_X9_goesOn_82, ↓r_X9_goesOn_83, ↓r_X9_goesOn_86, ↓r_X9_goesOn_88, ↓r_X9_goesOn_89, ↓r_X9_goesOn_90, ↓r_X9_goesOn_92, ↓r_X9_goesOn_93, ↓r_X9_goesOn_94, ↓r_X9_goesOn_95, ↓r_X9_goesOn_98, ↓r_X9_goesOn_99, ↓r_X9_goesOn_100, ↓r_X9_goesOn_101, ↓r_X9_goesOn_102, ↓r_X9_goesOn_103, ↓r_X9_goesOn_104, ↓r_X9_goesOn_105, ↓x2_0, ↓f9_25, ↓x1_1, ↓x0, ↓x32_1, ↓x33, ↓x1_2, ↓v9_3, ↓x4_3n, ↓x4_3i, ↓x4_3r, ↓x1_3, ↓v9_2, ↓x48_1, ↓f9_4, ↓x10, ↓x8, ↓x4_4n, ↓x4_4i, ↓x4_4r, ↓x1_4, ↓x4_5n, ↓x4_5i, ↓x4_5r, ↓f9_22, ↓f9_23, ↓f9_24, ↓f9_12, ↓f9_3, ↓x1_5, ↓x29, ↓l_249, ↓s_249, ↓l_250, ↓s_250, ↓l_251, ↓s_251, ↓l_252, ↓s_252, ↓l_253, ↓s_253, ↓l_254, ↓s_254, ↓l_255, ↓s_255, ↓l_256, ↓s_256, ↓l_257, ↓s_257, ↓l_258, ↓s_258, ↓l_259, ↓s_259, ↓l_260, ↓s_260, ↓l_261, ↓s_261, ↓l_262, ↓s_262, ↓l_263, ↓s_263, ↓l_264, ↓s_264, ↓l_265, ↓s_265, ↓l_266, ↓s_266, ↓l_267, ↓s_267, ↓l_268, ↓s_268, ↓l_269, ↓s_269, ↓l_270, ↓s_270, ↓l_271, ↓s_271, ↓l_272, ↓s_272, ↓l_273, ↓s_273, ↓l_274, ↓s_274, and_self, and_true, true_and, implies_true, true_implies, Int.reduceEq, Int.reduceLE, Int.reduceLT, not_true_eq_false, not_false_eq_true, false_implies, RTf_eq]
    refine ⟨fun f => absurd c0 f, fun _ => ?_⟩
    refine ck_v cL (by omega) (by simp) ?_
    simp +contextual (disch := first | omega | exact Nat.le_of_ble_eq_true rfl | assumption) only [↓r_X9_goesOn_0, ↓r_X9_goesOn_1, ↓r_X9_goesOn_4, ↓r_X9_goesOn_5, ↓r_X9_goesOn_6, ↓r_X9_goesOn_8, ↓r_X9_goesOn_11, ↓r_X9_goesOn_13, ↓r_X9_goesOn_16, ↓r_X9_goesOn_17, ↓r_X9_goesOn_18, ↓r_X9_goesOn_19, ↓r_X9_goesOn_22, ↓r_X9_goesOn_23, ↓r_X9_goesOn_24, ↓r_X9_goesOn_26, ↓r_X9_goesOn_29, ↓r_X9_goesOn_30, ↓r_X9_goesOn_31, ↓r_X9_goesOn_34, ↓r_X9_goesOn_35, ↓r_X9_goesOn_36, ↓r_X9_goesOn_37, ↓r_X9_goesOn_40, ↓r_X9_goesOn_42, ↓r_X9_goesOn_43, ↓r_X9_goesOn_44, ↓r_X9_goesOn_45, ↓r_X9_goesOn_46, ↓r_X9_goesOn_47, ↓r_X9_goesOn_49, ↓r_X9_goesOn_50, ↓r_X9_goesOn_52, ↓r_X9_goesOn_53, ↓r_X9_goesOn_56, ↓r_X9_goesOn_58, ↓r_X9_goesOn_59, ↓r_X9_goesOn_62, ↓r_X9_goesOn_63, ↓r_X9_goesOn_65, ↓r_X9_goesOn_66, ↓r_X9_goesOn_67, ↓r_X9_goesOn_70, ↓r_X9_goesOn_71, ↓r_X9_goesOn_72, ↓r_X9_goesOn_73, ↓r_X9_goesOn_74, ↓r_X9_goesOn_77, ↓r_X9_goesOn_78, ↓r_X9_goesOn_79, ↓r_X9_goesOn_82, ↓r_X9_goesOn_83, ↓r_X9_goesOn_86, ↓r_X9_goesOn_88, ↓r_X9_goesOn_89, ↓r_X9_goesOn_90, ↓r_X9_goesOn_92, ↓r_X9_goesOn_93, ↓r_X9_goesOn_94, ↓r_X9_goesOn_95, ↓r_X9_goesOn_98, ↓r_X9_goesOn_99, ↓r_X9_goesOn_100, ↓r_X9_goesOn_101, ↓r_X9_goesOn_102, ↓r_X9_goesOn_103, ↓r_X9_goesOn_104, ↓r_X9_goesOn_105, ↓x2_0, ↓f9_25, ↓x1_1, ↓x0, ↓x32_1, ↓x33, ↓x1_2, ↓v9_3, ↓x4_3n, ↓x4_3i, ↓x4_3r, ↓x1_3, ↓v9_2, ↓x48_1, ↓f9_4, ↓x10, ↓x8, ↓x4_4n, ↓x4_4i, ↓x4_4r, ↓x1_4, ↓x4_5n, ↓x4_5i, ↓x4_5r, ↓f9_22, ↓f9_23, ↓f9_24, ↓f9_12, ↓f9_3, ↓x1_5, ↓x29, ↓l_249, ↓s_249, ↓l_250, ↓s_250, ↓l_251, ↓s_251, ↓l_252, ↓s_252, ↓l_253, ↓s_253, ↓l_254, ↓s_254, ↓l_255, ↓s_255, ↓l_256, ↓s_256, ↓l_257, ↓s_257, ↓l_258, ↓s_258, ↓l_259, ↓s_259, ↓l_260, ↓s_260, ↓l_261, ↓s_261, ↓l_262, ↓s_262, ↓l_263, ↓s_263, ↓l_264, ↓s_264, ↓l_265, ↓s_265, ↓l_266, ↓s_266, ↓l_267, ↓s_267, ↓l_268, ↓s_268, ↓l_269, ↓s_269, ↓l_270, ↓s_270, ↓l_271, ↓s_271, ↓l_272, ↓s_272, ↓l_273, ↓s_273, ↓l_274, ↓s_274, and_self, and_true, true_and, implies_true, true_implies, Int.reduceEq, Int.reduceLE, Int.reduceLT, not_true_eq_false, not_false_eq_true, false_implies, RTf_eq]
    rw [eG, hA']
    simp
  · rw [if_neg c0] at ek ep
    rw [← ek, ← ep] at cP
    have f0 := fun N => fin g lm N
    simp +contextual (disch := first | omega | exact Nat.le_of_ble_eq_true rfl | assumption) only [↓r_X9_goesOn_0, ↓r_X9_goesOn_1, ↓r_X9_goesOn_4, ↓r_X9_goesOn_5, ↓r_X9_goesOn_6, ↓r_X9_goesOn_8, ↓r_X9_goesOn_11, ↓r_X9_goesOn_13, ↓r_X9_goesOn_16, ↓r_X9_goesOn_17, ↓r_X9_goesOn_18, ↓r_X9_goesOn_19, ↓r_X9_goesOn_22, ↓r_X9_goesOn_23, ↓r_X9_goesOn_24, ↓r_X9_goesOn_26, ↓r_X9_goesOn_29, ↓r_X9_goesOn_30, ↓r_X9_goesOn_31, ↓r_X9_goesOn_34, ↓r_X9_goesOn_35, ↓r_X9_goesOn_36, ↓r_X9_goesOn_37, ↓r_X9_goesOn_40, ↓r_X9_goesOn_42, ↓r_X9_goesOn_43, ↓r_X9_goesOn_44, ↓r_X9_goesOn_45, ↓r_X9_goesOn_46, ↓r_X9_goesOn_47, ↓r_X9_goesOn_49, ↓r_X9_goesOn_50, ↓r_X9_goesOn_52, ↓r_X9_goesOn_53, ↓r_X9_goesOn_56, ↓r_X9_goesOn_58, ↓r_X9_goesOn_59, ↓r_X9_goesOn_62, ↓r_X9_goesOn_63, ↓r_X9_goesOn_65, ↓r_X9_goesOn_66, ↓r_X9_goesOn_67, ↓r_X9_goesOn_70, ↓r_X9_goesOn_71, ↓r_X9_goesOn_72, ↓r_X9_goesOn_73, ↓r_X9_goesOn_74, ↓r_X9_goesOn_77, ↓r_X9_goesOn_78, ↓r_X9_goesOn_79, ↓r_X9_goesOn_82, ↓r_X9_goesOn_83, ↓r_X9_goesOn_86, ↓r_X9_goesOn_88, ↓r_X9_goesOn_89, ↓r_X9_goesOn_90, ↓r_X9_goesOn_92, ↓r_X9_goesOn_93, ↓r_X9_goesOn_94, ↓r_X9_goesOn_95, ↓r_X9_goesOn_98, ↓r_X9_goesOn_99, ↓r_X9_goesOn_100, ↓r_X9_goesOn_101, ↓r_X9_goesOn_102, ↓r_X9_goesOn_103, ↓r_X9_goesOn_104, ↓r_X9_goesOn_105, ↓x2_0, ↓f9_25, ↓x1_1, ↓x0, ↓x32_1, ↓x33, ↓x1_2, ↓v9_3, ↓x4_3n, ↓x4_3i, ↓x4_3r, ↓x1_3, ↓v9_2, ↓x48_1, ↓f9_4, ↓x10, ↓x8, ↓x4_4n, ↓x4_4i, ↓x4_4r, ↓x1_4, ↓x4_5n, ↓x4_5i, ↓x4_5r, ↓f9_22, ↓f9_23, ↓f9_24, ↓f9_12, ↓f9_3, ↓x1_5, ↓x29, ↓l_249, ↓s_249, ↓l_250, ↓s_250, ↓l_251, ↓s_251, ↓l_252, ↓s_252, ↓l_253, ↓s_253, ↓l_254, ↓s_254, ↓l_255, ↓s_255, ↓l_256, ↓s_256, ↓l_257, ↓s_257, ↓l_258, ↓s_258, ↓l_259, ↓s_259, ↓l_260, ↓s_260, ↓l_261, ↓s_261, ↓l_262, ↓s_262, ↓l_263, ↓s_263, ↓l_264, ↓s_264, ↓l_265, ↓s_265, ↓l_266, ↓s_266, ↓l_267, ↓s_267, ↓l_268, ↓s_268, ↓l_269, ↓s_269, ↓l_270, ↓s_270, ↓l_271, ↓s_271, ↓l_272, ↓s_272, ↓l_273, ↓s_273, ↓l_274, ↓s_274, and_self, and_true, true_and, implies_true, true_implies, Int.reduceEq, Int.reduceLE, Int.reduceLT, not_true_eq_false, not_false_eq_true, false_implies, RTf_eq]
    refine ⟨fun _ => ?_, fun f => absurd c0 f⟩
    refine ck_r cP (by omega) (by simp) ?_
    exact fin g lm 290
end
