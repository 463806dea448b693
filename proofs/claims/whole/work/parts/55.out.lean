/-! ===== coming out ===== -/
def coQ (M : Mem) (w : Int) : Int := fi (fun j => decide (M (210 + 3 * w) j = M (209 + 3 * w) 9)) 0 (M (209 + 3 * w) 2).toNat
def coA (M : Mem) (w : Int) : Mem := rmX (up2 M (209 + 3 * w) 8 (-9)) w (M (209 + 3 * w) 9) (M 0 10) (coQ M w)
def coT (M : Mem) (w : Int) : Mem := up2 (up2 (coA M w) (209 + 3 * w) 4 1) (209 + 3 * w) 12 (coA M w (209 + 3 * w) 2 - 1)
def coM (M : Mem) (w : Int) : Mem := if M (209 + 3 * w) 9 = M (209 + 3 * w) 7 then sbM (coT M w) w else goM (coA M w) w (M (209 + 3 * w) 9)
def coR (M : Mem) (w : Int) : Int := fi (fun j => decide (M 268 (8 * w + j) = M 264 w)) 0 (M 267 w).toNat
def coB (M : Mem) (w : Int) : Mem := rmY (up2 M 263 w (-9)) w (M 264 w) (coR M w)
def coU (M : Mem) (w : Int) : Mem := up2 (up2 (coB M w) 262 w 1) 270 w (coB M w 267 w - 1)
def coN (M : Mem) (w : Int) : Mem := if M 264 w = M 261 w then sbN (coU M w) w else goN (coB M w) w (M 264 w)
section
variable {E : ET} {S : SCR} {M : Mem}
theorem coA_ot {w c z : Int} (hw : 0 ≤ w ∧ w < 12) (h : ¬ (209 + 3 * w ≤ c ∧ c ≤ 211 + 3 * w) ∨ (c = 209 + 3 * w ∧ ¬ z = 8 ∧ ¬ z = 2)) : coA M w c z = M c z := by
  unfold coA rmX
  split
  · split
    · rw [up2_other (by omega), up2_other (by omega), up2_other (by omega), up2_other (by omega)]
    · rw [up2_other (by omega)]
  · rw [up2_other (by omega), up2_other (by omega)]
theorem coA_8 {w : Int} : coA M w (209 + 3 * w) 8 = -9 := by
  unfold coA rmX
  split
  · split
    · rw [up2_other (by omega), up2_other (by omega), up2_other (by omega), up2_same]
    · rw [up2_same]
  · rw [up2_other (by omega), up2_same]
theorem coQ_rng {w : Int} : coQ M w = -9 ∨ (0 ≤ coQ M w ∧ coQ M w < (M (209 + 3 * w) 2).toNat ∧ M (210 + 3 * w) (coQ M w) = M (209 + 3 * w) 9) := by
  have := fi_rng (p := fun j => decide (M (210 + 3 * w) j = M (209 + 3 * w) 9)) (M (209 + 3 * w) 2).toNat 0 (by omega)
  rcases this with q | q
  · exact Or.inl q
  · exact Or.inr ⟨q.1, by have := q.2.1; unfold coQ; omega, of_decide_eq_true q.2.2⟩
theorem coA_n {w : Int} (hn : 0 ≤ M (209 + 3 * w) 2 ∧ M (209 + 3 * w) 2 ≤ 8) : coA M w (209 + 3 * w) 2 = (if coQ M w = -9 then min (M (209 + 3 * w) 2 + 1) 8 else coQ M w + 1) := by
  have e : up2 M (209 + 3 * w) 8 (-9) (209 + 3 * w) 2 = M (209 + 3 * w) 2 := up2_other (by omega)
  unfold coA rmX
  rw [e]
  by_cases c : coQ M w = -9
  · rw [if_pos c, if_pos c]
    by_cases c2 : M (209 + 3 * w) 2 < 8
    · rw [if_pos c2, up2_same]; omega
    · rw [if_neg c2, e]; omega
  · rw [if_neg c, if_neg c, up2_same]
theorem coA_v {w j : Int} (hj : ¬ (coQ M w = -9 ∧ j = M (209 + 3 * w) 2)) : coA M w (210 + 3 * w) j = M (210 + 3 * w) j ∧ coA M w (211 + 3 * w) j = M (211 + 3 * w) j := by
  have e : up2 M (209 + 3 * w) 8 (-9) (209 + 3 * w) 2 = M (209 + 3 * w) 2 := up2_other (by omega)
  unfold coA rmX
  rw [e]
  split
  · split
    · exact ⟨by rw [up2_other (by omega), up2_other (by omega), up2_other (by omega), up2_other (by omega)], by rw [up2_other (by omega), up2_other (by omega), up2_other (by omega), up2_other (by omega)]⟩
    · exact ⟨by rw [up2_other (by omega)], by rw [up2_other (by omega)]⟩
  · exact ⟨by rw [up2_other (by omega), up2_other (by omega)], by rw [up2_other (by omega), up2_other (by omega)]⟩
theorem coA_new {w : Int} (hq : coQ M w = -9) (hn : M (209 + 3 * w) 2 < 8) : coA M w (210 + 3 * w) (M (209 + 3 * w) 2) = M (209 + 3 * w) 9 ∧ coA M w (211 + 3 * w) (M (209 + 3 * w) 2) = M 0 10 := by
  have e : up2 M (209 + 3 * w) 8 (-9) (209 + 3 * w) 2 = M (209 + 3 * w) 2 := up2_other (by omega)
  unfold coA rmX
  rw [e, if_pos hq, if_pos hn]
  exact ⟨by rw [up2_other (by omega), up2_other (by omega), up2_same], by rw [up2_other (by omega), up2_same]⟩
theorem CW_coA {w : Int} (hW : CW M) (hw : 0 ≤ w ∧ w < 12) (hto : 0 ≤ M (209 + 3 * w) 9 ∧ M (209 + 3 * w) 9 ≤ 7) : CW (coA M w) := by
  have hW' := hW
  obtain ⟨h3, h4, h8, hd, hlo, hhi, hN, hS, hn, hv, hkd, ha⟩ := hW'
  have n2 := hn w hw.1 hw.2
  refine CW_of (w := w) hW (fun c z h1 h2 => coA_ot hw (Or.inl h1)) ?_ ?_ ?_ ?_ ?_ ?_ ?_ hw
  · rw [coA_ot hw (by omega)]; exact h3 w hw.1 hw.2
  · rw [coA_ot hw (by omega)]; exact h4 w hw.1 hw.2
  · rw [coA_8]; exact ⟨by omega, by omega⟩
  · rw [coA_n n2]
    have := coQ_rng (M := M) (w := w)
    split <;> omega
  · intro j a b
    by_cases c : coQ M w = -9 ∧ j = M (209 + 3 * w) 2
    · rw [c.2, (coA_new c.1 (by omega)).1]; exact hto
    · rw [(coA_v c).1]; exact hv w j hw.1 hw.2 a b
  · rw [coA_ot hw (by omega)]; exact hkd w hw.1 hw.2
  · rw [coA_ot hw (by omega)]; exact ha w hw.1 hw.2
theorem CW_coT {w : Int} (hW : CW M) (hw : 0 ≤ w ∧ w < 12) (hto : 0 ≤ M (209 + 3 * w) 9 ∧ M (209 + 3 * w) 9 ≤ 7) : CW (coT M w) := by
  have hA := CW_coA hW hw hto
  have hA' := hA
  obtain ⟨h3, h4, h8, hd, hlo, hhi, hN, hS, hn, hv, hkd, ha⟩ := hA'
  have e : ∀ c z, ¬ (c = 209 + 3 * w ∧ (z = 4 ∨ z = 12)) → coT M w c z = coA M w c z := fun c z h => by
    unfold coT; rw [up2_other (by omega), up2_other (by omega)]
  refine CW_of (w := w) hA (fun c z h1 h2 => e c z (by omega)) ?_ ?_ ?_ ?_ ?_ ?_ ?_ hw
  · rw [e _ _ (by omega)]; exact h3 w hw.1 hw.2
  · unfold coT; rw [up2_other (by omega), up2_same]; exact Or.inr rfl
  · rw [e _ _ (by omega)]; exact h8 w hw.1 hw.2
  · rw [e _ _ (by omega)]; exact hn w hw.1 hw.2
  · intro j a b; rw [e _ _ (by omega)]; exact hv w j hw.1 hw.2 a b
  · rw [e _ _ (by omega)]; exact hkd w hw.1 hw.2
  · rw [e _ _ (by omega)]; exact ha w hw.1 hw.2
theorem c_comeOut {w : Int} (hW : CW M) (hw : 0 ≤ w ∧ w < 12) (hto : 0 ≤ M (209 + 3 * w) 9 ∧ M (209 + 3 * w) 9 ≤ 7) (hb : rg (M (209 + 3 * w) 11)) (ht : M (209 + 3 * w) 9 = M (209 + 3 * w) 7 → 2 ≤ coA M w (209 + 3 * w) 2) : Ctr E 6 79 [vr 0, vr (209 + 3 * w)] (toAH S M) none (toAH S (coM M w)) := by
  have hA := CW_coA hW hw hto
  have hT := CW_coT hW hw hto
  have hW' := hW
  obtain ⟨h3, h4, h8, hd, hlo, hhi, hN, hS, hn, hv, hkd, ha⟩ := hW'
  have n2 := hn w hw.1 hw.2
  have aw := ha w hw.1 hw.2
  have eF : up2 M (209 + 3 * w) 8 (-9) (210 + 3 * w) = M (210 + 3 * w) := by funext j; exact up2_other (by omega)
  have e2 : up2 M (209 + 3 * w) 8 (-9) (209 + 3 * w) 2 = M (209 + 3 * w) 2 := up2_other (by omega)
  have e9 : up2 M (209 + 3 * w) 8 (-9) (209 + 3 * w) 9 = M (209 + 3 * w) 9 := up2_other (by omega)
  have e0 : up2 M (209 + 3 * w) 8 (-9) 0 10 = M 0 10 := up2_other (by omega)
  have cR := c_remember (E := E) (S := S) (M := up2 M (209 + 3 * w) 8 (-9)) (w := w) (nd := M (209 + 3 * w) 9) (t := M 0 10) (n := (M (209 + 3 * w) 2).toNat) hw (by rw [e2]; omega) (by omega) ⟨by omega, by omega⟩ (fun k a b => by rw [eF]; have := hv w k hw.1 hw.2 a b; exact ⟨by omega, by omega⟩)
  rw [eF] at cR
  rw [show rmX (up2 M (209 + 3 * w) 8 (-9)) w (M (209 + 3 * w) 9) (M 0 10) (fi (fun j => decide (M (210 + 3 * w) j = M (209 + 3 * w) 9)) 0 (M (209 + 3 * w) 2).toNat) = coA M w from rfl] at cR
  have cT := c_turn (E := E) (S := S) (M := coA M w) hw
  rw [show up2 (up2 (coA M w) (209 + 3 * w) 4 1) (209 + 3 * w) 12 (coA M w (209 + 3 * w) 2 - 1) = coT M w from rfl] at cT
  have a9 : coA M w (209 + 3 * w) 9 = M (209 + 3 * w) 9 := coA_ot hw (by omega)
  have a7 : coA M w (209 + 3 * w) 7 = M (209 + 3 * w) 7 := coA_ot hw (by omega)
  have a11 : coA M w (209 + 3 * w) 11 = M (209 + 3 * w) 11 := coA_ot hw (by omega)
  have cG := c_goOn (E := E) (S := S) (M := coA M w) (w := w) (i := M (209 + 3 * w) 9) hA hw (by omega) (by rw [a11]; exact hb)
  have p12 : coT M w (209 + 3 * w) 12 = coA M w (209 + 3 * w) 2 - 1 := by unfold coT; rw [up2_same]
  have nA := coA_n n2
  have qr := coQ_rng (M := M) (w := w)
  have nA8 : coA M w (209 + 3 * w) 2 ≤ 8 := by rw [nA]; split <;> omega
  have eC : coM M w = if M (209 + 3 * w) 9 = M (209 + 3 * w) 7 then sbM (coT M w) w else goM (coA M w) w (M (209 + 3 * w) 9) := rfl
  obtain ⟨Z, hZ⟩ : ∃ Z, Z = coM M w := ⟨_, rfl⟩
  rw [← hZ] at eC ⊢
  refine Ctr_f mi_X8_comeOut mo_X8_comeOut (Nat.le_of_ble_eq_true rfl) ⟨Nat.le_refl _, Nat.le_refl _⟩ (fun g lm => ?_)
  rw [show entL mi_X8_comeOut.2.2.1 [vr 0, vr (209 + 3 * w)] = [some (vr 0), some (vr (209 + 3 * w))] from rfl]
  refine e_X8_comeOut 400 (lfok E (by omega)) ?_
  simp +contextual (disch := first | omega | exact Nat.le_of_ble_eq_true rfl | assumption) only [↓r_X8_comeOut_0, ↓r_X8_comeOut_1, ↓r_X8_comeOut_3, ↓r_X8_comeOut_6, ↓r_X8_comeOut_7, ↓r_X8_comeOut_8, ↓r_X8_comeOut_11, ↓r_X8_comeOut_12, ↓r_X8_comeOut_15, ↓r_X8_comeOut_18, ↓r_X8_comeOut_19, ↓r_X8_comeOut_22, ↓r_X8_comeOut_23, ↓r_X8_comeOut_26, ↓r_X8_comeOut_29, ↓r_X8_comeOut_30, ↓r_X8_comeOut_33, ↓r_X8_comeOut_34, ↓r_X8_comeOut_35, ↓r_X8_comeOut_38, ↓r_X8_comeOut_41, ↓r_X8_comeOut_42, ↓r_X8_comeOut_43, ↓r_X8_comeOut_44, ↓r_X8_comeOut_47, ↓r_X8_comeOut_50, ↓x2_1, ↓x0, ↓p7_8, ↓f7_9, ↓x2_0, ↓f8_10, ↓v7_3, ↓f7_7, ↓x32_1, ↓v7_1, ↓v8_2, ↓x33, ↓v8_3, ↓x48_4, and_self, and_true, true_and, implies_true, true_implies, Int.reduceEq, Int.reduceLE, Int.reduceLT, not_true_eq_false, not_false_eq_true, false_implies, RTf_eq, e9, e0]
  refine ck_v cR (by omega) (by simp) ?_
  by_cases c : M (209 + 3 * w) 9 = M (209 + 3 * w) 7
  · rw [if_pos c] at eC
    have cS := c_stepBack (E := E) (S := S) (M := coT M w) hT hw (by rw [p12]; have := ht c; omega)
    simp +contextual (disch := first | omega | exact Nat.le_of_ble_eq_true rfl | assumption) only [↓r_X8_comeOut_0, ↓r_X8_comeOut_1, ↓r_X8_comeOut_3, ↓r_X8_comeOut_6, ↓r_X8_comeOut_7, ↓r_X8_comeOut_8, ↓r_X8_comeOut_11, ↓r_X8_comeOut_12, ↓r_X8_comeOut_15, ↓r_X8_comeOut_18, ↓r_X8_comeOut_19, ↓r_X8_comeOut_22, ↓r_X8_comeOut_23, ↓r_X8_comeOut_26, ↓r_X8_comeOut_29, ↓r_X8_comeOut_30, ↓r_X8_comeOut_33, ↓r_X8_comeOut_34, ↓r_X8_comeOut_35, ↓r_X8_comeOut_38, ↓r_X8_comeOut_41, ↓r_X8_comeOut_42, ↓r_X8_comeOut_43, ↓r_X8_comeOut_44, ↓r_X8_comeOut_47, ↓r_X8_comeOut_50, ↓x2_1, ↓x0, ↓p7_8, ↓f7_9, ↓x2_0, ↓f8_10, ↓v7_3, ↓f7_7, ↓x32_1, ↓v7_1, ↓v8_2, ↓x33, ↓v8_3, ↓x48_4, and_self, and_true, true_and, implies_true, true_implies, Int.reduceEq, Int.reduceLE, Int.reduceLT, not_true_eq_false, not_false_eq_true, false_implies, RTf_eq, a9, a7]
    refine ⟨fun f => absurd c f, fun _ => ?_⟩
    refine ck_v cT (by omega) (by simp) ?_
    simp +contextual (disch := first | omega | exact Nat.le_of_ble_eq_true rfl | assumption) only [↓r_X8_comeOut_0, ↓r_X8_comeOut_1, ↓r_X8_comeOut_3, ↓r_X8_comeOut_6, ↓r_X8_comeOut_7, ↓r_X8_comeOut_8, ↓r_X8_comeOut_11, ↓r_X8_comeOut_12, ↓r_X8_comeOut_15, ↓r_X8_comeOut_18, ↓r_X8_comeOut_19, ↓r_X8_comeOut_22, ↓r_X8_comeOut_23, ↓r_X8_comeOut_26, ↓r_X8_comeOut_29, ↓r_X8_comeOut_30, ↓r_X8_comeOut_33, ↓r_X8_comeOut_34, ↓r_X8_comeOut_35, ↓r_X8_comeOut_38, ↓r_X8_comeOut_41, ↓r_X8_comeOut_42, ↓r_X8_comeOut_43, ↓r_X8_comeOut_44, ↓r_X8_comeOut_47, ↓r_X8_comeOut_50, ↓x2_1, ↓x0, ↓p7_8, ↓f7_9, ↓x2_0, ↓f8_10, ↓v7_3, ↓f7_7, ↓x32_1, ↓v7_1, ↓v8_2, ↓x33, ↓v8_3, ↓x48_4, and_self, and_true, true_and, implies_true, true_implies, Int.reduceEq, Int.reduceLE, Int.reduceLT, not_true_eq_false, not_false_eq_true, false_implies, RTf_eq]
    refine ck_v cS (by omega) (by simp) ?_
    simp +contextual (disch := first | omega | exact Nat.le_of_ble_eq_true rfl | assumption) only [↓r_X8_comeOut_0, ↓r_X8_comeOut_1, ↓r_X8_comeOut_3, ↓r_X8_comeOut_6, ↓r_X8_comeOut_7, ↓r_X8_comeOut_8, ↓r_X8_comeOut_11, ↓r_X8_comeOut_12, ↓r_X8_comeOut_15, ↓r_X8_comeOut_18, ↓r_X8_comeOut_19, ↓r_X8_comeOut_22, ↓r_X8_comeOut_23, ↓r_X8_comeOut_26, ↓r_X8_comeOut_29, ↓r_X8_comeOut_30, ↓r_X8_comeOut_33, ↓r_X8_comeOut_34, ↓r_X8_comeOut_35, ↓r_X8_comeOut_38, ↓r_X8_comeOut_41, ↓r_X8_comeOut_42, ↓r_X8_comeOut_43, ↓r_X8_comeOut_44, ↓r_X8_comeOut_47, ↓r_X8_comeOut_50, ↓x2_1, ↓x0, ↓p7_8, ↓f7_9, ↓x2_0, ↓f8_10, ↓v7_3, ↓f7_7, ↓x32_1, ↓v7_1, ↓v8_2, ↓x33, ↓v8_3, ↓x48_4, and_self, and_true, true_and, implies_true, true_implies, Int.reduceEq, Int.reduceLE, Int.reduceLT, not_true_eq_false, not_false_eq_true, false_implies, RTf_eq]
    rw [eC]
  · rw [if_neg c] at eC
    simp +contextual (disch := first | omega | exact Nat.le_of_ble_eq_true rfl | assumption) only [↓r_X8_comeOut_0, ↓r_X8_comeOut_1, ↓r_X8_comeOut_3, ↓r_X8_comeOut_6, ↓r_X8_comeOut_7, ↓r_X8_comeOut_8, ↓r_X8_comeOut_11, ↓r_X8_comeOut_12, ↓r_X8_comeOut_15, ↓r_X8_comeOut_18, ↓r_X8_comeOut_19, ↓r_X8_comeOut_22, ↓r_X8_comeOut_23, ↓r_X8_comeOut_26, ↓r_X8_comeOut_29, ↓r_X8_comeOut_30, ↓r_X8_comeOut_33, ↓r_X8_comeOut_34, ↓r_X8_comeOut_35, ↓r_X8_comeOut_38, ↓r_X8_comeOut_41, ↓r_X8_comeOut_42, ↓r_X8_comeOut_43, ↓r_X8_comeOut_44, ↓r_X8_comeOut_47, ↓r_X8_comeOut_50, ↓x2_1, ↓x0, ↓p7_8, ↓f7_9, ↓x2_0, ↓f8_10, ↓v7_3, ↓f7_7, ↓x32_1, ↓v7_1, ↓v8_2, ↓x33, ↓v8_3, ↓x48_4, and_self, and_true, true_and, implies_true, true_implies, Int.reduceEq, Int.reduceLE, Int.reduceLT, not_true_eq_false, not_false_eq_true, false_implies, RTf_eq, a9, a7]
    refine ⟨fun _ => ?_, fun f => absurd c f⟩
    refine ck_v cG (by omega) (by simp) ?_
    simp +contextual (disch := first | omega | exact Nat.le_of_ble_eq_true rfl | assumption) only [↓r_X8_comeOut_0, ↓r_X8_comeOut_1, ↓r_X8_comeOut_3, ↓r_X8_comeOut_6, ↓r_X8_comeOut_7, ↓r_X8_comeOut_8, ↓r_X8_comeOut_11, ↓r_X8_comeOut_12, ↓r_X8_comeOut_15, ↓r_X8_comeOut_18, ↓r_X8_comeOut_19, ↓r_X8_comeOut_22, ↓r_X8_comeOut_23, ↓r_X8_comeOut_26, ↓r_X8_comeOut_29, ↓r_X8_comeOut_30, ↓r_X8_comeOut_33, ↓r_X8_comeOut_34, ↓r_X8_comeOut_35, ↓r_X8_comeOut_38, ↓r_X8_comeOut_41, ↓r_X8_comeOut_42, ↓r_X8_comeOut_43, ↓r_X8_comeOut_44, ↓r_X8_comeOut_47, ↓r_X8_comeOut_50, ↓x2_1, ↓x0, ↓p7_8, ↓f7_9, ↓x2_0, ↓f8_10, ↓v7_3, ↓f7_7, ↓x32_1, ↓v7_1, ↓v8_2, ↓x33, ↓v8_3, ↓x48_4, and_self, and_true, true_and, implies_true, true_implies, Int.reduceEq, Int.reduceLE, Int.reduceLT, not_true_eq_false, not_false_eq_true, false_implies, RTf_eq]
    rw [eC]
theorem coB_ot {w c z : Int} (h : ¬ (z = w ∧ (c = 263 ∨ c = 267)) ∧ ¬ (c = 268 ∧ z = 8 * w + M 267 w) ∧ ¬ (c = 269 ∧ z = 8 * w + M 267 w)) : coB M w c z = M c z := by
  have e : up2 M 263 w (-9) 267 w = M 267 w := up2_other (by omega)
  unfold coB rmY
  rw [e]
  split
  · rw [up2_other (by omega), up2_other (by omega), up2_other (by omega), up2_other (by omega)]
  · rw [up2_other (by omega), up2_other (by omega)]
theorem coB_8 {w : Int} : coB M w 263 w = -9 := by
  unfold coB rmY
  split
  · rw [up2_other (by omega), up2_other (by omega), up2_other (by omega), up2_same]
  · rw [up2_other (by omega), up2_same]
theorem coR_rng {w : Int} : coR M w = -9 ∨ (0 ≤ coR M w ∧ coR M w < (M 267 w).toNat ∧ M 268 (8 * w + coR M w) = M 264 w) := by
  have := fi_rng (p := fun j => decide (M 268 (8 * w + j) = M 264 w)) (M 267 w).toNat 0 (by omega)
  rcases this with q | q
  · exact Or.inl q
  · exact Or.inr ⟨q.1, by have := q.2.1; unfold coR; omega, of_decide_eq_true q.2.2⟩
theorem coB_n {w : Int} : coB M w 267 w = (if coR M w = -9 then M 267 w + 1 else coR M w + 1) := by
  have e : up2 M 263 w (-9) 267 w = M 267 w := up2_other (by omega)
  unfold coB rmY
  rw [e]
  split
  · rw [up2_same]
  · rw [up2_same]
theorem coB_v {w c z : Int} (hc : c = 268 ∨ c = 269) (hj : ¬ (coR M w = -9 ∧ z = 8 * w + M 267 w)) : coB M w c z = M c z := by
  have e : up2 M 263 w (-9) 267 w = M 267 w := up2_other (by omega)
  unfold coB rmY
  rw [e]
  split
  · rw [up2_other (by omega), up2_other (by omega), up2_other (by omega), up2_other (by omega)]
  · rw [up2_other (by omega), up2_other (by omega)]
theorem coB_new {w : Int} (hq : coR M w = -9) : coB M w 268 (8 * w + M 267 w) = M 264 w ∧ coB M w 269 (8 * w + M 267 w) = M 248 12 := by
  have e : up2 M 263 w (-9) 267 w = M 267 w := up2_other (by omega)
  have e2 : up2 M 263 w (-9) 248 12 = M 248 12 := up2_other (by omega)
  unfold coB rmY
  rw [e, e2, if_pos hq]
  exact ⟨by rw [up2_other (by omega), up2_other (by omega), up2_same], by rw [up2_other (by omega), up2_same]⟩
theorem MW_coB {w : Int} (hW : MW M) (hw : 0 ≤ w ∧ w < 12) (hto : 0 ≤ M 264 w ∧ M 264 w ≤ 7) (hp : coR M w = -9 → M 267 w < 8) : MW (coB M w) := by
  have hW' := hW
  obtain ⟨h3, h4, h8, hL, hS, hn, hv, hkd, ha⟩ := hW'
  have n2 := hn w hw.1 hw.2
  have qr := coR_rng (M := M) (w := w)
  refine MW_of (w := w) hW (fun c z h1 h2 h3 h4 h5 => ?_) ?_ ?_ ?_ ?_ ?_ ?_ ?_ hw
  · by_cases q : c = 268
    · exact coB_v (Or.inl q) (fun f => by have := hp f.1; omega)
    · exact coB_ot (by omega)
  · rw [coB_ot (by omega)]; exact h3 w hw.1 hw.2
  · rw [coB_ot (by omega)]; exact h4 w hw.1 hw.2
  · rw [coB_8]; exact ⟨by omega, by omega⟩
  · rw [coB_n]
    split
    · rename_i q; have := hp q; omega
    · omega
  · intro j a b
    by_cases c : coR M w = -9 ∧ 8 * w + j = 8 * w + M 267 w
    · rw [c.2, (coB_new c.1).1]; exact hto
    · rw [coB_v (Or.inl rfl) c]; exact hv (8 * w + j) (by omega) (by omega)
  · rw [coB_ot (by omega)]; exact hkd w hw.1 hw.2
  · rw [coB_ot (by omega)]; exact ha w hw.1 hw.2
theorem MW_coU {w : Int} (hW : MW M) (hw : 0 ≤ w ∧ w < 12) (hto : 0 ≤ M 264 w ∧ M 264 w ≤ 7) (hp : coR M w = -9 → M 267 w < 8) : MW (coU M w) := by
  have hA := MW_coB hW hw hto hp
  have hA' := hA
  obtain ⟨h3, h4, h8, hL, hS, hn, hv, hkd, ha⟩ := hA'
  have e : ∀ c z, ¬ (z = w ∧ (c = 262 ∨ c = 270)) → coU M w c z = coB M w c z := fun c z h => by
    unfold coU; rw [up2_other (by omega), up2_other (by omega)]
  refine MW_of (w := w) hA (fun c z h1 h2 h3 h4 h5 => e c z (by omega)) ?_ ?_ ?_ ?_ ?_ ?_ ?_ hw
  · rw [e _ _ (by omega)]; exact h3 w hw.1 hw.2
  · unfold coU; rw [up2_other (by omega), up2_same]; exact Or.inr rfl
  · rw [e _ _ (by omega)]; exact h8 w hw.1 hw.2
  · rw [e _ _ (by omega)]; exact hn w hw.1 hw.2
  · intro j a b; rw [e _ _ (by omega)]; exact hv (8 * w + j) (by omega) (by omega)
  · rw [e _ _ (by omega)]; exact hkd w hw.1 hw.2
  · rw [e _ _ (by omega)]; exact ha w hw.1 hw.2
theorem c_comesOut {w : Int} (hW : MW M) (hw : 0 ≤ w ∧ w < 12) (hto : 0 ≤ M 264 w ∧ M 264 w ≤ 7) (hp : coR M w = -9 → M 267 w < 8) (hb : rg (M 266 w)) (ht : M 264 w = M 261 w → 2 ≤ coB M w 267 w) : Ctr E 6 132 [vr 248, vi w] (toAH S M) none (toAH S (coN M w)) := by
  have hA := MW_coB hW hw hto hp
  have hT := MW_coU hW hw hto hp
  have hW' := hW
  obtain ⟨h3, h4, h8, hL, hS, hn, hv, hkd, ha⟩ := hW'
  have n2 := hn w hw.1 hw.2
  have aw := ha w hw.1 hw.2
  have eF : ∀ j, up2 M 263 w (-9) 268 j = M 268 j := fun j => up2_other (by omega)
  have e2 : up2 M 263 w (-9) 267 w = M 267 w := up2_other (by omega)
  have cR := c_remembers (E := E) (S := S) (M := up2 M 263 w (-9)) (w := w) (nd := M 264 w) (n := (M 267 w).toNat) hw (by rw [e2]; omega) (by omega) ⟨by omega, by omega⟩ (fun k a b => by rw [eF]; have := hv (8 * w + k) (by omega) (by omega); exact ⟨by omega, by omega⟩) (fun q => by
    have := hp (by simp only [eF] at q; exact q)
    omega)
  simp only [eF] at cR
  rw [show rmY (up2 M 263 w (-9)) w (M 264 w) (fi (fun j => decide (M 268 (8 * w + j) = M 264 w)) 0 (M 267 w).toNat) = coB M w from rfl] at cR
  have a7 : coB M w 261 w = M 261 w := coB_ot (by omega)
  have a11 : coB M w 266 w = M 266 w := coB_ot (by omega)
  have cG := c_goesOn (E := E) (S := S) (M := coB M w) (w := w) (i := M 264 w) hA hw (by omega) (by rw [a11]; exact hb)
  have p12 : coU M w 270 w = coB M w 267 w - 1 := by unfold coU; rw [up2_same]
  have nA := coB_n (M := M) (w := w)
  have qr := coR_rng (M := M) (w := w)
  have nA8 : coB M w 267 w ≤ 8 := by
    rw [nA]; split
    · rename_i q; have := hp q; omega
    · omega
  have eC : coN M w = if M 264 w = M 261 w then sbN (coU M w) w else goN (coB M w) w (M 264 w) := rfl
  have e3 : up2 (coB M w) 262 w 1 267 w = coB M w 267 w := up2_other (by omega)
  have e4 : up2 (up2 (coB M w) 262 w 1) 270 w (coB M w 267 w - 1) = coU M w := rfl
  obtain ⟨Z, hZ⟩ : ∃ Z, Z = coN M w := ⟨_, rfl⟩
  rw [← hZ] at eC ⊢
  refine Ctr_f mi_X9_comesOut mo_X9_comesOut (Nat.le_of_ble_eq_true rfl) ⟨Nat.le_refl _, Nat.le_refl _⟩ (fun g lm => ?_)
  rw [show entL mi_X9_comesOut.2.2.1 [vr 248, vi w] = [some (vr 248), some (vi w), none] from rfl]
  refine e_X9_comesOut 400 (lfok E (by omega)) ?_
  simp +contextual (disch := first | omega | exact Nat.le_of_ble_eq_true rfl | assumption) only [↓r_X9_comesOut_0, ↓r_X9_comesOut_1, ↓r_X9_comesOut_4, ↓r_X9_comesOut_5, ↓r_X9_comesOut_6, ↓r_X9_comesOut_7, ↓r_X9_comesOut_8, ↓r_X9_comesOut_11, ↓r_X9_comesOut_12, ↓r_X9_comesOut_14, ↓r_X9_comesOut_15, ↓r_X9_comesOut_16, ↓r_X9_comesOut_17, ↓r_X9_comesOut_18, ↓r_X9_comesOut_21, ↓r_X9_comesOut_22, ↓r_X9_comesOut_23, ↓r_X9_comesOut_26, ↓r_X9_comesOut_27, ↓r_X9_comesOut_28, ↓r_X9_comesOut_31, ↓r_X9_comesOut_32, ↓r_X9_comesOut_33, ↓r_X9_comesOut_34, ↓r_X9_comesOut_37, ↓r_X9_comesOut_38, ↓r_X9_comesOut_39, ↓r_X9_comesOut_40, ↓r_X9_comesOut_43, ↓r_X9_comesOut_44, ↓r_X9_comesOut_45, ↓r_X9_comesOut_46, ↓r_X9_comesOut_47, ↓r_X9_comesOut_50, ↓r_X9_comesOut_51, ↓r_X9_comesOut_52, ↓r_X9_comesOut_55, ↓r_X9_comesOut_56, ↓r_X9_comesOut_57, ↓r_X9_comesOut_58, ↓r_X9_comesOut_59, ↓r_X9_comesOut_60, ↓r_X9_comesOut_61, ↓r_X9_comesOut_62, ↓r_X9_comesOut_65, ↓x2_0, ↓f9_23, ↓x1_1, ↓x4_2n, ↓x4_2i, ↓x4_2r, ↓f9_22, ↓x0, ↓x1_2, ↓v9_3, ↓f9_20, ↓x32_0, ↓x30, ↓x48_4, ↓f9_21, ↓f9_29, ↓f9_26, ↓x9, ↓v9_2, ↓l_249, ↓s_249, ↓l_250, ↓s_250, ↓l_251, ↓s_251, ↓l_252, ↓s_252, ↓l_253, ↓s_253, ↓l_254, ↓s_254, ↓l_255, ↓s_255, ↓l_256, ↓s_256, ↓l_257, ↓s_257, ↓l_258, ↓s_258, ↓l_259, ↓s_259, ↓l_260, ↓s_260, ↓l_261, ↓s_261, ↓l_262, ↓s_262, ↓l_263, ↓s_263, ↓l_264, ↓s_264, ↓l_265, ↓s_265, ↓l_266, ↓s_266, ↓l_267, ↓s_267, ↓l_268, ↓s_268, ↓l_269, ↓s_269, ↓l_270, ↓s_270, ↓l_271, ↓s_271, ↓l_272, ↓s_272, ↓l_273, ↓s_273, ↓l_274, ↓s_274, and_self, and_true, true_and, implies_true, true_implies, Int.reduceEq, Int.reduceLE, Int.reduceLT, not_true_eq_false, not_false_eq_true, false_implies, RTf_eq]
  refine ck_v cR (by omega) (by simp) ?_
  by_cases c : M 264 w = M 261 w
  · rw [if_pos c] at eC
    have cS := c_goesBack (E := E) (S := S) (M := coU M w) hT hw (by rw [p12]; have := ht c; omega)
    simp +contextual (disch := first | omega | exact Nat.le_of_ble_eq_true rfl | assumption) only [↓r_X9_comesOut_0, ↓r_X9_comesOut_1, ↓r_X9_comesOut_4, ↓r_X9_comesOut_5, ↓r_X9_comesOut_6, ↓r_X9_comesOut_7, ↓r_X9_comesOut_8, ↓r_X9_comesOut_11, ↓r_X9_comesOut_12, ↓r_X9_comesOut_14, ↓r_X9_comesOut_15, ↓r_X9_comesOut_16, ↓r_X9_comesOut_17, ↓r_X9_comesOut_18, ↓r_X9_comesOut_21, ↓r_X9_comesOut_22, ↓r_X9_comesOut_23, ↓r_X9_comesOut_26, ↓r_X9_comesOut_27, ↓r_X9_comesOut_28, ↓r_X9_comesOut_31, ↓r_X9_comesOut_32, ↓r_X9_comesOut_33, ↓r_X9_comesOut_34, ↓r_X9_comesOut_37, ↓r_X9_comesOut_38, ↓r_X9_comesOut_39, ↓r_X9_comesOut_40, ↓r_X9_comesOut_43, ↓r_X9_comesOut_44, ↓r_X9_comesOut_45, ↓r_X9_comesOut_46, ↓r_X9_comesOut_47, ↓r_X9_comesOut_50, ↓r_X9_comesOut_51, ↓r_X9_comesOut_52, ↓r_X9_comesOut_55, ↓r_X9_comesOut_56, ↓r_X9_comesOut_57, ↓r_X9_comesOut_58, ↓r_X9_comesOut_59, ↓r_X9_comesOut_60, ↓r_X9_comesOut_61, ↓r_X9_comesOut_62, ↓r_X9_comesOut_65, ↓x2_0, ↓f9_23, ↓x1_1, ↓x4_2n, ↓x4_2i, ↓x4_2r, ↓f9_22, ↓x0, ↓x1_2, ↓v9_3, ↓f9_20, ↓x32_0, ↓x30, ↓x48_4, ↓f9_21, ↓f9_29, ↓f9_26, ↓x9, ↓v9_2, ↓l_249, ↓s_249, ↓l_250, ↓s_250, ↓l_251, ↓s_251, ↓l_252, ↓s_252, ↓l_253, ↓s_253, ↓l_254, ↓s_254, ↓l_255, ↓s_255, ↓l_256, ↓s_256, ↓l_257, ↓s_257, ↓l_258, ↓s_258, ↓l_259, ↓s_259, ↓l_260, ↓s_260, ↓l_261, ↓s_261, ↓l_262, ↓s_262, ↓l_263, ↓s_263, ↓l_264, ↓s_264, ↓l_265, ↓s_265, ↓l_266, ↓s_266, ↓l_267, ↓s_267, ↓l_268, ↓s_268, ↓l_269, ↓s_269, ↓l_270, ↓s_270, ↓l_271, ↓s_271, ↓l_272, ↓s_272, ↓l_273, ↓s_273, ↓l_274, ↓s_274, and_self, and_true, true_and, implies_true, true_implies, Int.reduceEq, Int.reduceLE, Int.reduceLT, not_true_eq_false, not_false_eq_true, false_implies, RTf_eq, a7, e3, e4]
    refine ⟨fun _ => ?_, fun f => absurd c f⟩
    refine ck_v cS (by omega) (by simp) ?_
    simp +contextual (disch := first | omega | exact Nat.le_of_ble_eq_true rfl | assumption) only [↓r_X9_comesOut_0, ↓r_X9_comesOut_1, ↓r_X9_comesOut_4, ↓r_X9_comesOut_5, ↓r_X9_comesOut_6, ↓r_X9_comesOut_7, ↓r_X9_comesOut_8, ↓r_X9_comesOut_11, ↓r_X9_comesOut_12, ↓r_X9_comesOut_14, ↓r_X9_comesOut_15, ↓r_X9_comesOut_16, ↓r_X9_comesOut_17, ↓r_X9_comesOut_18, ↓r_X9_comesOut_21, ↓r_X9_comesOut_22, ↓r_X9_comesOut_23, ↓r_X9_comesOut_26, ↓r_X9_comesOut_27, ↓r_X9_comesOut_28, ↓r_X9_comesOut_31, ↓r_X9_comesOut_32, ↓r_X9_comesOut_33, ↓r_X9_comesOut_34, ↓r_X9_comesOut_37, ↓r_X9_comesOut_38, ↓r_X9_comesOut_39, ↓r_X9_comesOut_40, ↓r_X9_comesOut_43, ↓r_X9_comesOut_44, ↓r_X9_comesOut_45, ↓r_X9_comesOut_46, ↓r_X9_comesOut_47, ↓r_X9_comesOut_50, ↓r_X9_comesOut_51, ↓r_X9_comesOut_52, ↓r_X9_comesOut_55, ↓r_X9_comesOut_56, ↓r_X9_comesOut_57, ↓r_X9_comesOut_58, ↓r_X9_comesOut_59, ↓r_X9_comesOut_60, ↓r_X9_comesOut_61, ↓r_X9_comesOut_62, ↓r_X9_comesOut_65, ↓x2_0, ↓f9_23, ↓x1_1, ↓x4_2n, ↓x4_2i, ↓x4_2r, ↓f9_22, ↓x0, ↓x1_2, ↓v9_3, ↓f9_20, ↓x32_0, ↓x30, ↓x48_4, ↓f9_21, ↓f9_29, ↓f9_26, ↓x9, ↓v9_2, ↓l_249, ↓s_249, ↓l_250, ↓s_250, ↓l_251, ↓s_251, ↓l_252, ↓s_252, ↓l_253, ↓s_253, ↓l_254, ↓s_254, ↓l_255, ↓s_255, ↓l_256, ↓s_256, ↓l_257, ↓s_257, ↓l_258, ↓s_258, ↓l_259, ↓s_259, ↓l_260, ↓s_260, ↓l_261, ↓s_261, ↓l_262, ↓s_262, ↓l_263, ↓s_263, ↓l_264, ↓s_264, ↓l_265, ↓s_265, ↓l_266, ↓s_266, ↓l_267, ↓s_267, ↓l_268, ↓s_268, ↓l_269, ↓s_269, ↓l_270, ↓s_270, ↓l_271, ↓s_271, ↓l_272, ↓s_272, ↓l_273, ↓s_273, ↓l_274, ↓s_274, and_self, and_true, true_and, implies_true, true_implies, Int.reduceEq, Int.reduceLE, Int.reduceLT, not_true_eq_false, not_false_eq_true, false_implies, RTf_eq]
    rw [eC]
  · rw [if_neg c] at eC
    simp +contextual (disch := first | omega | exact Nat.le_of_ble_eq_true rfl | assumption) only [↓r_X9_comesOut_0, ↓r_X9_comesOut_1, ↓r_X9_comesOut_4, ↓r_X9_comesOut_5, ↓r_X9_comesOut_6, ↓r_X9_comesOut_7, ↓r_X9_comesOut_8, ↓r_X9_comesOut_11, ↓r_X9_comesOut_12, ↓r_X9_comesOut_14, ↓r_X9_comesOut_15, ↓r_X9_comesOut_16, ↓r_X9_comesOut_17, ↓r_X9_comesOut_18, ↓r_X9_comesOut_21, ↓r_X9_comesOut_22, ↓r_X9_comesOut_23, ↓r_X9_comesOut_26, ↓r_X9_comesOut_27, ↓r_X9_comesOut_28, ↓r_X9_comesOut_31, ↓r_X9_comesOut_32, ↓r_X9_comesOut_33, ↓r_X9_comesOut_34, ↓r_X9_comesOut_37, ↓r_X9_comesOut_38, ↓r_X9_comesOut_39, ↓r_X9_comesOut_40, ↓r_X9_comesOut_43, ↓r_X9_comesOut_44, ↓r_X9_comesOut_45, ↓r_X9_comesOut_46, ↓r_X9_comesOut_47, ↓r_X9_comesOut_50, ↓r_X9_comesOut_51, ↓r_X9_comesOut_52, ↓r_X9_comesOut_55, ↓r_X9_comesOut_56, ↓r_X9_comesOut_57, ↓r_X9_comesOut_58, ↓r_X9_comesOut_59, ↓r_X9_comesOut_60, ↓r_X9_comesOut_61, ↓r_X9_comesOut_62, ↓r_X9_comesOut_65, ↓x2_0, ↓f9_23, ↓x1_1, ↓x4_2n, ↓x4_2i, ↓x4_2r, ↓f9_22, ↓x0, ↓x1_2, ↓v9_3, ↓f9_20, ↓x32_0, ↓x30, ↓x48_4, ↓f9_21, ↓f9_29, ↓f9_26, ↓x9, ↓v9_2, ↓l_249, ↓s_249, ↓l_250, ↓s_250, ↓l_251, ↓s_251, ↓l_252, ↓s_252, ↓l_253, ↓s_253, ↓l_254, ↓s_254, ↓l_255, ↓s_255, ↓l_256, ↓s_256, ↓l_257, ↓s_257, ↓l_258, ↓s_258, ↓l_259, ↓s_259, ↓l_260, ↓s_260, ↓l_261, ↓s_261, ↓l_262, ↓s_262, ↓l_263, ↓s_263, ↓l_264, ↓s_264, ↓l_265, ↓s_265, ↓l_266, ↓s_266, ↓l_267, ↓s_267, ↓l_268, ↓s_268, ↓l_269, ↓s_269, ↓l_270, ↓s_270, ↓l_271, ↓s_271, ↓l_272, ↓s_272, ↓l_273, ↓s_273, ↓l_274, ↓s_274, and_self, and_true, true_and, implies_true, true_implies, Int.reduceEq, Int.reduceLE, Int.reduceLT, not_true_eq_false, not_false_eq_true, false_implies, RTf_eq, a7]
    refine ⟨fun f => absurd f c, fun _ => ?_⟩
    refine ck_r cG (by omega) (by simp) ?_
    simp +contextual (disch := first | omega | exact Nat.le_of_ble_eq_true rfl | assumption) only [↓r_X9_comesOut_0, ↓r_X9_comesOut_1, ↓r_X9_comesOut_4, ↓r_X9_comesOut_5, ↓r_X9_comesOut_6, ↓r_X9_comesOut_7, ↓r_X9_comesOut_8, ↓r_X9_comesOut_11, ↓r_X9_comesOut_12, ↓r_X9_comesOut_14, ↓r_X9_comesOut_15, ↓r_X9_comesOut_16, ↓r_X9_comesOut_17, ↓r_X9_comesOut_18, ↓r_X9_comesOut_21, ↓r_X9_comesOut_22, ↓r_X9_comesOut_23, ↓r_X9_comesOut_26, ↓r_X9_comesOut_27, ↓r_X9_comesOut_28, ↓r_X9_comesOut_31, ↓r_X9_comesOut_32, ↓r_X9_comesOut_33, ↓r_X9_comesOut_34, ↓r_X9_comesOut_37, ↓r_X9_comesOut_38, ↓r_X9_comesOut_39, ↓r_X9_comesOut_40, ↓r_X9_comesOut_43, ↓r_X9_comesOut_44, ↓r_X9_comesOut_45, ↓r_X9_comesOut_46, ↓r_X9_comesOut_47, ↓r_X9_comesOut_50, ↓r_X9_comesOut_51, ↓r_X9_comesOut_52, ↓r_X9_comesOut_55, ↓r_X9_comesOut_56, ↓r_X9_comesOut_57, ↓r_X9_comesOut_58, ↓r_X9_comesOut_59, ↓r_X9_comesOut_60, ↓r_X9_comesOut_61, ↓r_X9_comesOut_62, ↓r_X9_comesOut_65, ↓x2_0, ↓f9_23, ↓x1_1, ↓x4_2n, ↓x4_2i, ↓x4_2r, ↓f9_22, ↓x0, ↓x1_2, ↓v9_3, ↓f9_20, ↓x32_0, ↓x30, ↓x48_4, ↓f9_21, ↓f9_29, ↓f9_26, ↓x9, ↓v9_2, ↓l_249, ↓s_249, ↓l_250, ↓s_250, ↓l_251, ↓s_251, ↓l_252, ↓s_252, ↓l_253, ↓s_253, ↓l_254, ↓s_254, ↓l_255, ↓s_255, ↓l_256, ↓s_256, ↓l_257, ↓s_257, ↓l_258, ↓s_258, ↓l_259, ↓s_259, ↓l_260, ↓s_260, ↓l_261, ↓s_261, ↓l_262, ↓s_262, ↓l_263, ↓s_263, ↓l_264, ↓s_264, ↓l_265, ↓s_265, ↓l_266, ↓s_266, ↓l_267, ↓s_267, ↓l_268, ↓s_268, ↓l_269, ↓s_269, ↓l_270, ↓s_270, ↓l_271, ↓s_271, ↓l_272, ↓s_272, ↓l_273, ↓s_273, ↓l_274, ↓s_274, and_self, and_true, true_and, implies_true, true_implies, Int.reduceEq, Int.reduceLE, Int.reduceLT, not_true_eq_false, not_false_eq_true, false_implies, RTf_eq]
    rw [eC]
end
