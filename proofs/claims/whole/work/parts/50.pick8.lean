/-! ===== picking, in the class ===== -/
def CW (M : Mem) : Prop :=
  (∀ k, 0 ≤ k → k < 12 → M (209 + 3 * k) 3 = 0 ∨ M (209 + 3 * k) 3 = 1) ∧
  (∀ k, 0 ≤ k → k < 12 → M (209 + 3 * k) 4 = 0 ∨ M (209 + 3 * k) 4 = 1) ∧
  (∀ k, 0 ≤ k → k < 12 → rg (M (209 + 3 * k) 8)) ∧
  (∀ z, 0 ≤ z → z < 16 → 0 ≤ M 4 z ∧ M 4 z ≤ 60) ∧
  (∀ z, 0 ≤ z → z < 16 → 0 ≤ M 2 z ∧ M 2 z ≤ 7) ∧
  (∀ z, 0 ≤ z → z < 16 → 0 ≤ M 3 z ∧ M 3 z ≤ 7) ∧
  (∀ z, 0 ≤ z → z < 8 → 0 ≤ M 5 z ∧ M 5 z < 256) ∧
  (∀ r k, 0 ≤ r → r < 64 → 0 ≤ k → k < 8 → 0 ≤ M (18 + 3 * r) k ∧ M (18 + 3 * r) k ≤ 1000) ∧
  (∀ k, 0 ≤ k → k < 12 → 0 ≤ M (209 + 3 * k) 2 ∧ M (209 + 3 * k) 2 ≤ 8) ∧
  (∀ k j, 0 ≤ k → k < 12 → 0 ≤ j → j < 8 → 0 ≤ M (210 + 3 * k) j ∧ M (210 + 3 * k) j ≤ 7) ∧
  (∀ k, 0 ≤ k → k < 12 → 0 ≤ M (209 + 3 * k) 5 ∧ M (209 + 3 * k) 5 ≤ 2) ∧
  (∀ k, 0 ≤ k → k < 12 → 0 ≤ M (209 + 3 * k) 7 ∧ M (209 + 3 * k) 7 ≤ 7)
def rsN (v : Vec) : Nat → Int
  | 0 => 0
  | n + 1 => ior (rsN v n) (isl 1 (v (n : Int)))
theorem i32_id (s t u : Int32) : s &&& ((t ||| u) ^^^ (-1)) = (s &&& (t ^^^ (-1))) &&& (u ^^^ (-1)) := by
  apply Int32.toBitVec_inj.1
  simp only [Int32.toBitVec_and, Int32.toBitVec_or, Int32.toBitVec_xor]
  apply BitVec.eq_of_getLsbD_eq
  intro i hi
  simp only [BitVec.getLsbD_and, BitVec.getLsbD_or, BitVec.getLsbD_xor]
  have e : (Int32.toBitVec (-1)).getLsbD i = true := by
    rw [show Int32.toBitVec (-1) = BitVec.allOnes 32 from by decide]
    rw [BitVec.getLsbD_allOnes]; exact decide_eq_true hi
  rw [e]
  cases (s.toBitVec.getLsbD i) <;> cases (t.toBitVec.getLsbD i) <;> cases (u.toBitVec.getLsbD i) <;> rfl
theorem ian_or {s t u : Int} : ian s (ixo (ior t u) (-1)) = ian (ian s (ixo t (-1))) (ixo u (-1)) := by
  unfold ian ixo ior
  simp only [z3_toInt]
  rw [show z3 (-1) = (-1 : Int32) from by decide, i32_id]
theorem ian_0 {s : Int} (h1 : 0 ≤ s) (h2 : s < 256) : ian s (ixo 0 (-1)) = s := by
  have key : ∀ s, s < 256 → ian ((s : Nat) : Int) (ixo 0 (-1)) = ((s : Nat) : Int) := by decide +kernel
  have := key s.toNat (by omega)
  rw [Int.toNat_of_nonneg h1] at this
  exact this
/-- the neighbours that are not remembered -/
def stS (m : Set8) (v : Vec) (n : Nat) : Set8 := fun k => m k && decide (fi (fun j => decide (v j = k)) 0 n = -9)
theorem fi_snoc {p : Int → Bool} : ∀ (n : Nat) (k : Int), 0 ≤ k → (fi p k (n + 1) = -9 ↔ (fi p k n = -9 ∧ p (k + n) = false)) := by
  intro n
  induction n with
  | zero =>
    intro k h0
    show (if p k = true then k else -9) = -9 ↔ (-9 = -9 ∧ p (k + 0) = false)
    rw [Int.add_zero]
    by_cases h : p k = true
    · rw [if_pos h]; constructor
      · intro; omega
      · intro c; rw [h] at c; exact absurd c.2 (by decide)
    · rw [if_neg h]; simp [h]
  | succ n ih =>
    intro k h0
    show (if p k = true then k else fi p (k + 1) (n + 1)) = -9 ↔ ((if p k = true then k else fi p (k + 1) n) = -9 ∧ p (k + ((n + 1 : Nat) : Int)) = false)
    by_cases h : p k = true
    · rw [if_pos h, if_pos h]; constructor
      · intro; omega
      · intro c; omega
    · rw [if_neg h, if_neg h, ih (k + 1) (by omega)]
      rw [show k + 1 + (n : Int) = k + ((n + 1 : Nat) : Int) by omega]
theorem rs_bits {s : Int} {v : Vec} (h1 : 0 ≤ s) (h2 : s < 256) : ∀ n : Nat, (∀ j, 0 ≤ j → j < (n : Int) → 0 ≤ v j ∧ v j ≤ 7) → (0 ≤ ian s (ixo (rsN v n) (-1)) ∧ ian s (ixo (rsN v n) (-1)) < 256) ∧ ∀ k, 0 ≤ k → k < 8 → bs (ian s (ixo (rsN v n) (-1))) k = stS (bs s) v n k := by
  intro n
  induction n with
  | zero =>
    intro _
    rw [show rsN v 0 = 0 from rfl, ian_0 h1 h2]
    refine ⟨⟨h1, h2⟩, fun k _ _ => ?_⟩
    unfold stS
    rw [show fi (fun j => decide (v j = k)) 0 0 = -9 from rfl]
    simp
  | succ n ih =>
    intro hv
    have i1 := ih (fun j a b => hv j a (by omega))
    have hn := hv n (by omega) (by omega)
    rw [show rsN v (n + 1) = ior (rsN v n) (isl 1 (v (n : Int))) from rfl, ian_or]
    have w := wo_at i1.1.1 i1.1.2 hn.1 (by omega : v (n : Int) < 8)
    refine ⟨w.1, fun k a b => ?_⟩
    rw [w.2 k a b]
    unfold wob
    rw [i1.2 k a b]
    unfold stS
    have := fi_snoc (p := fun j => decide (v j = k)) n 0 (by omega)
    rw [Int.zero_add] at this
    by_cases q : v (n : Int) = k
    · have e : ¬ fi (fun j => decide (v j = k)) 0 (n + 1) = -9 := by
        rw [this]; intro c; simp [q] at c
      simp [e, q]
    · have e : (fi (fun j => decide (v j = k)) 0 (n + 1) = -9) = (fi (fun j => decide (v j = k)) 0 n = -9) := by
        rw [this]; simp [q]
      simp only [e]
      have : decide (¬ k = v (n : Int)) = true := by simp; exact fun c => q c.symm
      rw [this, Bool.and_true]
section
variable {E : ET} {S : SCR} {M : Mem}
theorem l_rememberedSet {g : GT} {lm : Nat × Nat} {RT : RTy} {w : Int} {n : Nat} (hw : 0 ≤ w ∧ w < 12) (hn : M (209 + 3 * w) 2 = (n : Int)) (hn8 : n ≤ 8) (hr : RT (some (vi (rsN (M (210 + 3 * w)) n))) (toAH S M)) :
    ∀ k : Nat, k ≤ n → G E g mi_X7_rememberedSet 2 lm RT 4 [some (vr (209 + 3 * w)), some (vi (rsN (M (210 + 3 * w)) k)), some (vi (k : Int))] [] (toAH S M) := by
  refine down ?_ ?_
  · refine q_X7_rememberedSet_4 400 (lfok E (by omega)) ?_
    simp +contextual (disch := first | omega | exact Nat.le_of_ble_eq_true rfl | assumption) only [↓r_X7_rememberedSet_0, ↓r_X7_rememberedSet_1, ↓r_X7_rememberedSet_2, ↓r_X7_rememberedSet_3, ↓r_X7_rememberedSet_4, ↓r_X7_rememberedSet_5, ↓r_X7_rememberedSet_6, ↓r_X7_rememberedSet_9, ↓r_X7_rememberedSet_12, ↓r_X7_rememberedSet_13, ↓r_X7_rememberedSet_14, ↓r_X7_rememberedSet_15, ↓r_X7_rememberedSet_18, ↓r_X7_rememberedSet_19, ↓r_X7_rememberedSet_20, ↓r_X7_rememberedSet_21, ↓r_X7_rememberedSet_22, ↓r_X7_rememberedSet_23, ↓r_X7_rememberedSet_26, ↓r_X7_rememberedSet_29, ↓r_X7_rememberedSet_30, ↓x0, ↓x4_1n, ↓x4_1i, ↓x4_1r, ↓x4_2n, ↓x4_2i, ↓x4_2r, ↓x1_2, ↓x2_0, ↓f7_2, ↓x32_3, ↓x1_1, ↓f7_0, ↓x16, ↓x14, ↓x7_2n, ↓x7_2i, ↓x7_2r, ↓x33, ↓x48_0, ↓l_2, ↓l_3, ↓l_4, ↓l_5, ↓l_6, ↓l_7, ↓l_9, ↓l_10, ↓l_11, ↓l_12, ↓l_13, ↓l_15, ↓l_16, ↓l_r1, ↓l_r2, ↓l_w1, ↓l_w2, and_self, and_true, true_and, implies_true, true_implies, Int.reduceEq, Int.reduceLE, Int.reduceLT, not_true_eq_false, not_false_eq_true, false_implies, RTf_eq]
    exact ⟨fun _ => hr, fun q => absurd (by omega) q⟩
  · intro k hk ih
    refine q_X7_rememberedSet_4 400 (lfok E (by omega)) ?_
    simp +contextual (disch := first | omega | exact Nat.le_of_ble_eq_true rfl | assumption) only [↓r_X7_rememberedSet_0, ↓r_X7_rememberedSet_1, ↓r_X7_rememberedSet_2, ↓r_X7_rememberedSet_3, ↓r_X7_rememberedSet_4, ↓r_X7_rememberedSet_5, ↓r_X7_rememberedSet_6, ↓r_X7_rememberedSet_9, ↓r_X7_rememberedSet_12, ↓r_X7_rememberedSet_13, ↓r_X7_rememberedSet_14, ↓r_X7_rememberedSet_15, ↓r_X7_rememberedSet_18, ↓r_X7_rememberedSet_19, ↓r_X7_rememberedSet_20, ↓r_X7_rememberedSet_21, ↓r_X7_rememberedSet_22, ↓r_X7_rememberedSet_23, ↓r_X7_rememberedSet_26, ↓r_X7_rememberedSet_29, ↓r_X7_rememberedSet_30, ↓x0, ↓x4_1n, ↓x4_1i, ↓x4_1r, ↓x4_2n, ↓x4_2i, ↓x4_2r, ↓x1_2, ↓x2_0, ↓f7_2, ↓x32_3, ↓x1_1, ↓f7_0, ↓x16, ↓x14, ↓x7_2n, ↓x7_2i, ↓x7_2r, ↓x33, ↓x48_0, ↓l_2, ↓l_3, ↓l_4, ↓l_5, ↓l_6, ↓l_7, ↓l_9, ↓l_10, ↓l_11, ↓l_12, ↓l_13, ↓l_15, ↓l_16, ↓l_r1, ↓l_r2, ↓l_w1, ↓l_w2, and_self, and_true, true_and, implies_true, true_implies, Int.reduceEq, Int.reduceLE, Int.reduceLT, not_true_eq_false, not_false_eq_true, false_implies, RTf_eq]
    exact ⟨fun q => by omega, fun _ => ih⟩
theorem c_rememberedSet {w : Int} {n : Nat} (hw : 0 ≤ w ∧ w < 12) (hn : M (209 + 3 * w) 2 = (n : Int)) (hn8 : n ≤ 8) : Ctr E 2 39 [vr (209 + 3 * w)] (toAH S M) (some (vi (rsN (M (210 + 3 * w)) n))) (toAH S M) := by
  refine Ctr_f mi_X7_rememberedSet mo_X7_rememberedSet (Nat.le_of_ble_eq_true rfl) ⟨Nat.le_refl _, Nat.le_refl _⟩ (fun g lm => ?_)
  rw [show entL mi_X7_rememberedSet.2.2.1 [vr (209 + 3 * w)] = [some (vr (209 + 3 * w)), none, none] from rfl]
  refine e_X7_rememberedSet 400 (lfok E (by omega)) ?_
  simp +contextual (disch := first | omega | exact Nat.le_of_ble_eq_true rfl | assumption) only [↓r_X7_rememberedSet_0, ↓r_X7_rememberedSet_1, ↓r_X7_rememberedSet_2, ↓r_X7_rememberedSet_3, ↓r_X7_rememberedSet_4, ↓r_X7_rememberedSet_5, ↓r_X7_rememberedSet_6, ↓r_X7_rememberedSet_9, ↓r_X7_rememberedSet_12, ↓r_X7_rememberedSet_13, ↓r_X7_rememberedSet_14, ↓r_X7_rememberedSet_15, ↓r_X7_rememberedSet_18, ↓r_X7_rememberedSet_19, ↓r_X7_rememberedSet_20, ↓r_X7_rememberedSet_21, ↓r_X7_rememberedSet_22, ↓r_X7_rememberedSet_23, ↓r_X7_rememberedSet_26, ↓r_X7_rememberedSet_29, ↓r_X7_rememberedSet_30, ↓x0, ↓x4_1n, ↓x4_1i, ↓x4_1r, ↓x4_2n, ↓x4_2i, ↓x4_2r, ↓x1_2, ↓x2_0, ↓f7_2, ↓x32_3, ↓x1_1, ↓f7_0, ↓x16, ↓x14, ↓x7_2n, ↓x7_2i, ↓x7_2r, ↓x33, ↓x48_0, ↓l_2, ↓l_3, ↓l_4, ↓l_5, ↓l_6, ↓l_7, ↓l_9, ↓l_10, ↓l_11, ↓l_12, ↓l_13, ↓l_15, ↓l_16, ↓l_r1, ↓l_r2, ↓l_w1, ↓l_w2, and_self, and_true, true_and, implies_true, true_implies, Int.reduceEq, Int.reduceLE, Int.reduceLT, not_true_eq_false, not_false_eq_true, false_implies, RTf_eq]
  exact l_rememberedSet hw hn hn8 ⟨rfl, rfl⟩ 0 (by omega)
/-- the weight of each neighbour -/
def wt8 (M : Mem) (w i : Int) : Vec := fun k => if M (209 + 3 * w) 5 < 1 then M (18 + 3 * (i * 8 + M (209 + 3 * w) 7)) k else M (18 + 3 * (i * 8 + M (209 + 3 * w) 7)) k / (1 + cnt (onB M (fi (btB M (min i k) (max i k)) 0 16) 0) 12)
theorem c_weight8 {kd a b : Int} (hk : 0 ≤ kd ∧ kd ≤ 2) (ha : 0 ≤ a ∧ a ≤ 1000) (hb : 0 ≤ b ∧ b ≤ 1000) : Ctr E 2 (if kd = 0 then 17 else 5) [vr (245 + kd), vi a, vi b] (toAH S M) (some (vi (if kd < 1 then a else a / (1 + b)))) (toAH S M) := by
  by_cases h : kd = 0
  · rw [if_pos h, if_pos (by omega)]; exact c_weightP
  · rw [if_neg h, if_neg (by omega)]; exact c_weightH ha hb
theorem wt8_rng {w i k : Int} (hW : CW M) (hw : 0 ≤ w ∧ w < 12) (hi : 0 ≤ i ∧ i < 8) (hk : 0 ≤ k ∧ k < 8) : 0 ≤ wt8 M w i k ∧ wt8 M w i k ≤ 1000 := by
  obtain ⟨h3, h4, h8, hd, hlo, hhi, hN, hS, hn, hv, hkd, ha⟩ := hW
  have a1 := ha w hw.1 hw.2
  have s1 := hS (i * 8 + M (209 + 3 * w) 7) k (by omega) (by omega) hk.1 hk.2
  unfold wt8
  split
  · exact s1
  · exact div_rng s1.1 s1.2 (cnt_rng _ 12).1
/-- the weights as they lie after a weighing -/
def wgV (M : Mem) (w i ch : Int) : Vec := fun k => if bs ch k = true then wt8 M w i k else M 15 k
theorem smv_rg {m : Set8} {v : Vec} : ∀ n : Nat, (∀ k : Int, 0 ≤ k → k < (n : Int) → 0 ≤ v k ∧ v k ≤ 1000) → 0 ≤ smv m v n ∧ smv m v n ≤ 1000 * (n : Int) := by
  intro n
  induction n with
  | zero => intro _; exact ⟨by show (0 : Int) ≤ 0; omega, by show (0 : Int) ≤ _; omega⟩
  | succ n ih =>
    intro h
    have := ih (fun k a b => h k a (by omega))
    have := h n (by omega) (by omega)
    unfold smv
    split <;> omega
theorem l_weigh {g : GT} {lm : Nat × Nat} {RT : RTy} {w i ch kd am : Int} (ekd : M (209 + 3 * w) 5 = kd) (eam : M (209 + 3 * w) 7 = am) (hW : CW M) (hw : 0 ≤ w ∧ w < 12) (hi : 0 ≤ i ∧ i < 8) (hch : 0 ≤ ch ∧ ch < 256) (hr : RT (some (vi (smv (bs ch) (wt8 M w i) 8))) (toAH S (putv M 15 0 (wgV M w i ch)))) :
    ∀ k : Nat, k ≤ 8 → G E g mi_X8_weigh 3 lm RT 28 [some (vr 0), some (vr (209 + 3 * w)), some (vi i), some (vi ch), some (vr (245 + kd)), some (vr (17 + 3 * (i * 8 + am))), some (vi (smv (bs ch) (wt8 M w i) k)), some (vi (k : Int))] [] (toAH S (putv M 15 0 (bl k (wgV M w i ch) (M 15)))) := by
  have hW' := hW
  obtain ⟨h3, h4, h8, hd, hlo, hhi, hN, hS, hn, hv, hkd, ha⟩ := hW'
  have k1 := hkd w hw.1 hw.2
  have a1 := ha w hw.1 hw.2
  refine down ?_ ?_
  · have e : putv M 15 0 (bl 8 (wgV M w i ch) (M 15)) = putv M 15 0 (wgV M w i ch) := putv_congr (fun k a b => bl_8 b)
    rw [e]
    refine q_X8_weigh_28 400 (lfok E (by omega)) ?_
    simp +contextual (disch := first | omega | exact Nat.le_of_ble_eq_true rfl | assumption) only [↓r_X8_weigh_0, ↓r_X8_weigh_1, ↓r_X8_weigh_4, ↓r_X8_weigh_5, ↓r_X8_weigh_8, ↓r_X8_weigh_9, ↓r_X8_weigh_11, ↓r_X8_weigh_12, ↓r_X8_weigh_13, ↓r_X8_weigh_14, ↓r_X8_weigh_17, ↓r_X8_weigh_20, ↓r_X8_weigh_22, ↓r_X8_weigh_23, ↓r_X8_weigh_25, ↓r_X8_weigh_26, ↓r_X8_weigh_28, ↓r_X8_weigh_30, ↓r_X8_weigh_32, ↓r_X8_weigh_35, ↓r_X8_weigh_36, ↓r_X8_weigh_38, ↓r_X8_weigh_41, ↓r_X8_weigh_44, ↓r_X8_weigh_45, ↓r_X8_weigh_48, ↓r_X8_weigh_50, ↓r_X8_weigh_52, ↓r_X8_weigh_54, ↓r_X8_weigh_57, ↓r_X8_weigh_59, ↓r_X8_weigh_60, ↓r_X8_weigh_61, ↓r_X8_weigh_62, ↓r_X8_weigh_65, ↓r_X8_weigh_66, ↓r_X8_weigh_68, ↓r_X8_weigh_71, ↓r_X8_weigh_72, ↓r_X8_weigh_75, ↓r_X8_weigh_78, ↓r_X8_weigh_79, ↓r_X8_weigh_81, ↓r_X8_weigh_82, ↓r_X8_weigh_85, ↓r_X8_weigh_87, ↓r_X8_weigh_88, ↓r_X8_weigh_89, ↓r_X8_weigh_91, ↓r_X8_weigh_94, ↓r_X8_weigh_97, ↓r_X8_weigh_99, ↓x2_0, ↓f8_4, ↓x2_1, ↓f7_5, ↓x5_4n, ↓x5_4i, ↓x5_4r, ↓x1_2, ↓f7_7, ↓lf_X8_rowOf, ↓x5_5n, ↓x5_5i, ↓x5_5r, ↓x0, ↓x4_6n, ↓x4_6i, ↓x4_6r, ↓x4_7n, ↓x4_7i, ↓x4_7r, ↓x1_7, ↓x32_3, ↓x1_3, ↓lf_X8_isIn, ↓x31_0, ↓x31b0, ↓f8_6, ↓x2_4, ↓x2_5, ↓f5_0, ↓f8_0, ↓v3_3, ↓v8_3, ↓x1_6, ↓x8, ↓x7_7n, ↓x7_7i, ↓x7_7r, ↓x33, ↓x48_0, ↓l_2, ↓s_2, ↓l_3, ↓s_3, ↓l_4, ↓s_4, ↓l_5, ↓s_5, ↓l_6, ↓s_6, ↓l_7, ↓l_9, ↓s_9, ↓l_10, ↓s_10, ↓l_11, ↓s_11, ↓l_12, ↓l_13, ↓l_15, ↓s_15, ↓l_16, ↓s_16, ↓l_r1, ↓s_r1, ↓l_r2, ↓s_r2, ↓l_w1, ↓s_w1, ↓l_w2, ↓s_w2, and_self, and_true, true_and, implies_true, true_implies, Int.reduceEq, Int.reduceLE, Int.reduceLT, not_true_eq_false, not_false_eq_true, false_implies, RTf_eq]
    exact ⟨fun _ => hr, fun q => absurd (by omega) q⟩
  · intro k hk ih
    obtain ⟨N, eN⟩ : ∃ N, N = putv M 15 0 (bl k (wgV M w i ch) (M 15)) := ⟨_, rfl⟩
    have nO : ∀ c z, ¬ c = 15 → N c z = M c z := fun c z hc => by rw [eN]; exact putv_ne hc
    have s1 := hS (i * 8 + am) k (by omega) (by omega) (by omega) (by omega)
    have eB : btB N (min i (k : Int)) (max i (k : Int)) = btB M (min i (k : Int)) (max i (k : Int)) := by
      unfold btB; funext l; rw [nO 4 l (by omega), nO 2 l (by omega), nO 3 l (by omega)]
    have cB := c_between (E := E) (S := S) (M := N) (x := i) (y := (k : Int)) ⟨by omega, by omega⟩ ⟨by omega, by omega⟩ (fun z a b => by rw [nO 4 z (by omega)]; have := hd z a b; exact ⟨by omega, by omega⟩) (fun z a b => by rw [nO 2 z (by omega)]; have := hlo z a b; exact ⟨by omega, by omega⟩) (fun z a b => by rw [nO 3 z (by omega)]; have := hhi z a b; exact ⟨by omega, by omega⟩)
    rw [eB] at cB
    have qr := fi_rng (p := btB M (min i (k : Int)) (max i (k : Int))) 16 0 (by omega)
    obtain ⟨q, eq⟩ : ∃ q, q = fi (btB M (min i (k : Int)) (max i (k : Int))) 0 16 := ⟨_, rfl⟩
    rw [← eq] at cB qr
    have eO : ∀ l, onB N l 0 = onB M l 0 := fun l => by
      unfold onB; funext j; rw [nO (209 + 3 * j) 8 (by omega), nO (209 + 3 * j) 4 (by omega)]
    have cC := c_countOn (E := E) (S := S) (M := N) (l := q) (z := 0) ⟨by omega, by omega⟩ (Or.inl rfl) (fun z a b => by rw [nO _ 8 (by omega)]; exact h8 z a b) (fun z a b => by rw [nO _ 4 (by omega)]; exact h4 z a b)
    rw [eO q] at cC
    have cr := cnt_rng (onB M q 0) 12
    have cK := c_weight8 (E := E) (S := S) (M := N) (kd := kd) (a := M (18 + 3 * (i * 8 + am)) k) (b := cnt (onB M q 0) 12) (by omega) s1 (by omega)
    have ew : (if kd < 1 then M (18 + 3 * (i * 8 + am)) k else M (18 + 3 * (i * 8 + am)) k / (1 + cnt (onB M q 0) 12)) = wt8 M w i k := by
      unfold wt8; rw [ekd, eam, eq]
    rw [ew] at cK
    have wr := wt8_rng hW hw hi (k := (k : Int)) ⟨by omega, by omega⟩
    have sr := smv_rg (m := bs ch) (v := wt8 M w i) k (fun j a b => wt8_rng hW hw hi ⟨a, by omega⟩)
    have eS : smv (bs ch) (wt8 M w i) (k + 1) = smv (bs ch) (wt8 M w i) k + (if bs ch (k : Int) = true then wt8 M w i (k : Int) else 0) := rfl
    have nR : N (18 + 3 * (i * 8 + am)) (k : Int) = M (18 + 3 * (i * 8 + am)) (k : Int) := nO _ _ (by omega)
    by_cases c : bs ch (k : Int) = true
    · have a2 : b2 (bzd ch (k : Int) = true) = 1 := by
        have : bzd ch (k : Int) = true := c
        simp [b2, this]
      have eM : putv M 15 0 (bl (k + 1) (wgV M w i ch) (M 15)) = up2 N 15 (k : Int) (wt8 M w i k) := by
        rw [eN, up2_putv0 (by omega) (by omega), ← bl_s]
        rw [show wgV M w i ch (k : Int) = wt8 M w i k by unfold wgV; rw [if_pos c]]
      rw [eS, if_pos c, eM] at ih
      rw [← eN]
      refine q_X8_weigh_28 400 (lfok E (by omega)) ?_
      simp +contextual (disch := first | omega | exact Nat.le_of_ble_eq_true rfl | assumption) only [↓r_X8_weigh_0, ↓r_X8_weigh_1, ↓r_X8_weigh_4, ↓r_X8_weigh_5, ↓r_X8_weigh_8, ↓r_X8_weigh_9, ↓r_X8_weigh_11, ↓r_X8_weigh_12, ↓r_X8_weigh_13, ↓r_X8_weigh_14, ↓r_X8_weigh_17, ↓r_X8_weigh_20, ↓r_X8_weigh_22, ↓r_X8_weigh_23, ↓r_X8_weigh_25, ↓r_X8_weigh_26, ↓r_X8_weigh_28, ↓r_X8_weigh_30, ↓r_X8_weigh_32, ↓r_X8_weigh_35, ↓r_X8_weigh_36, ↓r_X8_weigh_38, ↓r_X8_weigh_41, ↓r_X8_weigh_44, ↓r_X8_weigh_45, ↓r_X8_weigh_48, ↓r_X8_weigh_50, ↓r_X8_weigh_52, ↓r_X8_weigh_54, ↓r_X8_weigh_57, ↓r_X8_weigh_59, ↓r_X8_weigh_60, ↓r_X8_weigh_61, ↓r_X8_weigh_62, ↓r_X8_weigh_65, ↓r_X8_weigh_66, ↓r_X8_weigh_68, ↓r_X8_weigh_71, ↓r_X8_weigh_72, ↓r_X8_weigh_75, ↓r_X8_weigh_78, ↓r_X8_weigh_79, ↓r_X8_weigh_81, ↓r_X8_weigh_82, ↓r_X8_weigh_85, ↓r_X8_weigh_87, ↓r_X8_weigh_88, ↓r_X8_weigh_89, ↓r_X8_weigh_91, ↓r_X8_weigh_94, ↓r_X8_weigh_97, ↓r_X8_weigh_99, ↓x2_0, ↓f8_4, ↓x2_1, ↓f7_5, ↓x5_4n, ↓x5_4i, ↓x5_4r, ↓x1_2, ↓f7_7, ↓lf_X8_rowOf, ↓x5_5n, ↓x5_5i, ↓x5_5r, ↓x0, ↓x4_6n, ↓x4_6i, ↓x4_6r, ↓x4_7n, ↓x4_7i, ↓x4_7r, ↓x1_7, ↓x32_3, ↓x1_3, ↓lf_X8_isIn, ↓x31_0, ↓x31b0, ↓f8_6, ↓x2_4, ↓x2_5, ↓f5_0, ↓f8_0, ↓v3_3, ↓v8_3, ↓x1_6, ↓x8, ↓x7_7n, ↓x7_7i, ↓x7_7r, ↓x33, ↓x48_0, ↓l_2, ↓s_2, ↓l_3, ↓s_3, ↓l_4, ↓s_4, ↓l_5, ↓s_5, ↓l_6, ↓s_6, ↓l_7, ↓l_9, ↓s_9, ↓l_10, ↓s_10, ↓l_11, ↓s_11, ↓l_12, ↓l_13, ↓l_15, ↓s_15, ↓l_16, ↓s_16, ↓l_r1, ↓s_r1, ↓l_r2, ↓s_r2, ↓l_w1, ↓s_w1, ↓l_w2, ↓s_w2, and_self, and_true, true_and, implies_true, true_implies, Int.reduceEq, Int.reduceLE, Int.reduceLT, not_true_eq_false, not_false_eq_true, false_implies, RTf_eq, a2]
      refine ⟨fun q => by omega, fun _ => ?_⟩
      refine ck_r5 cB (by omega) (Nat.le_of_ble_eq_true rfl) ?_
      simp +contextual (disch := first | omega | exact Nat.le_of_ble_eq_true rfl | assumption) only [↓r_X8_weigh_0, ↓r_X8_weigh_1, ↓r_X8_weigh_4, ↓r_X8_weigh_5, ↓r_X8_weigh_8, ↓r_X8_weigh_9, ↓r_X8_weigh_11, ↓r_X8_weigh_12, ↓r_X8_weigh_13, ↓r_X8_weigh_14, ↓r_X8_weigh_17, ↓r_X8_weigh_20, ↓r_X8_weigh_22, ↓r_X8_weigh_23, ↓r_X8_weigh_25, ↓r_X8_weigh_26, ↓r_X8_weigh_28, ↓r_X8_weigh_30, ↓r_X8_weigh_32, ↓r_X8_weigh_35, ↓r_X8_weigh_36, ↓r_X8_weigh_38, ↓r_X8_weigh_41, ↓r_X8_weigh_44, ↓r_X8_weigh_45, ↓r_X8_weigh_48, ↓r_X8_weigh_50, ↓r_X8_weigh_52, ↓r_X8_weigh_54, ↓r_X8_weigh_57, ↓r_X8_weigh_59, ↓r_X8_weigh_60, ↓r_X8_weigh_61, ↓r_X8_weigh_62, ↓r_X8_weigh_65, ↓r_X8_weigh_66, ↓r_X8_weigh_68, ↓r_X8_weigh_71, ↓r_X8_weigh_72, ↓r_X8_weigh_75, ↓r_X8_weigh_78, ↓r_X8_weigh_79, ↓r_X8_weigh_81, ↓r_X8_weigh_82, ↓r_X8_weigh_85, ↓r_X8_weigh_87, ↓r_X8_weigh_88, ↓r_X8_weigh_89, ↓r_X8_weigh_91, ↓r_X8_weigh_94, ↓r_X8_weigh_97, ↓r_X8_weigh_99, ↓x2_0, ↓f8_4, ↓x2_1, ↓f7_5, ↓x5_4n, ↓x5_4i, ↓x5_4r, ↓x1_2, ↓f7_7, ↓lf_X8_rowOf, ↓x5_5n, ↓x5_5i, ↓x5_5r, ↓x0, ↓x4_6n, ↓x4_6i, ↓x4_6r, ↓x4_7n, ↓x4_7i, ↓x4_7r, ↓x1_7, ↓x32_3, ↓x1_3, ↓lf_X8_isIn, ↓x31_0, ↓x31b0, ↓f8_6, ↓x2_4, ↓x2_5, ↓f5_0, ↓f8_0, ↓v3_3, ↓v8_3, ↓x1_6, ↓x8, ↓x7_7n, ↓x7_7i, ↓x7_7r, ↓x33, ↓x48_0, ↓l_2, ↓s_2, ↓l_3, ↓s_3, ↓l_4, ↓s_4, ↓l_5, ↓s_5, ↓l_6, ↓s_6, ↓l_7, ↓l_9, ↓s_9, ↓l_10, ↓s_10, ↓l_11, ↓s_11, ↓l_12, ↓l_13, ↓l_15, ↓s_15, ↓l_16, ↓s_16, ↓l_r1, ↓s_r1, ↓l_r2, ↓s_r2, ↓l_w1, ↓s_w1, ↓l_w2, ↓s_w2, and_self, and_true, true_and, implies_true, true_implies, Int.reduceEq, Int.reduceLE, Int.reduceLT, not_true_eq_false, not_false_eq_true, false_implies, RTf_eq, a2]
      refine ck_r cC (by omega) (by simp) ?_
      simp +contextual (disch := first | omega | exact Nat.le_of_ble_eq_true rfl | assumption) only [↓r_X8_weigh_0, ↓r_X8_weigh_1, ↓r_X8_weigh_4, ↓r_X8_weigh_5, ↓r_X8_weigh_8, ↓r_X8_weigh_9, ↓r_X8_weigh_11, ↓r_X8_weigh_12, ↓r_X8_weigh_13, ↓r_X8_weigh_14, ↓r_X8_weigh_17, ↓r_X8_weigh_20, ↓r_X8_weigh_22, ↓r_X8_weigh_23, ↓r_X8_weigh_25, ↓r_X8_weigh_26, ↓r_X8_weigh_28, ↓r_X8_weigh_30, ↓r_X8_weigh_32, ↓r_X8_weigh_35, ↓r_X8_weigh_36, ↓r_X8_weigh_38, ↓r_X8_weigh_41, ↓r_X8_weigh_44, ↓r_X8_weigh_45, ↓r_X8_weigh_48, ↓r_X8_weigh_50, ↓r_X8_weigh_52, ↓r_X8_weigh_54, ↓r_X8_weigh_57, ↓r_X8_weigh_59, ↓r_X8_weigh_60, ↓r_X8_weigh_61, ↓r_X8_weigh_62, ↓r_X8_weigh_65, ↓r_X8_weigh_66, ↓r_X8_weigh_68, ↓r_X8_weigh_71, ↓r_X8_weigh_72, ↓r_X8_weigh_75, ↓r_X8_weigh_78, ↓r_X8_weigh_79, ↓r_X8_weigh_81, ↓r_X8_weigh_82, ↓r_X8_weigh_85, ↓r_X8_weigh_87, ↓r_X8_weigh_88, ↓r_X8_weigh_89, ↓r_X8_weigh_91, ↓r_X8_weigh_94, ↓r_X8_weigh_97, ↓r_X8_weigh_99, ↓x2_0, ↓f8_4, ↓x2_1, ↓f7_5, ↓x5_4n, ↓x5_4i, ↓x5_4r, ↓x1_2, ↓f7_7, ↓lf_X8_rowOf, ↓x5_5n, ↓x5_5i, ↓x5_5r, ↓x0, ↓x4_6n, ↓x4_6i, ↓x4_6r, ↓x4_7n, ↓x4_7i, ↓x4_7r, ↓x1_7, ↓x32_3, ↓x1_3, ↓lf_X8_isIn, ↓x31_0, ↓x31b0, ↓f8_6, ↓x2_4, ↓x2_5, ↓f5_0, ↓f8_0, ↓v3_3, ↓v8_3, ↓x1_6, ↓x8, ↓x7_7n, ↓x7_7i, ↓x7_7r, ↓x33, ↓x48_0, ↓l_2, ↓s_2, ↓l_3, ↓s_3, ↓l_4, ↓s_4, ↓l_5, ↓s_5, ↓l_6, ↓s_6, ↓l_7, ↓l_9, ↓s_9, ↓l_10, ↓s_10, ↓l_11, ↓s_11, ↓l_12, ↓l_13, ↓l_15, ↓s_15, ↓l_16, ↓s_16, ↓l_r1, ↓s_r1, ↓l_r2, ↓s_r2, ↓l_w1, ↓s_w1, ↓l_w2, ↓s_w2, and_self, and_true, true_and, implies_true, true_implies, Int.reduceEq, Int.reduceLE, Int.reduceLT, not_true_eq_false, not_false_eq_true, false_implies, RTf_eq, a2, nR, ↓y46w]
      refine ck_r cK (by omega) (by simp) ?_
      simp +contextual (disch := first | omega | exact Nat.le_of_ble_eq_true rfl | assumption) only [↓r_X8_weigh_0, ↓r_X8_weigh_1, ↓r_X8_weigh_4, ↓r_X8_weigh_5, ↓r_X8_weigh_8, ↓r_X8_weigh_9, ↓r_X8_weigh_11, ↓r_X8_weigh_12, ↓r_X8_weigh_13, ↓r_X8_weigh_14, ↓r_X8_weigh_17, ↓r_X8_weigh_20, ↓r_X8_weigh_22, ↓r_X8_weigh_23, ↓r_X8_weigh_25, ↓r_X8_weigh_26, ↓r_X8_weigh_28, ↓r_X8_weigh_30, ↓r_X8_weigh_32, ↓r_X8_weigh_35, ↓r_X8_weigh_36, ↓r_X8_weigh_38, ↓r_X8_weigh_41, ↓r_X8_weigh_44, ↓r_X8_weigh_45, ↓r_X8_weigh_48, ↓r_X8_weigh_50, ↓r_X8_weigh_52, ↓r_X8_weigh_54, ↓r_X8_weigh_57, ↓r_X8_weigh_59, ↓r_X8_weigh_60, ↓r_X8_weigh_61, ↓r_X8_weigh_62, ↓r_X8_weigh_65, ↓r_X8_weigh_66, ↓r_X8_weigh_68, ↓r_X8_weigh_71, ↓r_X8_weigh_72, ↓r_X8_weigh_75, ↓r_X8_weigh_78, ↓r_X8_weigh_79, ↓r_X8_weigh_81, ↓r_X8_weigh_82, ↓r_X8_weigh_85, ↓r_X8_weigh_87, ↓r_X8_weigh_88, ↓r_X8_weigh_89, ↓r_X8_weigh_91, ↓r_X8_weigh_94, ↓r_X8_weigh_97, ↓r_X8_weigh_99, ↓x2_0, ↓f8_4, ↓x2_1, ↓f7_5, ↓x5_4n, ↓x5_4i, ↓x5_4r, ↓x1_2, ↓f7_7, ↓lf_X8_rowOf, ↓x5_5n, ↓x5_5i, ↓x5_5r, ↓x0, ↓x4_6n, ↓x4_6i, ↓x4_6r, ↓x4_7n, ↓x4_7i, ↓x4_7r, ↓x1_7, ↓x32_3, ↓x1_3, ↓lf_X8_isIn, ↓x31_0, ↓x31b0, ↓f8_6, ↓x2_4, ↓x2_5, ↓f5_0, ↓f8_0, ↓v3_3, ↓v8_3, ↓x1_6, ↓x8, ↓x7_7n, ↓x7_7i, ↓x7_7r, ↓x33, ↓x48_0, ↓l_2, ↓s_2, ↓l_3, ↓s_3, ↓l_4, ↓s_4, ↓l_5, ↓s_5, ↓l_6, ↓s_6, ↓l_7, ↓l_9, ↓s_9, ↓l_10, ↓s_10, ↓l_11, ↓s_11, ↓l_12, ↓l_13, ↓l_15, ↓s_15, ↓l_16, ↓s_16, ↓l_r1, ↓s_r1, ↓l_r2, ↓s_r2, ↓l_w1, ↓s_w1, ↓l_w2, ↓s_w2, and_self, and_true, true_and, implies_true, true_implies, Int.reduceEq, Int.reduceLE, Int.reduceLT, not_true_eq_false, not_false_eq_true, false_implies, RTf_eq, a2, up2_same]
      exact ih
    · have a2 : b2 (bzd ch (k : Int) = true) = 0 := by
        have : ¬ bzd ch (k : Int) = true := c
        simp [b2, this]
      have eM : bl (k + 1) (wgV M w i ch) (M 15) = bl k (wgV M w i ch) (M 15) := (bl_n (by unfold wgV; rw [if_neg c])).symm
      rw [eS, if_neg c, eM, Int.add_zero] at ih
      refine q_X8_weigh_28 400 (lfok E (by omega)) ?_
      simp +contextual (disch := first | omega | exact Nat.le_of_ble_eq_true rfl | assumption) only [↓r_X8_weigh_0, ↓r_X8_weigh_1, ↓r_X8_weigh_4, ↓r_X8_weigh_5, ↓r_X8_weigh_8, ↓r_X8_weigh_9, ↓r_X8_weigh_11, ↓r_X8_weigh_12, ↓r_X8_weigh_13, ↓r_X8_weigh_14, ↓r_X8_weigh_17, ↓r_X8_weigh_20, ↓r_X8_weigh_22, ↓r_X8_weigh_23, ↓r_X8_weigh_25, ↓r_X8_weigh_26, ↓r_X8_weigh_28, ↓r_X8_weigh_30, ↓r_X8_weigh_32, ↓r_X8_weigh_35, ↓r_X8_weigh_36, ↓r_X8_weigh_38, ↓r_X8_weigh_41, ↓r_X8_weigh_44, ↓r_X8_weigh_45, ↓r_X8_weigh_48, ↓r_X8_weigh_50, ↓r_X8_weigh_52, ↓r_X8_weigh_54, ↓r_X8_weigh_57, ↓r_X8_weigh_59, ↓r_X8_weigh_60, ↓r_X8_weigh_61, ↓r_X8_weigh_62, ↓r_X8_weigh_65, ↓r_X8_weigh_66, ↓r_X8_weigh_68, ↓r_X8_weigh_71, ↓r_X8_weigh_72, ↓r_X8_weigh_75, ↓r_X8_weigh_78, ↓r_X8_weigh_79, ↓r_X8_weigh_81, ↓r_X8_weigh_82, ↓r_X8_weigh_85, ↓r_X8_weigh_87, ↓r_X8_weigh_88, ↓r_X8_weigh_89, ↓r_X8_weigh_91, ↓r_X8_weigh_94, ↓r_X8_weigh_97, ↓r_X8_weigh_99, ↓x2_0, ↓f8_4, ↓x2_1, ↓f7_5, ↓x5_4n, ↓x5_4i, ↓x5_4r, ↓x1_2, ↓f7_7, ↓lf_X8_rowOf, ↓x5_5n, ↓x5_5i, ↓x5_5r, ↓x0, ↓x4_6n, ↓x4_6i, ↓x4_6r, ↓x4_7n, ↓x4_7i, ↓x4_7r, ↓x1_7, ↓x32_3, ↓x1_3, ↓lf_X8_isIn, ↓x31_0, ↓x31b0, ↓f8_6, ↓x2_4, ↓x2_5, ↓f5_0, ↓f8_0, ↓v3_3, ↓v8_3, ↓x1_6, ↓x8, ↓x7_7n, ↓x7_7i, ↓x7_7r, ↓x33, ↓x48_0, ↓l_2, ↓s_2, ↓l_3, ↓s_3, ↓l_4, ↓s_4, ↓l_5, ↓s_5, ↓l_6, ↓s_6, ↓l_7, ↓l_9, ↓s_9, ↓l_10, ↓s_10, ↓l_11, ↓s_11, ↓l_12, ↓l_13, ↓l_15, ↓s_15, ↓l_16, ↓s_16, ↓l_r1, ↓s_r1, ↓l_r2, ↓s_r2, ↓l_w1, ↓s_w1, ↓l_w2, ↓s_w2, and_self, and_true, true_and, implies_true, true_implies, Int.reduceEq, Int.reduceLE, Int.reduceLT, not_true_eq_false, not_false_eq_true, false_implies, RTf_eq, a2]
      exact ⟨fun q => by omega, fun _ => ih⟩
theorem c_weigh {w i ch : Int} (hW : CW M) (hw : 0 ≤ w ∧ w < 12) (hi : 0 ≤ i ∧ i < 8) (hch : 0 ≤ ch ∧ ch < 256) : Ctr E 3 82 [vr 0, vr (209 + 3 * w), vi i, vi ch] (toAH S M) (some (vi (smv (bs ch) (wt8 M w i) 8))) (toAH S (putv M 15 0 (wgV M w i ch))) := by
  have hW' := hW
  obtain ⟨h3, h4, h8, hd, hlo, hhi, hN, hS, hn, hv, hkd, ha⟩ := hW'
  have k1 := hkd w hw.1 hw.2
  have a1 := ha w hw.1 hw.2
  have hl := fun g lm => l_weigh (E := E) (S := S) (g := g) (lm := lm) rfl rfl hW hw hi hch (RT := RTf (some (vi (smv (bs ch) (wt8 M w i) 8))) (toAH S (putv M 15 0 (wgV M w i ch)))) ⟨rfl, rfl⟩ 0 (by omega)
  rw [show putv M 15 0 (bl 0 (wgV M w i ch) (M 15)) = M from putv_id (fun k a b => by rw [bl_0 a, Int.zero_add])] at hl
  refine Ctr_f mi_X8_weigh mo_X8_weigh (Nat.le_of_ble_eq_true rfl) ⟨Nat.le_refl _, Nat.le_refl _⟩ (fun g lm => ?_)
  rw [show entL mi_X8_weigh.2.2.1 [vr 0, vr (209 + 3 * w), vi i, vi ch] = [some (vr 0), some (vr (209 + 3 * w)), some (vi i), some (vi ch), none, none, none, none] from rfl]
  refine e_X8_weigh 400 (lfok E (by omega)) ?_
  simp +contextual (disch := first | omega | exact Nat.le_of_ble_eq_true rfl | assumption) only [↓r_X8_weigh_0, ↓r_X8_weigh_1, ↓r_X8_weigh_4, ↓r_X8_weigh_5, ↓r_X8_weigh_8, ↓r_X8_weigh_9, ↓r_X8_weigh_11, ↓r_X8_weigh_12, ↓r_X8_weigh_13, ↓r_X8_weigh_14, ↓r_X8_weigh_17, ↓r_X8_weigh_20, ↓r_X8_weigh_22, ↓r_X8_weigh_23, ↓r_X8_weigh_25, ↓r_X8_weigh_26, ↓r_X8_weigh_28, ↓r_X8_weigh_30, ↓r_X8_weigh_32, ↓r_X8_weigh_35, ↓r_X8_weigh_36, ↓r_X8_weigh_38, ↓r_X8_weigh_41, ↓r_X8_weigh_44, ↓r_X8_weigh_45, ↓r_X8_weigh_48, ↓r_X8_weigh_50, ↓r_X8_weigh_52, ↓r_X8_weigh_54, ↓r_X8_weigh_57, ↓r_X8_weigh_59, ↓r_X8_weigh_60, ↓r_X8_weigh_61, ↓r_X8_weigh_62, ↓r_X8_weigh_65, ↓r_X8_weigh_66, ↓r_X8_weigh_68, ↓r_X8_weigh_71, ↓r_X8_weigh_72, ↓r_X8_weigh_75, ↓r_X8_weigh_78, ↓r_X8_weigh_79, ↓r_X8_weigh_81, ↓r_X8_weigh_82, ↓r_X8_weigh_85, ↓r_X8_weigh_87, ↓r_X8_weigh_88, ↓r_X8_weigh_89, ↓r_X8_weigh_91, ↓r_X8_weigh_94, ↓r_X8_weigh_97, ↓r_X8_weigh_99, ↓x2_0, ↓f8_4, ↓x2_1, ↓f7_5, ↓x5_4n, ↓x5_4i, ↓x5_4r, ↓x1_2, ↓f7_7, ↓lf_X8_rowOf, ↓x5_5n, ↓x5_5i, ↓x5_5r, ↓x0, ↓x4_6n, ↓x4_6i, ↓x4_6r, ↓x4_7n, ↓x4_7i, ↓x4_7r, ↓x1_7, ↓x32_3, ↓x1_3, ↓lf_X8_isIn, ↓x31_0, ↓x31b0, ↓f8_6, ↓x2_4, ↓x2_5, ↓f5_0, ↓f8_0, ↓v3_3, ↓v8_3, ↓x1_6, ↓x8, ↓x7_7n, ↓x7_7i, ↓x7_7r, ↓x33, ↓x48_0, ↓l_2, ↓s_2, ↓l_3, ↓s_3, ↓l_4, ↓s_4, ↓l_5, ↓s_5, ↓l_6, ↓s_6, ↓l_7, ↓l_9, ↓s_9, ↓l_10, ↓s_10, ↓l_11, ↓s_11, ↓l_12, ↓l_13, ↓l_15, ↓s_15, ↓l_16, ↓s_16, ↓l_r1, ↓s_r1, ↓l_r2, ↓s_r2, ↓l_w1, ↓s_w1, ↓l_w2, ↓s_w2, and_self, and_true, true_and, implies_true, true_implies, Int.reduceEq, Int.reduceLE, Int.reduceLT, not_true_eq_false, not_false_eq_true, false_implies, RTf_eq]
  exact hl g lm
end
