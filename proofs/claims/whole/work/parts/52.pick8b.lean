/-! ===== picking, in the class: the whole of it ===== -/
def ch8 (M : Mem) (w i : Int) : Set8 := chS (bs (M 5 i)) (M (210 + 3 * w)) (M (209 + 3 * w) 2).toNat
/-- the set of which one is picked, as a number -/
def chI (M : Mem) (w i : Int) : Int := if ian (M 5 i) (ixo (rsN (M (210 + 3 * w)) (M (209 + 3 * w) 2).toNat) (-1)) = 0 then M 5 i else ian (M 5 i) (ixo (rsN (M (210 + 3 * w)) (M (209 + 3 * w) 2).toNat) (-1))
def d8M (M : Mem) : Mem := up2 (up2 M 14 0 (dnx (M 14 0))) 14 1 (M 14 1 + 1)
def pk8 (M : Mem) (w i : Int) : Int := pkF (ch8 M w i) (wt8 M w i) (if 0 < smv (ch8 M w i) (wt8 M w i) 8 then drw (M 14 0) (smv (ch8 M w i) (wt8 M w i) 8) else -1)
def pk8M (M : Mem) (w i : Int) : Mem := if 0 < smv (ch8 M w i) (wt8 M w i) 8 then d8M (putv M 15 0 (wgV M w i (chI M w i))) else putv M 15 0 (wgV M w i (chI M w i))
def pk9 (M : Mem) (w i : Int) : Int := pkF (ch9 M w i) (wt9 M w i) (if 0 < smv (ch9 M w i) (wt9 M w i) 8 then drw (M 248 11) (smv (ch9 M w i) (wt9 M w i) 8) else -1)
def pk9M (M : Mem) (w i : Int) : Mem := if 0 < smv (ch9 M w i) (wt9 M w i) 8 then d9M M else M
section
variable {E : ET} {S : SCR} {M : Mem}
theorem chI_ok {w i : Int} (hW : CW M) (hw : 0 ≤ w ∧ w < 12) (hi : 0 ≤ i ∧ i < 8) : (0 ≤ chI M w i ∧ chI M w i < 256) ∧ ∀ k, 0 ≤ k → k < 8 → bs (chI M w i) k = ch8 M w i k := by
  obtain ⟨h3, h4, h8, hd, hlo, hhi, hN, hS, hn, hv, hkd, ha⟩ := hW
  have n5 := hN i hi.1 hi.2
  have n2 := hn w hw.1 hw.2
  have hb := rs_bits (s := M 5 i) (v := M (210 + 3 * w)) n5.1 n5.2 (M (209 + 3 * w) 2).toNat (fun j a b => hv w j hw.1 hw.2 a (by omega))
  have hz := bs_zero hb.1.1 hb.1.2
  have hcc := cntb_congr (m := bs (ian (M 5 i) (ixo (rsN (M (210 + 3 * w)) (M (209 + 3 * w) 2).toNat) (-1)))) (m' := stS (bs (M 5 i)) (M (210 + 3 * w)) (M (209 + 3 * w) 2).toNat) 8 (fun k a b => hb.2 k a b)
  rw [hcc] at hz
  have cr := cntb_rng (stS (bs (M 5 i)) (M (210 + 3 * w)) (M (209 + 3 * w) 2).toNat) 8
  unfold chI ch8 chS
  by_cases c : ian (M 5 i) (ixo (rsN (M (210 + 3 * w)) (M (209 + 3 * w) 2).toNat) (-1)) = 0
  · rw [if_pos c, if_neg (by have := hz.1 c; omega)]
    exact ⟨n5, fun k a b => rfl⟩
  · rw [if_neg c, if_pos (by have := fun f => c (hz.2 f); omega)]
    exact ⟨hb.1, fun k a b => hb.2 k a b⟩
theorem l_pick8 {g : GT} {lm : Nat × Nat} {RT : RTy} {w i a3 ch a5 dr : Int} {m : Set8} {wt : Vec} (hch : 0 ≤ ch ∧ ch < 256) (hm : ∀ k, 0 ≤ k → k < 8 → bs ch k = m k) (hwt : ∀ k, 0 ≤ k → k < 8 → m k = true → M 15 k = wt k) (hwr : ∀ k, 0 ≤ k → k < 8 → 0 ≤ wt k ∧ wt k ≤ 1000) (hdr : -1 ≤ dr ∧ dr ≤ 8000) :
    ∀ (n k : Nat), k + n = 8 → RT (some (vi (fi (pkP m wt dr) (k : Int) n))) (toAH S M) → G E g mi_X8_pick 4 lm RT 72 [some (vr 0), some (vr (209 + 3 * w)), some (vi i), some (vi a3), some (vi ch), some (vi a5), some (vi dr), some (vi (smv m wt k)), some (vi (k : Int))] [] (toAH S M) := by
  intro n
  induction n with
  | zero =>
    intro k hk hr
    refine q_X8_pick_72 400 (lfok E (by omega)) ?_
    simp +contextual (disch := first | omega | exact Nat.le_of_ble_eq_true rfl | assumption) only [↓r_X8_pick_0, ↓r_X8_pick_1, ↓r_X8_pick_4, ↓r_X8_pick_7, ↓r_X8_pick_8, ↓r_X8_pick_9, ↓r_X8_pick_10, ↓r_X8_pick_13, ↓r_X8_pick_14, ↓r_X8_pick_15, ↓r_X8_pick_16, ↓r_X8_pick_17, ↓r_X8_pick_18, ↓r_X8_pick_21, ↓r_X8_pick_22, ↓r_X8_pick_25, ↓r_X8_pick_26, ↓r_X8_pick_29, ↓r_X8_pick_32, ↓r_X8_pick_33, ↓r_X8_pick_34, ↓r_X8_pick_36, ↓r_X8_pick_37, ↓r_X8_pick_38, ↓r_X8_pick_39, ↓r_X8_pick_41, ↓r_X8_pick_44, ↓r_X8_pick_46, ↓r_X8_pick_48, ↓r_X8_pick_51, ↓r_X8_pick_52, ↓r_X8_pick_55, ↓r_X8_pick_57, ↓r_X8_pick_60, ↓r_X8_pick_63, ↓r_X8_pick_64, ↓r_X8_pick_66, ↓r_X8_pick_67, ↓r_X8_pick_69, ↓r_X8_pick_70, ↓r_X8_pick_72, ↓r_X8_pick_74, ↓r_X8_pick_76, ↓r_X8_pick_79, ↓r_X8_pick_81, ↓r_X8_pick_83, ↓r_X8_pick_86, ↓r_X8_pick_89, ↓r_X8_pick_91, ↓r_X8_pick_92, ↓r_X8_pick_95, ↓r_X8_pick_97, ↓r_X8_pick_98, ↓r_X8_pick_99, ↓r_X8_pick_101, ↓r_X8_pick_103, ↓r_X8_pick_105, ↓r_X8_pick_108, ↓r_X8_pick_110, ↓r_X8_pick_111, ↓r_X8_pick_114, ↓r_X8_pick_117, ↓r_X8_pick_119, ↓x2_0, ↓f8_0, ↓f3_3, ↓x1_2, ↓x2_1, ↓v7_1, ↓x0, ↓x15, ↓x13, ↓x4_3n, ↓x4_3i, ↓x4_3r, ↓x1_3, ↓x31_0, ↓x31b0, ↓x33, ↓x4_4n, ↓x4_4i, ↓x4_4r, ↓x1_4, ↓v8_4, ↓x4_5n, ↓x4_5i, ↓x4_5r, ↓x1_5, ↓x31_5, ↓f8_5, ↓v0_2, ↓x4_6n, ↓x4_6i, ↓x4_6r, ↓x4_7n, ↓x4_7i, ↓x4_7r, ↓x4_8n, ↓x4_8i, ↓x4_8r, ↓x1_8, ↓x32_3, ↓lf_X8_isIn, ↓x1_7, ↓f8_6, ↓x8, ↓x1_6, ↓x32_5, ↓x48_0, ↓x7_8n, ↓x7_8i, ↓x7_8r, ↓l_2, ↓l_3, ↓l_4, ↓l_5, ↓l_6, ↓l_7, ↓l_9, ↓l_10, ↓l_11, ↓l_12, ↓l_13, ↓l_15, ↓l_16, ↓l_r1, ↓l_r2, ↓l_w1, ↓l_w2, and_self, and_true, true_and, implies_true, true_implies, Int.reduceEq, Int.reduceLE, Int.reduceLT, not_true_eq_false, not_false_eq_true, false_implies, RTf_eq]
    exact ⟨fun _ => hr, fun q => absurd (by omega) q⟩
  | succ n ih =>
    intro k hk hr
    have wr := hwr (k : Int) (by omega) (by omega)
    have sr := smv_rg (m := m) (v := wt) k (fun j a b => hwr j a (by omega))
    have eS : smv m wt (k + 1) = smv m wt k + (if m (k : Int) = true then wt (k : Int) else 0) := rfl
    have ef : fi (pkP m wt dr) (k : Int) (n + 1) = if pkP m wt dr (k : Int) = true then (k : Int) else fi (pkP m wt dr) ((k : Int) + 1) n := rfl
    rw [ef] at hr
    have ih' := ih (k + 1) (by omega)
    have ec : (((k + 1 : Nat)) : Int) = (k : Int) + 1 := by omega
    rw [ec] at ih'
    have em := hm (k : Int) (by omega) (by omega)
    refine q_X8_pick_72 400 (lfok E (by omega)) ?_
    by_cases c : m (k : Int) = true
    · have a1 : b2 (bzd ch (k : Int) = true) = 1 := by
        have : bzd ch (k : Int) = true := by rw [← c, ← em]; rfl
        simp [b2, this]
      have ew := hwt (k : Int) (by omega) (by omega) c
      rw [eS, if_pos c] at ih'
      have e2 : pkP m wt dr (k : Int) = decide (dr < smv m wt k + wt (k : Int)) := by
        unfold pkP
        rw [c, Bool.true_and, Int.toNat_natCast, eS, if_pos c]
      simp +contextual (disch := first | omega | exact Nat.le_of_ble_eq_true rfl | assumption) only [↓r_X8_pick_0, ↓r_X8_pick_1, ↓r_X8_pick_4, ↓r_X8_pick_7, ↓r_X8_pick_8, ↓r_X8_pick_9, ↓r_X8_pick_10, ↓r_X8_pick_13, ↓r_X8_pick_14, ↓r_X8_pick_15, ↓r_X8_pick_16, ↓r_X8_pick_17, ↓r_X8_pick_18, ↓r_X8_pick_21, ↓r_X8_pick_22, ↓r_X8_pick_25, ↓r_X8_pick_26, ↓r_X8_pick_29, ↓r_X8_pick_32, ↓r_X8_pick_33, ↓r_X8_pick_34, ↓r_X8_pick_36, ↓r_X8_pick_37, ↓r_X8_pick_38, ↓r_X8_pick_39, ↓r_X8_pick_41, ↓r_X8_pick_44, ↓r_X8_pick_46, ↓r_X8_pick_48, ↓r_X8_pick_51, ↓r_X8_pick_52, ↓r_X8_pick_55, ↓r_X8_pick_57, ↓r_X8_pick_60, ↓r_X8_pick_63, ↓r_X8_pick_64, ↓r_X8_pick_66, ↓r_X8_pick_67, ↓r_X8_pick_69, ↓r_X8_pick_70, ↓r_X8_pick_72, ↓r_X8_pick_74, ↓r_X8_pick_76, ↓r_X8_pick_79, ↓r_X8_pick_81, ↓r_X8_pick_83, ↓r_X8_pick_86, ↓r_X8_pick_89, ↓r_X8_pick_91, ↓r_X8_pick_92, ↓r_X8_pick_95, ↓r_X8_pick_97, ↓r_X8_pick_98, ↓r_X8_pick_99, ↓r_X8_pick_101, ↓r_X8_pick_103, ↓r_X8_pick_105, ↓r_X8_pick_108, ↓r_X8_pick_110, ↓r_X8_pick_111, ↓r_X8_pick_114, ↓r_X8_pick_117, ↓r_X8_pick_119, ↓x2_0, ↓f8_0, ↓f3_3, ↓x1_2, ↓x2_1, ↓v7_1, ↓x0, ↓x15, ↓x13, ↓x4_3n, ↓x4_3i, ↓x4_3r, ↓x1_3, ↓x31_0, ↓x31b0, ↓x33, ↓x4_4n, ↓x4_4i, ↓x4_4r, ↓x1_4, ↓v8_4, ↓x4_5n, ↓x4_5i, ↓x4_5r, ↓x1_5, ↓x31_5, ↓f8_5, ↓v0_2, ↓x4_6n, ↓x4_6i, ↓x4_6r, ↓x4_7n, ↓x4_7i, ↓x4_7r, ↓x4_8n, ↓x4_8i, ↓x4_8r, ↓x1_8, ↓x32_3, ↓lf_X8_isIn, ↓x1_7, ↓f8_6, ↓x8, ↓x1_6, ↓x32_5, ↓x48_0, ↓x7_8n, ↓x7_8i, ↓x7_8r, ↓l_2, ↓l_3, ↓l_4, ↓l_5, ↓l_6, ↓l_7, ↓l_9, ↓l_10, ↓l_11, ↓l_12, ↓l_13, ↓l_15, ↓l_16, ↓l_r1, ↓l_r2, ↓l_w1, ↓l_w2, and_self, and_true, true_and, implies_true, true_implies, Int.reduceEq, Int.reduceLE, Int.reduceLT, not_true_eq_false, not_false_eq_true, false_implies, RTf_eq, a1, ew]
      refine ⟨fun q => by omega, fun _ => ⟨fun q => ?_, fun q => ?_⟩⟩
      · rw [if_neg (by rw [e2]; simp; omega)] at hr
        exact ih' hr
      · rw [if_pos (by rw [e2]; simp; omega)] at hr
        exact hr
    · have a1 : b2 (bzd ch (k : Int) = true) = 0 := by
        have : ¬ bzd ch (k : Int) = true := by intro f; apply c; rw [← em]; exact f
        simp [b2, this]
      rw [eS, if_neg c, Int.add_zero] at ih'
      have e2 : pkP m wt dr (k : Int) = false := by
        unfold pkP
        simp [c]
      rw [e2] at hr
      simp +contextual (disch := first | omega | exact Nat.le_of_ble_eq_true rfl | assumption) only [↓r_X8_pick_0, ↓r_X8_pick_1, ↓r_X8_pick_4, ↓r_X8_pick_7, ↓r_X8_pick_8, ↓r_X8_pick_9, ↓r_X8_pick_10, ↓r_X8_pick_13, ↓r_X8_pick_14, ↓r_X8_pick_15, ↓r_X8_pick_16, ↓r_X8_pick_17, ↓r_X8_pick_18, ↓r_X8_pick_21, ↓r_X8_pick_22, ↓r_X8_pick_25, ↓r_X8_pick_26, ↓r_X8_pick_29, ↓r_X8_pick_32, ↓r_X8_pick_33, ↓r_X8_pick_34, ↓r_X8_pick_36, ↓r_X8_pick_37, ↓r_X8_pick_38, ↓r_X8_pick_39, ↓r_X8_pick_41, ↓r_X8_pick_44, ↓r_X8_pick_46, ↓r_X8_pick_48, ↓r_X8_pick_51, ↓r_X8_pick_52, ↓r_X8_pick_55, ↓r_X8_pick_57, ↓r_X8_pick_60, ↓r_X8_pick_63, ↓r_X8_pick_64, ↓r_X8_pick_66, ↓r_X8_pick_67, ↓r_X8_pick_69, ↓r_X8_pick_70, ↓r_X8_pick_72, ↓r_X8_pick_74, ↓r_X8_pick_76, ↓r_X8_pick_79, ↓r_X8_pick_81, ↓r_X8_pick_83, ↓r_X8_pick_86, ↓r_X8_pick_89, ↓r_X8_pick_91, ↓r_X8_pick_92, ↓r_X8_pick_95, ↓r_X8_pick_97, ↓r_X8_pick_98, ↓r_X8_pick_99, ↓r_X8_pick_101, ↓r_X8_pick_103, ↓r_X8_pick_105, ↓r_X8_pick_108, ↓r_X8_pick_110, ↓r_X8_pick_111, ↓r_X8_pick_114, ↓r_X8_pick_117, ↓r_X8_pick_119, ↓x2_0, ↓f8_0, ↓f3_3, ↓x1_2, ↓x2_1, ↓v7_1, ↓x0, ↓x15, ↓x13, ↓x4_3n, ↓x4_3i, ↓x4_3r, ↓x1_3, ↓x31_0, ↓x31b0, ↓x33, ↓x4_4n, ↓x4_4i, ↓x4_4r, ↓x1_4, ↓v8_4, ↓x4_5n, ↓x4_5i, ↓x4_5r, ↓x1_5, ↓x31_5, ↓f8_5, ↓v0_2, ↓x4_6n, ↓x4_6i, ↓x4_6r, ↓x4_7n, ↓x4_7i, ↓x4_7r, ↓x4_8n, ↓x4_8i, ↓x4_8r, ↓x1_8, ↓x32_3, ↓lf_X8_isIn, ↓x1_7, ↓f8_6, ↓x8, ↓x1_6, ↓x32_5, ↓x48_0, ↓x7_8n, ↓x7_8i, ↓x7_8r, ↓l_2, ↓l_3, ↓l_4, ↓l_5, ↓l_6, ↓l_7, ↓l_9, ↓l_10, ↓l_11, ↓l_12, ↓l_13, ↓l_15, ↓l_16, ↓l_r1, ↓l_r2, ↓l_w1, ↓l_w2, and_self, and_true, true_and, implies_true, true_implies, Int.reduceEq, Int.reduceLE, Int.reduceLT, not_true_eq_false, not_false_eq_true, false_implies, RTf_eq, a1]
      exact ⟨fun q => by omega, fun _ => ih' hr⟩
theorem c_pick8 {w i : Int} (hW : CW M) (hw : 0 ≤ w ∧ w < 12) (hi : 0 ≤ i ∧ i < 8) : Ctr E 4 81 [vr 0, vr (209 + 3 * w), vi i] (toAH S M) (some (vi (pk8 M w i))) (toAH S (pk8M M w i)) := by
  have hW' := hW
  obtain ⟨h3, h4, h8, hd, hlo, hhi, hN, hS, hn, hv, hkd, ha⟩ := hW'
  have n5 := hN i hi.1 hi.2
  have n2 := hn w hw.1 hw.2
  have cR := c_rememberedSet (E := E) (S := S) (M := M) (w := w) (n := (M (209 + 3 * w) 2).toNat) hw (by omega) (by omega)
  have hb := rs_bits (s := M 5 i) (v := M (210 + 3 * w)) n5.1 n5.2 (M (209 + 3 * w) 2).toNat (fun j a b => hv w j hw.1 hw.2 a (by omega))
  have hC := chI_ok hW hw hi
  have cG := c_weigh (E := E) (S := S) (M := M) (w := w) (i := i) (ch := chI M w i) hW hw hi hC.1
  have eT : smv (bs (chI M w i)) (wt8 M w i) 8 = smv (ch8 M w i) (wt8 M w i) 8 := smv_congr 8 (fun k a b => ⟨hC.2 k a b, fun _ => rfl⟩)
  rw [eT] at cG
  have wr8 := smv_rg (m := ch8 M w i) (v := wt8 M w i) 8 (fun j a b => wt8_rng hW hw hi ⟨a, by omega⟩)
  have eP : pk8 M w i = pkF (ch8 M w i) (wt8 M w i) (if 0 < smv (ch8 M w i) (wt8 M w i) 8 then drw (M 14 0) (smv (ch8 M w i) (wt8 M w i) 8) else -1) := rfl
  have eQ : pk8M M w i = if 0 < smv (ch8 M w i) (wt8 M w i) 8 then d8M (putv M 15 0 (wgV M w i (chI M w i))) else putv M 15 0 (wgV M w i (chI M w i)) := rfl
  have eI : chI M w i = if ian (M 5 i) (ixo (rsN (M (210 + 3 * w)) (M (209 + 3 * w) 2).toNat) (-1)) = 0 then M 5 i else ian (M 5 i) (ixo (rsN (M (210 + 3 * w)) (M (209 + 3 * w) 2).toNat) (-1)) := rfl
  obtain ⟨P, hP⟩ : ∃ P, P = pk8 M w i := ⟨_, rfl⟩
  obtain ⟨Q, hQ⟩ : ∃ Q, Q = pk8M M w i := ⟨_, rfl⟩
  obtain ⟨T, hT⟩ : ∃ T, T = smv (ch8 M w i) (wt8 M w i) 8 := ⟨_, rfl⟩
  obtain ⟨C, hCC⟩ : ∃ C, C = chI M w i := ⟨_, rfl⟩
  obtain ⟨N, hNN⟩ : ∃ N, N = putv M 15 0 (wgV M w i (chI M w i)) := ⟨_, rfl⟩
  obtain ⟨st, hst⟩ : ∃ st, st = ian (M 5 i) (ixo (rsN (M (210 + 3 * w)) (M (209 + 3 * w) 2).toNat) (-1)) := ⟨_, rfl⟩
  rw [← hP, ← hQ]
  rw [← hP, ← hT] at eP
  rw [← hQ, ← hT, ← hNN] at eQ
  rw [← hst, ← hCC] at eI
  rw [← hCC, ← hT] at cG
  rw [← hCC] at hNN
  rw [← hNN] at cG
  rw [← hT] at wr8
  rw [← hCC] at hC
  rw [← hst] at hb
  have n15 : ∀ k, 0 ≤ k → k < 8 → ch8 M w i k = true → N 15 k = wt8 M w i k := fun k a b c => by
    rw [hNN, putv_at0 a b]; unfold wgV; rw [if_pos (by rw [hC.2 k a b]; exact c)]
  have n14 : N 14 0 = M 14 0 := by rw [hNN]; exact putv_ne (by omega)
  have hl := fun g lm a3 => l_pick8 (E := E) (S := S) (M := Q) (g := g) (lm := lm) (RT := RTf (some (vi P)) (toAH S Q)) (w := w) (i := i) (a3 := a3) (ch := C) (a5 := T) (dr := if 0 < T then drw (M 14 0) T else -1) (m := ch8 M w i) (wt := wt8 M w i) hC.1 hC.2 (fun k a b c => by
      rw [← n15 k a b c, eQ]
      by_cases z : 0 < T
      · rw [if_pos z]; unfold d8M; rw [up2_other (by omega), up2_other (by omega)]
      · rw [if_neg z]) (fun k a b => wt8_rng hW hw hi ⟨a, b⟩) (by
      by_cases z : 0 < T
      · rw [if_pos z]; have := drw_rng (s := M 14 0) z; omega
      · rw [if_neg z]; omega) 8 0 (by omega) (by rw [eP]; exact ⟨rfl, rfl⟩)
  have cD := c_draw0 (E := E) (S := S) (M := N) (n := T) (by omega)
  rw [n14] at cD
  refine Ctr_f mi_X8_pick mo_X8_pick (Nat.le_of_ble_eq_true rfl) ⟨Nat.le_refl _, Nat.le_refl _⟩ (fun g lm => ?_)
  rw [show entL mi_X8_pick.2.2.1 [vr 0, vr (209 + 3 * w), vi i] = [some (vr 0), some (vr (209 + 3 * w)), some (vi i), none, none, none, none, none, none] from rfl]
  refine e_X8_pick 400 (lfok E (by omega)) ?_
  simp +contextual (disch := first | omega | exact Nat.le_of_ble_eq_true rfl | assumption) only [↓r_X8_pick_0, ↓r_X8_pick_1, ↓r_X8_pick_4, ↓r_X8_pick_7, ↓r_X8_pick_8, ↓r_X8_pick_9, ↓r_X8_pick_10, ↓r_X8_pick_13, ↓r_X8_pick_14, ↓r_X8_pick_15, ↓r_X8_pick_16, ↓r_X8_pick_17, ↓r_X8_pick_18, ↓r_X8_pick_21, ↓r_X8_pick_22, ↓r_X8_pick_25, ↓r_X8_pick_26, ↓r_X8_pick_29, ↓r_X8_pick_32, ↓r_X8_pick_33, ↓r_X8_pick_34, ↓r_X8_pick_36, ↓r_X8_pick_37, ↓r_X8_pick_38, ↓r_X8_pick_39, ↓r_X8_pick_41, ↓r_X8_pick_44, ↓r_X8_pick_46, ↓r_X8_pick_48, ↓r_X8_pick_51, ↓r_X8_pick_52, ↓r_X8_pick_55, ↓r_X8_pick_57, ↓r_X8_pick_60, ↓r_X8_pick_63, ↓r_X8_pick_64, ↓r_X8_pick_66, ↓r_X8_pick_67, ↓r_X8_pick_69, ↓r_X8_pick_70, ↓r_X8_pick_72, ↓r_X8_pick_74, ↓r_X8_pick_76, ↓r_X8_pick_79, ↓r_X8_pick_81, ↓r_X8_pick_83, ↓r_X8_pick_86, ↓r_X8_pick_89, ↓r_X8_pick_91, ↓r_X8_pick_92, ↓r_X8_pick_95, ↓r_X8_pick_97, ↓r_X8_pick_98, ↓r_X8_pick_99, ↓r_X8_pick_101, ↓r_X8_pick_103, ↓r_X8_pick_105, ↓r_X8_pick_108, ↓r_X8_pick_110, ↓r_X8_pick_111, ↓r_X8_pick_114, ↓r_X8_pick_117, ↓r_X8_pick_119, ↓x2_0, ↓f8_0, ↓f3_3, ↓x1_2, ↓x2_1, ↓v7_1, ↓x0, ↓x15, ↓x13, ↓x4_3n, ↓x4_3i, ↓x4_3r, ↓x1_3, ↓x31_0, ↓x31b0, ↓x33, ↓x4_4n, ↓x4_4i, ↓x4_4r, ↓x1_4, ↓v8_4, ↓x4_5n, ↓x4_5i, ↓x4_5r, ↓x1_5, ↓x31_5, ↓f8_5, ↓v0_2, ↓x4_6n, ↓x4_6i, ↓x4_6r, ↓x4_7n, ↓x4_7i, ↓x4_7r, ↓x4_8n, ↓x4_8i, ↓x4_8r, ↓x1_8, ↓x32_3, ↓lf_X8_isIn, ↓x1_7, ↓f8_6, ↓x8, ↓x1_6, ↓x32_5, ↓x48_0, ↓x7_8n, ↓x7_8i, ↓x7_8r, ↓l_2, ↓l_3, ↓l_4, ↓l_5, ↓l_6, ↓l_7, ↓l_9, ↓l_10, ↓l_11, ↓l_12, ↓l_13, ↓l_15, ↓l_16, ↓l_r1, ↓l_r2, ↓l_w1, ↓l_w2, and_self, and_true, true_and, implies_true, true_implies, Int.reduceEq, Int.reduceLE, Int.reduceLT, not_true_eq_false, not_false_eq_true, false_implies, RTf_eq]
  refine ck_r cR (by omega) (by simp) ?_
  simp +contextual (disch := first | omega | exact Nat.le_of_ble_eq_true rfl | assumption) only [↓r_X8_pick_0, ↓r_X8_pick_1, ↓r_X8_pick_4, ↓r_X8_pick_7, ↓r_X8_pick_8, ↓r_X8_pick_9, ↓r_X8_pick_10, ↓r_X8_pick_13, ↓r_X8_pick_14, ↓r_X8_pick_15, ↓r_X8_pick_16, ↓r_X8_pick_17, ↓r_X8_pick_18, ↓r_X8_pick_21, ↓r_X8_pick_22, ↓r_X8_pick_25, ↓r_X8_pick_26, ↓r_X8_pick_29, ↓r_X8_pick_32, ↓r_X8_pick_33, ↓r_X8_pick_34, ↓r_X8_pick_36, ↓r_X8_pick_37, ↓r_X8_pick_38, ↓r_X8_pick_39, ↓r_X8_pick_41, ↓r_X8_pick_44, ↓r_X8_pick_46, ↓r_X8_pick_48, ↓r_X8_pick_51, ↓r_X8_pick_52, ↓r_X8_pick_55, ↓r_X8_pick_57, ↓r_X8_pick_60, ↓r_X8_pick_63, ↓r_X8_pick_64, ↓r_X8_pick_66, ↓r_X8_pick_67, ↓r_X8_pick_69, ↓r_X8_pick_70, ↓r_X8_pick_72, ↓r_X8_pick_74, ↓r_X8_pick_76, ↓r_X8_pick_79, ↓r_X8_pick_81, ↓r_X8_pick_83, ↓r_X8_pick_86, ↓r_X8_pick_89, ↓r_X8_pick_91, ↓r_X8_pick_92, ↓r_X8_pick_95, ↓r_X8_pick_97, ↓r_X8_pick_98, ↓r_X8_pick_99, ↓r_X8_pick_101, ↓r_X8_pick_103, ↓r_X8_pick_105, ↓r_X8_pick_108, ↓r_X8_pick_110, ↓r_X8_pick_111, ↓r_X8_pick_114, ↓r_X8_pick_117, ↓r_X8_pick_119, ↓x2_0, ↓f8_0, ↓f3_3, ↓x1_2, ↓x2_1, ↓v7_1, ↓x0, ↓x15, ↓x13, ↓x4_3n, ↓x4_3i, ↓x4_3r, ↓x1_3, ↓x31_0, ↓x31b0, ↓x33, ↓x4_4n, ↓x4_4i, ↓x4_4r, ↓x1_4, ↓v8_4, ↓x4_5n, ↓x4_5i, ↓x4_5r, ↓x1_5, ↓x31_5, ↓f8_5, ↓v0_2, ↓x4_6n, ↓x4_6i, ↓x4_6r, ↓x4_7n, ↓x4_7i, ↓x4_7r, ↓x4_8n, ↓x4_8i, ↓x4_8r, ↓x1_8, ↓x32_3, ↓lf_X8_isIn, ↓x1_7, ↓f8_6, ↓x8, ↓x1_6, ↓x32_5, ↓x48_0, ↓x7_8n, ↓x7_8i, ↓x7_8r, ↓l_2, ↓l_3, ↓l_4, ↓l_5, ↓l_6, ↓l_7, ↓l_9, ↓l_10, ↓l_11, ↓l_12, ↓l_13, ↓l_15, ↓l_16, ↓l_r1, ↓l_r2, ↓l_w1, ↓l_w2, and_self, and_true, true_and, implies_true, true_implies, Int.reduceEq, Int.reduceLE, Int.reduceLT, not_true_eq_false, not_false_eq_true, false_implies, RTf_eq, ← hst]
  have fin : ∀ (n : Nat) (a3 : Int), run E g mi_X8_pick 4 lm (RTf (some (vi P)) (toAH S Q)) lfF pm_X8_pick (n + 100) 44 [some (vr 0), some (vr (209 + 3 * w)), some (vi i), some (vi a3), some (vi C), none, none, none, none] [vi T] (toAH S N) := by
    intro n a3
    by_cases z : 0 < T
    · rw [if_pos z, if_pos z] at cD
      rw [if_pos z] at eQ
      have hl' := hl g lm a3
      rw [if_pos z] at hl'
      simp +contextual (disch := first | omega | exact Nat.le_of_ble_eq_true rfl | assumption) only [↓r_X8_pick_0, ↓r_X8_pick_1, ↓r_X8_pick_4, ↓r_X8_pick_7, ↓r_X8_pick_8, ↓r_X8_pick_9, ↓r_X8_pick_10, ↓r_X8_pick_13, ↓r_X8_pick_14, ↓r_X8_pick_15, ↓r_X8_pick_16, ↓r_X8_pick_17, ↓r_X8_pick_18, ↓r_X8_pick_21, ↓r_X8_pick_22, ↓r_X8_pick_25, ↓r_X8_pick_26, ↓r_X8_pick_29, ↓r_X8_pick_32, ↓r_X8_pick_33, ↓r_X8_pick_34, ↓r_X8_pick_36, ↓r_X8_pick_37, ↓r_X8_pick_38, ↓r_X8_pick_39, ↓r_X8_pick_41, ↓r_X8_pick_44, ↓r_X8_pick_46, ↓r_X8_pick_48, ↓r_X8_pick_51, ↓r_X8_pick_52, ↓r_X8_pick_55, ↓r_X8_pick_57, ↓r_X8_pick_60, ↓r_X8_pick_63, ↓r_X8_pick_64, ↓r_X8_pick_66, ↓r_X8_pick_67, ↓r_X8_pick_69, ↓r_X8_pick_70, ↓r_X8_pick_72, ↓r_X8_pick_74, ↓r_X8_pick_76, ↓r_X8_pick_79, ↓r_X8_pick_81, ↓r_X8_pick_83, ↓r_X8_pick_86, ↓r_X8_pick_89, ↓r_X8_pick_91, ↓r_X8_pick_92, ↓r_X8_pick_95, ↓r_X8_pick_97, ↓r_X8_pick_98, ↓r_X8_pick_99, ↓r_X8_pick_101, ↓r_X8_pick_103, ↓r_X8_pick_105, ↓r_X8_pick_108, ↓r_X8_pick_110, ↓r_X8_pick_111, ↓r_X8_pick_114, ↓r_X8_pick_117, ↓r_X8_pick_119, ↓x2_0, ↓f8_0, ↓f3_3, ↓x1_2, ↓x2_1, ↓v7_1, ↓x0, ↓x15, ↓x13, ↓x4_3n, ↓x4_3i, ↓x4_3r, ↓x1_3, ↓x31_0, ↓x31b0, ↓x33, ↓x4_4n, ↓x4_4i, ↓x4_4r, ↓x1_4, ↓v8_4, ↓x4_5n, ↓x4_5i, ↓x4_5r, ↓x1_5, ↓x31_5, ↓f8_5, ↓v0_2, ↓x4_6n, ↓x4_6i, ↓x4_6r, ↓x4_7n, ↓x4_7i, ↓x4_7r, ↓x4_8n, ↓x4_8i, ↓x4_8r, ↓x1_8, ↓x32_3, ↓lf_X8_isIn, ↓x1_7, ↓f8_6, ↓x8, ↓x1_6, ↓x32_5, ↓x48_0, ↓x7_8n, ↓x7_8i, ↓x7_8r, ↓l_2, ↓l_3, ↓l_4, ↓l_5, ↓l_6, ↓l_7, ↓l_9, ↓l_10, ↓l_11, ↓l_12, ↓l_13, ↓l_15, ↓l_16, ↓l_r1, ↓l_r2, ↓l_w1, ↓l_w2, and_self, and_true, true_and, implies_true, true_implies, Int.reduceEq, Int.reduceLE, Int.reduceLT, not_true_eq_false, not_false_eq_true, false_implies, RTf_eq]
      refine ⟨fun f => by omega, fun _ => ?_⟩
      refine ck_r cD (by omega) (by simp) ?_
      simp +contextual (disch := first | omega | exact Nat.le_of_ble_eq_true rfl | assumption) only [↓r_X8_pick_0, ↓r_X8_pick_1, ↓r_X8_pick_4, ↓r_X8_pick_7, ↓r_X8_pick_8, ↓r_X8_pick_9, ↓r_X8_pick_10, ↓r_X8_pick_13, ↓r_X8_pick_14, ↓r_X8_pick_15, ↓r_X8_pick_16, ↓r_X8_pick_17, ↓r_X8_pick_18, ↓r_X8_pick_21, ↓r_X8_pick_22, ↓r_X8_pick_25, ↓r_X8_pick_26, ↓r_X8_pick_29, ↓r_X8_pick_32, ↓r_X8_pick_33, ↓r_X8_pick_34, ↓r_X8_pick_36, ↓r_X8_pick_37, ↓r_X8_pick_38, ↓r_X8_pick_39, ↓r_X8_pick_41, ↓r_X8_pick_44, ↓r_X8_pick_46, ↓r_X8_pick_48, ↓r_X8_pick_51, ↓r_X8_pick_52, ↓r_X8_pick_55, ↓r_X8_pick_57, ↓r_X8_pick_60, ↓r_X8_pick_63, ↓r_X8_pick_64, ↓r_X8_pick_66, ↓r_X8_pick_67, ↓r_X8_pick_69, ↓r_X8_pick_70, ↓r_X8_pick_72, ↓r_X8_pick_74, ↓r_X8_pick_76, ↓r_X8_pick_79, ↓r_X8_pick_81, ↓r_X8_pick_83, ↓r_X8_pick_86, ↓r_X8_pick_89, ↓r_X8_pick_91, ↓r_X8_pick_92, ↓r_X8_pick_95, ↓r_X8_pick_97, ↓r_X8_pick_98, ↓r_X8_pick_99, ↓r_X8_pick_101, ↓r_X8_pick_103, ↓r_X8_pick_105, ↓r_X8_pick_108, ↓r_X8_pick_110, ↓r_X8_pick_111, ↓r_X8_pick_114, ↓r_X8_pick_117, ↓r_X8_pick_119, ↓x2_0, ↓f8_0, ↓f3_3, ↓x1_2, ↓x2_1, ↓v7_1, ↓x0, ↓x15, ↓x13, ↓x4_3n, ↓x4_3i, ↓x4_3r, ↓x1_3, ↓x31_0, ↓x31b0, ↓x33, ↓x4_4n, ↓x4_4i, ↓x4_4r, ↓x1_4, ↓v8_4, ↓x4_5n, ↓x4_5i, ↓x4_5r, ↓x1_5, ↓x31_5, ↓f8_5, ↓v0_2, ↓x4_6n, ↓x4_6i, ↓x4_6r, ↓x4_7n, ↓x4_7i, ↓x4_7r, ↓x4_8n, ↓x4_8i, ↓x4_8r, ↓x1_8, ↓x32_3, ↓lf_X8_isIn, ↓x1_7, ↓f8_6, ↓x8, ↓x1_6, ↓x32_5, ↓x48_0, ↓x7_8n, ↓x7_8i, ↓x7_8r, ↓l_2, ↓l_3, ↓l_4, ↓l_5, ↓l_6, ↓l_7, ↓l_9, ↓l_10, ↓l_11, ↓l_12, ↓l_13, ↓l_15, ↓l_16, ↓l_r1, ↓l_r2, ↓l_w1, ↓l_w2, and_self, and_true, true_and, implies_true, true_implies, Int.reduceEq, Int.reduceLE, Int.reduceLT, not_true_eq_false, not_false_eq_true, false_implies, RTf_eq]
      rw [show up2 (up2 N 14 0 (dnx (M 14 0))) 14 1 (N 14 1 + 1) = Q from by rw [eQ]; unfold d8M; rw [n14]]
      exact hl'
    · have hl' := hl g lm a3
      rw [if_neg z] at hl'
      rw [if_neg z] at eQ
      simp +contextual (disch := first | omega | exact Nat.le_of_ble_eq_true rfl | assumption) only [↓r_X8_pick_0, ↓r_X8_pick_1, ↓r_X8_pick_4, ↓r_X8_pick_7, ↓r_X8_pick_8, ↓r_X8_pick_9, ↓r_X8_pick_10, ↓r_X8_pick_13, ↓r_X8_pick_14, ↓r_X8_pick_15, ↓r_X8_pick_16, ↓r_X8_pick_17, ↓r_X8_pick_18, ↓r_X8_pick_21, ↓r_X8_pick_22, ↓r_X8_pick_25, ↓r_X8_pick_26, ↓r_X8_pick_29, ↓r_X8_pick_32, ↓r_X8_pick_33, ↓r_X8_pick_34, ↓r_X8_pick_36, ↓r_X8_pick_37, ↓r_X8_pick_38, ↓r_X8_pick_39, ↓r_X8_pick_41, ↓r_X8_pick_44, ↓r_X8_pick_46, ↓r_X8_pick_48, ↓r_X8_pick_51, ↓r_X8_pick_52, ↓r_X8_pick_55, ↓r_X8_pick_57, ↓r_X8_pick_60, ↓r_X8_pick_63, ↓r_X8_pick_64, ↓r_X8_pick_66, ↓r_X8_pick_67, ↓r_X8_pick_69, ↓r_X8_pick_70, ↓r_X8_pick_72, ↓r_X8_pick_74, ↓r_X8_pick_76, ↓r_X8_pick_79, ↓r_X8_pick_81, ↓r_X8_pick_83, ↓r_X8_pick_86, ↓r_X8_pick_89, ↓r_X8_pick_91, ↓r_X8_pick_92, ↓r_X8_pick_95, ↓r_X8_pick_97, ↓r_X8_pick_98, ↓r_X8_pick_99, ↓r_X8_pick_101, ↓r_X8_pick_103, ↓r_X8_pick_105, ↓r_X8_pick_108, ↓r_X8_pick_110, ↓r_X8_pick_111, ↓r_X8_pick_114, ↓r_X8_pick_117, ↓r_X8_pick_119, ↓x2_0, ↓f8_0, ↓f3_3, ↓x1_2, ↓x2_1, ↓v7_1, ↓x0, ↓x15, ↓x13, ↓x4_3n, ↓x4_3i, ↓x4_3r, ↓x1_3, ↓x31_0, ↓x31b0, ↓x33, ↓x4_4n, ↓x4_4i, ↓x4_4r, ↓x1_4, ↓v8_4, ↓x4_5n, ↓x4_5i, ↓x4_5r, ↓x1_5, ↓x31_5, ↓f8_5, ↓v0_2, ↓x4_6n, ↓x4_6i, ↓x4_6r, ↓x4_7n, ↓x4_7i, ↓x4_7r, ↓x4_8n, ↓x4_8i, ↓x4_8r, ↓x1_8, ↓x32_3, ↓lf_X8_isIn, ↓x1_7, ↓f8_6, ↓x8, ↓x1_6, ↓x32_5, ↓x48_0, ↓x7_8n, ↓x7_8i, ↓x7_8r, ↓l_2, ↓l_3, ↓l_4, ↓l_5, ↓l_6, ↓l_7, ↓l_9, ↓l_10, ↓l_11, ↓l_12, ↓l_13, ↓l_15, ↓l_16, ↓l_r1, ↓l_r2, ↓l_w1, ↓l_w2, and_self, and_true, true_and, implies_true, true_implies, Int.reduceEq, Int.reduceLE, Int.reduceLT, not_true_eq_false, not_false_eq_true, false_implies, RTf_eq]
      refine ⟨fun _ => ?_, fun f => by omega⟩
      rw [← eQ]
      exact hl'
  refine ⟨fun c => ?_, fun c => ?_⟩
  · rw [if_pos c] at eI
    rw [← eI]
    exact ck_r cG (by omega) (by simp) (fin 276 0)
  · rw [if_neg c] at eI
    rw [← eI]
    exact ck_r cG (by omega) (by simp) (fin 279 C)
end
