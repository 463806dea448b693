/-! ===== lifting a row to its floor ===== -/
def lst (m : Set8) (fl : Int) (v : Vec) : Vec := upv (upv v (grF m v 8) (v (grF m v 8) - (fl - v (loF m v fl 8)))) (loF m v fl 8) fl
def liN (m : Set8) (fl : Int) : Nat → Vec → Vec
  | 0, v => v
  | n + 1, v => if loF m v fl 8 = -9 then v else liN m fl n (lst m fl v)
def liF (m : Set8) (fl : Int) (v : Vec) : Vec := liN m fl 1000 v
/-- a row: shares of a set, nothing below 0, a thousand together -/
def RV (m : Set8) (v : Vec) : Prop := (∀ k : Int, 0 ≤ k → k < 8 → m k = true → 0 ≤ v k ∧ v k ≤ 1000) ∧ (0 < cntb m 8 → smv m v 8 = 1000)
def dfv (m : Set8) (fl : Int) (v : Vec) : Int := smv m (fun k => max 0 (fl - v k)) 8
theorem smv_le {m : Set8} {v : Vec} {x : Int} (hx : 0 ≤ x) : ∀ n : Nat, (∀ k : Int, 0 ≤ k → k < (n : Int) → m k = true → v k ≤ x) → smv m v n ≤ x * (n : Int) := by
  intro n
  induction n with
  | zero => intro _; simp [smv]
  | succ n ih =>
    intro h
    unfold smv
    have h1 := ih (fun k a b c => h k a (by omega) c)
    have e : x * ((n + 1 : Nat) : Int) = x * (n : Int) + x := by
      rw [Int.natCast_add, Int.mul_add]; simp
    rw [e]
    split
    · rename_i hm
      have := h n (by omega) (by omega) hm
      omega
    · omega
theorem lst_ok {m : Set8} {fl : Int} {v : Vec} (hf : 0 ≤ fl ∧ fl ≤ 100) (hv : RV m v) (hl : ¬ loF m v fl 8 = -9) : RV m (lst m fl v) ∧ dfv m fl (lst m fl v) < dfv m fl v ∧ ¬ grF m v 8 = -9 ∧ ¬ grF m v 8 = loF m v fl 8 ∧ (0 ≤ loF m v fl 8 ∧ loF m v fl 8 < 8) ∧ (0 ≤ grF m v 8 ∧ grF m v 8 < 8) ∧ (0 ≤ v (grF m v 8) ∧ v (grF m v 8) ≤ 1000) ∧ (0 ≤ v (loF m v fl 8) ∧ v (loF m v fl 8) < fl) ∧ ∀ k, 0 ≤ k → k < 8 → m k = false → lst m fl v k = v k := by
  rcases loF_rng (m := m) (v := v) (fl := fl) 8 (by omega) with h | h
  · exact absurd h hl
  obtain ⟨l1, l2, l3, l4⟩ := h
  have l0 : 0 ≤ loF m v fl 8 := by omega
  have hmax := grF_max (m := m) (v := v) 8
  have hg0 := hmax (loF m v fl 8) l0 (by omega) l3
  rcases grF_rng m v 8 with h | h
  · exact absurd h hg0.1
  obtain ⟨g1, g2, g3⟩ := h
  have hpos := cntb_pos l0 l3 8 (by omega)
  have hsum := hv.2 hpos
  have hgv := hv.1 _ g1 (by omega) g3
  have hlv := hv.1 _ l0 (by omega) l3
  have hle := smv_le (m := m) (v := v) (x := v (grF m v 8)) hgv.1 8 (fun k a b c => (hmax k a (by omega) c).2)
  have hbig : 125 ≤ v (grF m v 8) := by
    rw [hsum] at hle
    have : v (grF m v 8) * ((8 : Nat) : Int) = v (grF m v 8) * 8 := rfl
    omega
  have hne : ¬ grF m v 8 = loF m v fl 8 := fun q => by rw [q] at hbig; omega
  generalize hlo : loF m v fl 8 = lo at *
  generalize hhi : grF m v 8 = hi at *
  have hlst : lst m fl v = upv (upv v hi (v hi - (fl - v lo))) lo fl := by unfold lst; rw [hlo, hhi]
  rw [hlst]
  have e1 : upv v hi (v hi - (fl - v lo)) lo = v lo := upv_ne (fun q => hne q.symm)
  refine ⟨⟨fun k a b c => ?_, fun _ => ?_⟩, ?_, hg0.1, hne, ⟨l0, l2⟩, ⟨g1, by omega⟩, hgv, ⟨hlv.1, l4⟩, fun k a b c => ?_⟩
  · unfold upv
    split
    · omega
    · split
      · omega
      · exact hv.1 k a b c
  · rw [smv_upv l0, smv_upv g1, e1, if_pos ⟨by omega, g3⟩, if_pos ⟨by omega, l3⟩, hsum]; omega
  · unfold dfv
    have e2 : (fun k => max 0 (fl - upv (upv v hi (v hi - (fl - v lo))) lo fl k)) = upv (upv (fun k => max 0 (fl - v k)) hi (max 0 (fl - (v hi - (fl - v lo))))) lo 0 := by
      funext k
      unfold upv
      split
      · omega
      · split <;> rfl
    have e3 : upv (fun k => max 0 (fl - v k)) hi (max 0 (fl - (v hi - (fl - v lo)))) lo = max 0 (fl - v lo) := upv_ne (fun q => hne q.symm)
    rw [e2, smv_upv l0, smv_upv g1, e3, if_pos ⟨by omega, g3⟩, if_pos ⟨by omega, l3⟩]
    omega
  · unfold upv
    rw [if_neg (fun q => by rw [q, l3] at c; cases c), if_neg (fun q => by rw [q, g3] at c; cases c)]
theorem dfv_nonneg {m : Set8} {fl : Int} {v : Vec} : 0 ≤ dfv m fl v := smv_nonneg 8 (fun k _ _ _ => by omega)
theorem dfv_le {m : Set8} {fl : Int} {v : Vec} (hf : 0 ≤ fl ∧ fl ≤ 100) (hv : RV m v) : dfv m fl v ≤ 800 := by
  have := smv_le (m := m) (v := fun k => max 0 (fl - v k)) (x := 100) (by omega) 8 (fun k a b c => by have := hv.1 k a (by omega) c; omega)
  exact this
theorem liN_ge {m : Set8} {fl : Int} (hf : 0 ≤ fl ∧ fl ≤ 100) : ∀ (n : Nat) (v : Vec), RV m v → dfv m fl v < (n : Int) → liN m fl n v = liN m fl (n + 1) v := by
  intro n
  induction n with
  | zero => intro v hv h; have := dfv_nonneg (m := m) (fl := fl) (v := v); omega
  | succ n ih =>
    intro v hv h
    by_cases hl : loF m v fl 8 = -9
    · simp [liN, hl]
    · have h1 := lst_ok hf hv hl
      show (if loF m v fl 8 = -9 then v else liN m fl n (lst m fl v)) = (if loF m v fl 8 = -9 then v else liN m fl (n + 1) (lst m fl v))
      rw [if_neg hl, if_neg hl]
      exact ih _ h1.1 (by omega)
theorem liF_step {m : Set8} {fl : Int} {v : Vec} (hf : 0 ≤ fl ∧ fl ≤ 100) (hv : RV m v) (hl : ¬ loF m v fl 8 = -9) : liF m fl v = liF m fl (lst m fl v) := by
  have h1 := lst_ok hf hv hl
  have h2 := dfv_le hf hv
  have e : liF m fl v = liN m fl 999 (lst m fl v) := by
    show (if loF m v fl 8 = -9 then v else liN m fl 999 (lst m fl v)) = _
    rw [if_neg hl]
  rw [e]
  exact liN_ge hf 999 _ h1.1 (by omega)
theorem liF_end {m : Set8} {fl : Int} {v : Vec} (hl : loF m v fl 8 = -9) : liF m fl v = v := by
  show (if loF m v fl 8 = -9 then v else _) = v
  rw [if_pos hl]
theorem liF_ok {m : Set8} {fl : Int} (hf : 0 ≤ fl ∧ fl ≤ 100) : ∀ (n : Nat) (v : Vec), RV m v → dfv m fl v < (n : Int) → RV m (liF m fl v) ∧ ∀ k, 0 ≤ k → k < 8 → m k = false → liF m fl v k = v k := by
  intro n
  induction n with
  | zero => intro v hv h; have := dfv_nonneg (m := m) (fl := fl) (v := v); omega
  | succ n ih =>
    intro v hv h
    by_cases hl : loF m v fl 8 = -9
    · rw [liF_end hl]; exact ⟨hv, fun k _ _ _ => rfl⟩
    · have h1 := lst_ok hf hv hl
      rw [liF_step hf hv hl]
      have h2 := ih _ h1.1 (by omega)
      exact ⟨h2.1, fun k a b c => by rw [h2.2 k a b c]; exact h1.2.2.2.2.2.2.2.2 k a b c⟩
def eqv (m : Set8) (v v' : Vec) : Prop := ∀ k : Int, 0 ≤ k → k < 8 → m k = true → v k = v' k
theorem RV_congr {m m' : Set8} {v v' : Vec} (hm : ∀ k : Int, 0 ≤ k → k < 8 → m k = m' k) (he : eqv m v v') (hv : RV m v) : RV m' v' := by
  refine ⟨fun k a b c => ?_, fun h => ?_⟩
  · rw [← hm k a b] at c
    rw [← he k a b c]
    exact hv.1 k a b c
  · rw [← cntb_congr (m := m) (m' := m') 8 hm] at h
    rw [← smv_congr (m := m) (m' := m') (v := v) (v' := v') 8 (fun k a b => ⟨hm k a b, he k a b⟩)]
    exact hv.2 h
theorem liN_congr {m m' : Set8} {fl : Int} (hm : ∀ k : Int, 0 ≤ k → k < 8 → m k = m' k) : ∀ (n : Nat) (v v' : Vec), eqv m v v' → eqv m (liN m fl n v) (liN m' fl n v') := by
  intro n
  induction n with
  | zero => intro v v' h; exact h
  | succ n ih =>
    intro v v' h
    have hlo := loF_congr (m := m) (m' := m') (v := v) (v' := v') (fl := fl) 8 (by omega) (fun k a b => ⟨hm k a b, h k a b⟩)
    have hgr := grF_congr (m := m) (m' := m') (v := v) (v' := v') 8 (fun k a b => ⟨hm k a b, h k a b⟩)
    show eqv m (if loF m v fl 8 = -9 then v else liN m fl n (lst m fl v)) (if loF m' v' fl 8 = -9 then v' else liN m' fl n (lst m' fl v'))
    rw [← hlo]
    by_cases hl : loF m v fl 8 = -9
    · rw [if_pos hl, if_pos hl]; exact h
    · rw [if_neg hl, if_neg hl]
      refine ih _ _ ?_
      intro k a b c
      unfold lst
      rw [← hlo, ← hgr]
      have h1 : v (loF m v fl 8) = v' (loF m v fl 8) := by
        rcases loF_rng (m := m) (v := v) (fl := fl) 8 (by omega) with q | q
        · exact absurd q hl
        · exact h _ (by omega) q.2.1 q.2.2.1
      unfold upv
      split
      · rfl
      · split
        · rename_i hk
          rw [← hk, h k a b c, h1]
        · exact h k a b c
section
variable {E : ET} {S : SCR} {M : Mem}
theorem bs_congrP {s : Int} {c : Int} {v : Vec} : ∀ k : Int, 0 ≤ k → k < 8 → bs s k = bs s k ∧ (bs s k = true → putv M c 0 v c k = v k) := fun k h1 h2 => ⟨rfl, fun _ => putv_at0 h1 h2⟩
theorem l_lift5 {g : GT} {lm : Nat × Nat} {RT : RTy} {r s fl : Int} (hr0 : 0 ≤ r ∧ r < 64) (es : s = M (17 + 3 * r) 2) (hs : 0 ≤ s ∧ s < 256) (hf : 0 ≤ fl ∧ fl ≤ 100) :
    ∀ (n j : Nat) (v : Vec) (u3 u4 : Option AV), dfv (bs s) fl v < (n : Int) → j + n ≤ 1000 → RV (bs s) v → (∀ k, 0 ≤ k → k < 8 → rg (v k)) → (u3 = none ∨ ∃ z, u3 = some (vi z)) → (u4 = none ∨ ∃ z, u4 = some (vi z)) → RT none (toAH S (putv M (18 + 3 * r) 0 (liF (bs s) fl v))) →
    G E g mi_X5_lift 3 lm RT 2 [some (vr (17 + 3 * r)), some (vi fl), some (vi (j : Int)), u3, u4] [] (toAH S (putv M (18 + 3 * r) 0 v)) := by
  intro n
  induction n with
  | zero => intro j v u3 u4 h; have := dfv_nonneg (m := bs s) (fl := fl) (v := v); omega
  | succ n ih =>
    intro j v u3 u4 hdf hj hv hrg hu3 hu4 hr
    have en : putv M (18 + 3 * r) 0 v (17 + 3 * r) 2 = s := by rw [putv_ne (by omega)]; exact es.symm
    have elo := loF_congr (m := bs s) (m' := bs s) (v := putv M (18 + 3 * r) 0 v (18 + 3 * r)) (v' := v) (fl := fl) 8 (by omega) bs_congrP
    have egr := grF_congr (m := bs s) (m' := bs s) (v := putv M (18 + 3 * r) 0 v (18 + 3 * r)) (v' := v) 8 bs_congrP
    have hlo := loF_rng (m := bs s) (v := v) (fl := fl) 8 (by omega)
    have hgr := grF_rng (bs s) v 8
    have hvN : ∀ k, 0 ≤ k → k < 8 → rg (putv M (18 + 3 * r) 0 v (18 + 3 * r) k) := fun k a b => by rw [putv_at0 a b]; exact hrg k a b
    refine q_X5_lift_2 400 (lfok E (by omega)) ?_
    simp +contextual (disch := first | omega | exact Nat.le_of_ble_eq_true rfl | assumption) only [↓r_X5_lift_0, ↓r_X5_lift_1, ↓r_X5_lift_2, ↓r_X5_lift_3, ↓r_X5_lift_6, ↓r_X5_lift_9, ↓r_X5_lift_10, ↓r_X5_lift_11, ↓r_X5_lift_14, ↓r_X5_lift_15, ↓r_X5_lift_16, ↓r_X5_lift_19, ↓r_X5_lift_21, ↓r_X5_lift_22, ↓r_X5_lift_24, ↓r_X5_lift_27, ↓r_X5_lift_29, ↓r_X5_lift_31, ↓r_X5_lift_34, ↓r_X5_lift_35, ↓r_X5_lift_36, ↓r_X5_lift_39, ↓r_X5_lift_41, ↓r_X5_lift_42, ↓r_X5_lift_43, ↓r_X5_lift_44, ↓r_X5_lift_45, ↓r_X5_lift_48, ↓r_X5_lift_49, ↓r_X5_lift_50, ↓r_X5_lift_51, ↓r_X5_lift_52, ↓r_X5_lift_53, ↓r_X5_lift_54, ↓r_X5_lift_57, ↓r_X5_lift_58, ↓r_X5_lift_59, ↓r_X5_lift_60, ↓r_X5_lift_63, ↓r_X5_lift_66, ↓x0, ↓x4_2n, ↓x4_2i, ↓x4_2r, ↓x1_2, ↓x32_3, ↓x2_0, ↓x1_1, ↓v5_2, ↓x4_3n, ↓x4_3i, ↓x4_3r, ↓v5_1, ↓x4_4n, ↓x4_4i, ↓x4_4r, ↓x1_3, ↓x32_0, ↓x1_4, ↓x32_1, ↓x48_4, ↓f5_0, ↓x29, ↓x9, ↓x7_2n, ↓x7_2i, ↓x7_2r, ↓x33, ↓l_2, ↓s_2, ↓l_3, ↓s_3, ↓l_4, ↓s_4, ↓l_5, ↓s_5, ↓l_6, ↓s_6, ↓l_7, ↓l_9, ↓s_9, ↓l_10, ↓s_10, ↓l_11, ↓s_11, ↓l_12, ↓l_13, ↓l_15, ↓s_15, ↓l_16, ↓s_16, ↓l_r1, ↓s_r1, ↓l_r2, ↓s_r2, ↓l_w1, ↓s_w1, ↓l_w2, ↓s_w2, and_self, and_true, true_and, implies_true, true_implies, Int.reduceEq, Int.reduceLE, Int.reduceLT, not_true_eq_false, not_false_eq_true, false_implies, RTf_eq]
    refine ⟨fun q => by omega, fun _ => ?_⟩
    refine ck_r (c_leastBelow hr0 (by rw [en]; exact hs) hvN (by omega)) (by omega) (by simp) ?_
    rw [en, elo]
    rcases hu3 with rfl | ⟨z3, rfl⟩ <;> rcases hu4 with rfl | ⟨z4, rfl⟩
    all_goals
      simp +contextual (disch := first | omega | exact Nat.le_of_ble_eq_true rfl | assumption) only [↓r_X5_lift_0, ↓r_X5_lift_1, ↓r_X5_lift_2, ↓r_X5_lift_3, ↓r_X5_lift_6, ↓r_X5_lift_9, ↓r_X5_lift_10, ↓r_X5_lift_11, ↓r_X5_lift_14, ↓r_X5_lift_15, ↓r_X5_lift_16, ↓r_X5_lift_19, ↓r_X5_lift_21, ↓r_X5_lift_22, ↓r_X5_lift_24, ↓r_X5_lift_27, ↓r_X5_lift_29, ↓r_X5_lift_31, ↓r_X5_lift_34, ↓r_X5_lift_35, ↓r_X5_lift_36, ↓r_X5_lift_39, ↓r_X5_lift_41, ↓r_X5_lift_42, ↓r_X5_lift_43, ↓r_X5_lift_44, ↓r_X5_lift_45, ↓r_X5_lift_48, ↓r_X5_lift_49, ↓r_X5_lift_50, ↓r_X5_lift_51, ↓r_X5_lift_52, ↓r_X5_lift_53, ↓r_X5_lift_54, ↓r_X5_lift_57, ↓r_X5_lift_58, ↓r_X5_lift_59, ↓r_X5_lift_60, ↓r_X5_lift_63, ↓r_X5_lift_66, ↓x0, ↓x4_2n, ↓x4_2i, ↓x4_2r, ↓x1_2, ↓x32_3, ↓x2_0, ↓x1_1, ↓v5_2, ↓x4_3n, ↓x4_3i, ↓x4_3r, ↓v5_1, ↓x4_4n, ↓x4_4i, ↓x4_4r, ↓x1_3, ↓x32_0, ↓x1_4, ↓x32_1, ↓x48_4, ↓f5_0, ↓x29, ↓x9, ↓x7_2n, ↓x7_2i, ↓x7_2r, ↓x33, ↓l_2, ↓s_2, ↓l_3, ↓s_3, ↓l_4, ↓s_4, ↓l_5, ↓s_5, ↓l_6, ↓s_6, ↓l_7, ↓l_9, ↓s_9, ↓l_10, ↓s_10, ↓l_11, ↓s_11, ↓l_12, ↓l_13, ↓l_15, ↓s_15, ↓l_16, ↓s_16, ↓l_r1, ↓s_r1, ↓l_r2, ↓s_r2, ↓l_w1, ↓s_w1, ↓l_w2, ↓s_w2, and_self, and_true, true_and, implies_true, true_implies, Int.reduceEq, Int.reduceLE, Int.reduceLT, not_true_eq_false, not_false_eq_true, false_implies, RTf_eq]
      refine ck_r (c_greatest5 hr0 (by rw [en]; exact hs) hvN) (by omega) (by simp) ?_
      rw [en, egr]
      simp +contextual (disch := first | omega | exact Nat.le_of_ble_eq_true rfl | assumption) only [↓r_X5_lift_0, ↓r_X5_lift_1, ↓r_X5_lift_2, ↓r_X5_lift_3, ↓r_X5_lift_6, ↓r_X5_lift_9, ↓r_X5_lift_10, ↓r_X5_lift_11, ↓r_X5_lift_14, ↓r_X5_lift_15, ↓r_X5_lift_16, ↓r_X5_lift_19, ↓r_X5_lift_21, ↓r_X5_lift_22, ↓r_X5_lift_24, ↓r_X5_lift_27, ↓r_X5_lift_29, ↓r_X5_lift_31, ↓r_X5_lift_34, ↓r_X5_lift_35, ↓r_X5_lift_36, ↓r_X5_lift_39, ↓r_X5_lift_41, ↓r_X5_lift_42, ↓r_X5_lift_43, ↓r_X5_lift_44, ↓r_X5_lift_45, ↓r_X5_lift_48, ↓r_X5_lift_49, ↓r_X5_lift_50, ↓r_X5_lift_51, ↓r_X5_lift_52, ↓r_X5_lift_53, ↓r_X5_lift_54, ↓r_X5_lift_57, ↓r_X5_lift_58, ↓r_X5_lift_59, ↓r_X5_lift_60, ↓r_X5_lift_63, ↓r_X5_lift_66, ↓x0, ↓x4_2n, ↓x4_2i, ↓x4_2r, ↓x1_2, ↓x32_3, ↓x2_0, ↓x1_1, ↓v5_2, ↓x4_3n, ↓x4_3i, ↓x4_3r, ↓v5_1, ↓x4_4n, ↓x4_4i, ↓x4_4r, ↓x1_3, ↓x32_0, ↓x1_4, ↓x32_1, ↓x48_4, ↓f5_0, ↓x29, ↓x9, ↓x7_2n, ↓x7_2i, ↓x7_2r, ↓x33, ↓l_2, ↓s_2, ↓l_3, ↓s_3, ↓l_4, ↓s_4, ↓l_5, ↓s_5, ↓l_6, ↓s_6, ↓l_7, ↓l_9, ↓s_9, ↓l_10, ↓s_10, ↓l_11, ↓s_11, ↓l_12, ↓l_13, ↓l_15, ↓s_15, ↓l_16, ↓s_16, ↓l_r1, ↓s_r1, ↓l_r2, ↓s_r2, ↓l_w1, ↓s_w1, ↓l_w2, ↓s_w2, and_self, and_true, true_and, implies_true, true_implies, Int.reduceEq, Int.reduceLE, Int.reduceLT, not_true_eq_false, not_false_eq_true, false_implies, RTf_eq]
      refine ⟨fun q => ?_, fun q => ?_⟩
      · rw [liF_end q] at hr
        exact hr
      · have h1 := lst_ok hf hv q
        have e1 : putv M (18 + 3 * r) 0 v (18 + 3 * r) (grF (bs s) v 8) = v (grF (bs s) v 8) := putv_at0 h1.2.2.2.2.2.1.1 h1.2.2.2.2.2.1.2
        have e2 : putv M (18 + 3 * r) 0 v (18 + 3 * r) (loF (bs s) v fl 8) = v (loF (bs s) v fl 8) := putv_at0 h1.2.2.2.2.1.1 h1.2.2.2.2.1.2
        have hi := h1.2.2.2.2.2.1
        have lo := h1.2.2.2.2.1
        refine ⟨fun q2 => ?_, fun q2 => absurd (by simpa using q2) h1.2.2.1⟩
        rw [e1, e2, up2_putv0 hi.1 hi.2, up2_putv0 lo.1 lo.2]
        rw [liF_step hf hv q] at hr
        refine ih (j + 1) (lst (bs s) fl v) _ _ (by omega) (by omega) h1.1 (fun k a b => ?_) (Or.inr ⟨_, rfl⟩) (Or.inr ⟨_, rfl⟩) hr
        unfold lst upv
        split
        · omega
        · split
          · have := h1.2.2.2.2.2.2.1
            have := h1.2.2.2.2.2.2.2.1
            omega
          · exact hrg k a b
theorem c_lift5 {r fl : Int} (hr0 : 0 ≤ r ∧ r < 64) (hs : 0 ≤ M (17 + 3 * r) 2 ∧ M (17 + 3 * r) 2 < 256) (hf : 0 ≤ fl ∧ fl ≤ 100) (hv : RV (bs (M (17 + 3 * r) 2)) (M (18 + 3 * r))) (hrg : ∀ k, 0 ≤ k → k < 8 → rg (M (18 + 3 * r) k)) : Ctr E 3 24 [vr (17 + 3 * r), vi fl] (toAH S M) none (toAH S (putv M (18 + 3 * r) 0 (liF (bs (M (17 + 3 * r) 2)) fl (M (18 + 3 * r))))) := by
  refine Ctr_f mi_X5_lift mo_X5_lift (Nat.le_of_ble_eq_true rfl) ⟨Nat.le_refl _, Nat.le_refl _⟩ (fun g lm => ?_)
  rw [show entL mi_X5_lift.2.2.1 [vr (17 + 3 * r), vi fl] = [some (vr (17 + 3 * r)), some (vi fl), none, none, none] from rfl]
  refine e_X5_lift 400 (lfok E (by omega)) ?_
  simp +contextual (disch := first | omega | exact Nat.le_of_ble_eq_true rfl | assumption) only [↓r_X5_lift_0, ↓r_X5_lift_1, ↓r_X5_lift_2, ↓r_X5_lift_3, ↓r_X5_lift_6, ↓r_X5_lift_9, ↓r_X5_lift_10, ↓r_X5_lift_11, ↓r_X5_lift_14, ↓r_X5_lift_15, ↓r_X5_lift_16, ↓r_X5_lift_19, ↓r_X5_lift_21, ↓r_X5_lift_22, ↓r_X5_lift_24, ↓r_X5_lift_27, ↓r_X5_lift_29, ↓r_X5_lift_31, ↓r_X5_lift_34, ↓r_X5_lift_35, ↓r_X5_lift_36, ↓r_X5_lift_39, ↓r_X5_lift_41, ↓r_X5_lift_42, ↓r_X5_lift_43, ↓r_X5_lift_44, ↓r_X5_lift_45, ↓r_X5_lift_48, ↓r_X5_lift_49, ↓r_X5_lift_50, ↓r_X5_lift_51, ↓r_X5_lift_52, ↓r_X5_lift_53, ↓r_X5_lift_54, ↓r_X5_lift_57, ↓r_X5_lift_58, ↓r_X5_lift_59, ↓r_X5_lift_60, ↓r_X5_lift_63, ↓r_X5_lift_66, ↓x0, ↓x4_2n, ↓x4_2i, ↓x4_2r, ↓x1_2, ↓x32_3, ↓x2_0, ↓x1_1, ↓v5_2, ↓x4_3n, ↓x4_3i, ↓x4_3r, ↓v5_1, ↓x4_4n, ↓x4_4i, ↓x4_4r, ↓x1_3, ↓x32_0, ↓x1_4, ↓x32_1, ↓x48_4, ↓f5_0, ↓x29, ↓x9, ↓x7_2n, ↓x7_2i, ↓x7_2r, ↓x33, ↓l_2, ↓s_2, ↓l_3, ↓s_3, ↓l_4, ↓s_4, ↓l_5, ↓s_5, ↓l_6, ↓s_6, ↓l_7, ↓l_9, ↓s_9, ↓l_10, ↓s_10, ↓l_11, ↓s_11, ↓l_12, ↓l_13, ↓l_15, ↓s_15, ↓l_16, ↓s_16, ↓l_r1, ↓s_r1, ↓l_r2, ↓s_r2, ↓l_w1, ↓s_w1, ↓l_w2, ↓s_w2, and_self, and_true, true_and, implies_true, true_implies, Int.reduceEq, Int.reduceLE, Int.reduceLT, not_true_eq_false, not_false_eq_true, false_implies, RTf_eq]
  have h2 := dfv_le hf hv
  have := l_lift5 (E := E) (S := S) (M := M) (g := g) (lm := lm) (RT := RTf none (toAH S (putv M (18 + 3 * r) 0 (liF (bs (M (17 + 3 * r) 2)) fl (M (18 + 3 * r)))))) hr0 rfl hs hf 1000 0 (M (18 + 3 * r)) none none (by omega) (by omega) hv hrg (Or.inl rfl) (Or.inl rfl) ⟨rfl, rfl⟩
  rw [putv_id (f := M (18 + 3 * r)) (fun k _ _ => by rw [Int.zero_add])] at this
  exact this
end
