/-! ===== sharing out, in the model ===== -/
def amF (rs : Vec) : Nat → Int
  | 0 => 0
  | k + 1 => if rs (amF rs k) < rs (k : Int) then (k : Int) else amF rs k
theorem amF_max (rs : Vec) : ∀ n : Nat, 1 ≤ n → (0 ≤ amF rs n ∧ amF rs n < (n : Int)) ∧ ∀ j : Int, 0 ≤ j → j < (n : Int) → rs j ≤ rs (amF rs n) ∧ (j < amF rs n → rs j < rs (amF rs n)) := by
  intro n
  induction n with
  | zero => intro h; omega
  | succ n ih =>
    intro _
    by_cases hn : n = 0
    · subst hn
      have e : amF rs (0 + 1) = 0 := by simp [amF]
      rw [e]
      refine ⟨by omega, fun j a b => ?_⟩
      have : j = 0 := by omega
      subst this
      exact ⟨Int.le_refl _, fun h => by omega⟩
    · obtain ⟨i1, i2⟩ := ih (by omega)
      unfold amF
      split
      · rename_i h
        refine ⟨by omega, fun j a b => ?_⟩
        by_cases hj : j = (n : Int)
        · subst hj; exact ⟨Int.le_refl _, fun h => by omega⟩
        · have := (i2 j a (by omega)).1
          exact ⟨by omega, fun _ => by omega⟩
      · rename_i h
        refine ⟨by omega, fun j a b => ?_⟩
        by_cases hj : j = (n : Int)
        · subst hj; exact ⟨by omega, fun h2 => by omega⟩
        · exact i2 j a (by omega)
theorem grF_first {m : Set8} {v : Vec} : ∀ (n : Nat) (j : Int), 0 ≤ j → j < (n : Int) → m j = true → j < grF m v n → v j < v (grF m v n) := by
  intro n
  induction n with
  | zero => intro j a b; omega
  | succ n ih =>
    intro j a b c
    unfold grF
    split
    · rename_i h
      intro hj
      rcases h.2 with q | q
      · exact absurd q (grF_max (m := m) (v := v) n j a (by omega) c).1
      · have := (grF_max (m := m) (v := v) n j a (by omega) c).2
        omega
    · intro hj
      rcases grF_rng m v n with q | q
      · omega
      · exact ih j a (by omega) c hj
def pcn (m : Set8) (rs : Vec) : Set8 := fun k => m k && decide (0 ≤ rs k)
theorem cnt_ex {m : Set8} : ∀ n : Nat, 0 < cntb m n → ∃ j : Int, 0 ≤ j ∧ j < (n : Int) ∧ m j = true := by
  intro n
  induction n with
  | zero => intro h; simp [cntb] at h
  | succ n ih =>
    intro h
    unfold cntb at h
    split at h
    · rename_i hm
      exact ⟨n, by omega, by omega, hm⟩
    · obtain ⟨j, a, b, c⟩ := ih (by omega)
      exact ⟨j, a, by omega, c⟩
theorem grF_pos {m : Set8} {rs : Vec} (h : 0 < cntb (pcn m rs) 8) : ((0 ≤ grF m rs 8 ∧ grF m rs 8 < 8) ∧ m (grF m rs 8) = true) ∧ 0 ≤ rs (grF m rs 8) := by
  obtain ⟨j, a, b, c⟩ := cnt_ex 8 h
  simp only [pcn, Bool.and_eq_true, decide_eq_true_eq] at c
  have h1 := grF_max (m := m) (v := rs) 8 j a b c.1
  rcases grF_rng m rs 8 with q | q
  · exact absurd q h1.1
  · exact ⟨⟨⟨q.1, by omega⟩, q.2.2⟩, by omega⟩
theorem am_gr {m : Set8} {rs : Vec} (h : 0 < cntb (pcn m rs) 8) (hn : ∀ k, 0 ≤ k → k < 8 → m k = false → rs k = -1) : amF rs 8 = grF m rs 8 := by
  obtain ⟨⟨hb, hbm⟩, hb0⟩ := grF_pos h
  obtain ⟨ha, hamax⟩ := amF_max rs 8 (by omega)
  have h1 := hamax (grF m rs 8) hb.1 (by omega)
  have ham : m (amF rs 8) = true := by
    by_cases q : m (amF rs 8) = true
    · exact q
    · have := hn _ ha.1 (by omega) (by simpa using q)
      omega
  have h2 := (grF_max (m := m) (v := rs) 8 (amF rs 8) ha.1 (by omega) ham).2
  by_cases h3 : amF rs 8 < grF m rs 8
  · have := grF_first (m := m) (v := rs) 8 (amF rs 8) ha.1 (by omega) ham h3
    omega
  · by_cases h4 : grF m rs 8 < amF rs 8
    · have := h1.2 h4
      omega
    · omega
theorem gvN_pc {m : Set8} {x : Vec × Vec} (hx : ∀ k, 0 ≤ k → k < 8 → m k = true → 0 ≤ x.2 k) : ∀ t : Nat, (t : Int) ≤ cntb m 8 → cntb (pcn m (gvN m t x).2) 8 = cntb m 8 - (t : Int) := by
  intro t
  induction t with
  | zero =>
    intro _
    rw [cntb_congr (m := pcn m (gvN m 0 x).2) (m' := m) 8 (fun k a b => ?_)]
    · omega
    · unfold pcn
      by_cases h : m k = true
      · simp [h, gvN, hx k a b h]
      · simp [h]
  | succ t ih =>
    intro ht
    have i1 := ih (by omega)
    have hg := grF_pos (m := m) (rs := (gvN m t x).2) (by omega)
    have e : gvN m (t + 1) x = gv m (gvN m t x) := rfl
    rw [e]
    unfold gv
    generalize grF m (gvN m t x).2 8 = b at hg
    have e2 : cntb (pcn m (upv (gvN m t x).2 b (-1))) 8 = cntb (wob (pcn m (gvN m t x).2) b) 8 := cntb_congr 8 (fun k a c => by
      unfold pcn wob upv
      by_cases h : k = b
      · simp [h]
      · simp [h])
    show cntb (pcn m (upv (gvN m t x).2 b (-1))) 8 = _
    have hpb : pcn m (gvN m t x).2 b = true := by simp [pcn, hg.1.2, hg.2]
    rw [e2, cnt_wob hg.1.1.1, if_pos ⟨by omega, hpb⟩, i1]
    omega
theorem gvN_non {m : Set8} {x : Vec × Vec} (hc : 0 < cntb m 8) : ∀ t : Nat, ∀ k, m k = false → (gvN m t x).2 k = x.2 k := by
  intro t
  induction t with
  | zero => intro k _; rfl
  | succ t ih =>
    intro k hk
    have hg := grF_in (m := m) (v := (gvN m t x).2) hc
    have e : gvN m (t + 1) x = gv m (gvN m t x) := rfl
    rw [e]
    unfold gv
    show upv _ _ _ k = _
    rw [upv_ne (fun q => by rw [q, hg.2] at hk; cases hk)]
    exact ih k hk
def s9M (M : Mem) (row : Int) (x : Vec × Vec) : Mem := putv (putv M 254 row x.1) 256 0 x.2
section
variable {E : ET} {S : SCR} {M : Mem}
theorem s9_254 {row : Int} {x : Vec × Vec} {k : Int} (h1 : 0 ≤ k) (h2 : k < 8) : s9M M row x 254 (row + k) = x.1 k := by
  unfold s9M
  rw [putv_ne (by omega), putv_at h1 h2]
theorem s9_256 {row : Int} {x : Vec × Vec} {k : Int} (h1 : 0 ≤ k) (h2 : k < 8) : s9M M row x 256 k = x.2 k := by
  unfold s9M
  rw [putv_at0 h1 h2]
theorem s9_ne {row c z : Int} {x : Vec × Vec} (h1 : c ≠ 254) (h2 : c ≠ 256) : s9M M row x c z = M c z := by
  unfold s9M
  rw [putv_ne h2, putv_ne h1]
theorem s9_u1 {row k a : Int} {x : Vec × Vec} (h1 : 0 ≤ k) (h2 : k < 8) : up2 (s9M M row x) 254 (row + k) a = s9M M row (upv x.1 k a, x.2) := by
  unfold s9M
  rw [putv_comm (by omega), up2_putv h1 h2, putv_comm (by omega)]
theorem s9_u2 {row k a : Int} {x : Vec × Vec} (h1 : 0 ≤ k) (h2 : k < 8) : up2 (s9M M row x) 256 k a = s9M M row (x.1, upv x.2 k a) := by
  unfold s9M
  rw [up2_putv0 h1 h2]
/-- the inner loop: the place of the greatest rest -/
theorem l_sh9d {g : GT} {lm : Nat × Nat} {RT : RTy} {i row R but V n : Int} {x : Vec × Vec} (hx : ∀ k, 0 ≤ k → k < 8 → -1 ≤ x.2 k ∧ x.2 k ≤ 10000000000) (hk : ∀ q : Nat, run E g mi_X9_shareOut 3 lm RT lfF pm_X9_shareOut (q + 100) 207 [some (vr 248), some (vi i), some (vi row), some (vl R), none, some (vi but), some (vl V), none, some (vl n), none, some (vi (amF x.2 8)), some (vi 8)] [] (toAH S (s9M M row x))) :
    ∀ k : Nat, k ≤ 8 → 1 ≤ k → G E g mi_X9_shareOut 3 lm RT 167 [some (vr 248), some (vi i), some (vi row), some (vl R), none, some (vi but), some (vl V), none, some (vl n), none, some (vi (amF x.2 k)), some (vi (k : Int))] [] (toAH S (s9M M row x)) := by
  refine down ?_ ?_
  · intro _
    refine q_X9_shareOut_167 303 (lfok E (by omega)) ?_
    simp +contextual (disch := first | omega | exact Nat.le_of_ble_eq_true rfl | assumption) only [↓r_X9_shareOut_167, ↓r_X9_shareOut_169, ↓r_X9_shareOut_171, ↓x1_11, ↓x0, ↓x32_3]
    exact ⟨fun _ => hk 201, fun q => absurd (by omega) q⟩
  · intro k hk ih h1
    have ih := ih (by omega)
    have e : amF x.2 (k + 1) = if x.2 (amF x.2 k) < x.2 (k : Int) then (k : Int) else amF x.2 k := rfl
    have ha := (amF_max x.2 k h1).1
    rw [e] at ih
    obtain ⟨b, hb⟩ : ∃ b, b = amF x.2 k := ⟨_, rfl⟩
    rw [← hb] at ha ih ⊢
    have h2 := hx k (by omega) (by omega)
    have h3 := hx b ha.1 (by omega)
    have e1 : s9M M row x 256 (k : Int) = x.2 k := s9_256 (by omega) (by omega)
    have e2 : s9M M row x 256 b = x.2 b := s9_256 (by omega) (by omega)
    rw [← e1] at h2
    rw [← e2] at h3
    refine q_X9_shareOut_167 400 (lfok E (by omega)) ?_
    simp +contextual (disch := first | omega | exact Nat.le_of_ble_eq_true rfl | assumption) only [↓r_X9_shareOut_0, ↓r_X9_shareOut_1, ↓r_X9_shareOut_3, ↓r_X9_shareOut_4, ↓r_X9_shareOut_6, ↓r_X9_shareOut_8, ↓r_X9_shareOut_10, ↓r_X9_shareOut_13, ↓r_X9_shareOut_15, ↓r_X9_shareOut_16, ↓r_X9_shareOut_17, ↓r_X9_shareOut_19, ↓r_X9_shareOut_22, ↓r_X9_shareOut_25, ↓r_X9_shareOut_27, ↓r_X9_shareOut_29, ↓r_X9_shareOut_32, ↓r_X9_shareOut_33, ↓r_X9_shareOut_36, ↓r_X9_shareOut_38, ↓r_X9_shareOut_39, ↓r_X9_shareOut_42, ↓r_X9_shareOut_43, ↓r_X9_shareOut_44, ↓r_X9_shareOut_46, ↓r_X9_shareOut_49, ↓r_X9_shareOut_52, ↓r_X9_shareOut_53, ↓r_X9_shareOut_55, ↓r_X9_shareOut_56, ↓r_X9_shareOut_58, ↓r_X9_shareOut_60, ↓r_X9_shareOut_62, ↓r_X9_shareOut_65, ↓r_X9_shareOut_66, ↓r_X9_shareOut_69, ↓r_X9_shareOut_71, ↓r_X9_shareOut_74, ↓r_X9_shareOut_75, ↓r_X9_shareOut_76, ↓r_X9_shareOut_77, ↓r_X9_shareOut_79, ↓r_X9_shareOut_82, ↓r_X9_shareOut_85, ↓r_X9_shareOut_87, ↓r_X9_shareOut_89, ↓r_X9_shareOut_92, ↓r_X9_shareOut_93, ↓r_X9_shareOut_96, ↓r_X9_shareOut_97, ↓r_X9_shareOut_99, ↓r_X9_shareOut_100, ↓r_X9_shareOut_101, ↓r_X9_shareOut_102, ↓r_X9_shareOut_105, ↓r_X9_shareOut_107, ↓r_X9_shareOut_108, ↓r_X9_shareOut_109, ↓r_X9_shareOut_111, ↓r_X9_shareOut_112, ↓r_X9_shareOut_113, ↓r_X9_shareOut_114, ↓r_X9_shareOut_115, ↓r_X9_shareOut_118, ↓r_X9_shareOut_120, ↓r_X9_shareOut_121, ↓r_X9_shareOut_122, ↓r_X9_shareOut_125, ↓r_X9_shareOut_127, ↓r_X9_shareOut_128, ↓r_X9_shareOut_129, ↓r_X9_shareOut_131, ↓r_X9_shareOut_132, ↓r_X9_shareOut_133, ↓r_X9_shareOut_135, ↓r_X9_shareOut_136, ↓r_X9_shareOut_139, ↓r_X9_shareOut_140, ↓r_X9_shareOut_142, ↓r_X9_shareOut_143, ↓r_X9_shareOut_144, ↓r_X9_shareOut_145, ↓r_X9_shareOut_146, ↓r_X9_shareOut_148, ↓r_X9_shareOut_151, ↓r_X9_shareOut_154, ↓r_X9_shareOut_156, ↓r_X9_shareOut_157, ↓r_X9_shareOut_158, ↓r_X9_shareOut_161, ↓r_X9_shareOut_162, ↓r_X9_shareOut_164, ↓r_X9_shareOut_165, ↓r_X9_shareOut_167, ↓r_X9_shareOut_169, ↓r_X9_shareOut_171, ↓r_X9_shareOut_174, ↓r_X9_shareOut_175, ↓r_X9_shareOut_178, ↓r_X9_shareOut_180, ↓r_X9_shareOut_181, ↓r_X9_shareOut_182, ↓r_X9_shareOut_185, ↓r_X9_shareOut_187, ↓r_X9_shareOut_188, ↓r_X9_shareOut_189, ↓r_X9_shareOut_192, ↓r_X9_shareOut_194, ↓r_X9_shareOut_197, ↓r_X9_shareOut_199, ↓r_X9_shareOut_201, ↓r_X9_shareOut_204, ↓r_X9_shareOut_207, ↓r_X9_shareOut_208, ↓r_X9_shareOut_211, ↓r_X9_shareOut_212, ↓r_X9_shareOut_214, ↓r_X9_shareOut_215, ↓r_X9_shareOut_216, ↓r_X9_shareOut_217, ↓r_X9_shareOut_218, ↓r_X9_shareOut_219, ↓r_X9_shareOut_220, ↓r_X9_shareOut_221, ↓r_X9_shareOut_224, ↓r_X9_shareOut_226, ↓r_X9_shareOut_229, ↓r_X9_shareOut_230, ↓r_X9_shareOut_232, ↓r_X9_shareOut_233, ↓r_X9_shareOut_234, ↓r_X9_shareOut_236, ↓r_X9_shareOut_239, ↓x27, ↓x6_6n, ↓x6_6i, ↓x6_6r, ↓x0, ↓x4_8n, ↓x4_8i, ↓x4_8r, ↓x1_8, ↓x32_3, ↓x3_6, ↓x2_0, ↓x1_1, ↓lf_X9_isNext, ↓x31_0, ↓x31b0, ↓x1_5, ↓x32_0, ↓f9_8, ↓x33, ↓x19, ↓x7_8n, ↓x7_8i, ↓x7_8r, ↓x3_3, ↓x6_8n, ↓x6_8i, ↓x6_8r, ↓x4_10n, ↓x4_10i, ↓x4_10r, ↓x1_10, ↓f9_9, ↓f9_5, ↓x1_2, ↓x8, ↓x21, ↓x22, ↓x26, ↓x23, ↓x3_8, ↓x25, ↓x20, ↓x7_10n, ↓x7_10i, ↓x7_10r, ↓x24, ↓x31_5, ↓x4_11n, ↓x4_11i, ↓x4_11r, ↓x1_11, ↓x7_11n, ↓x7_11i, ↓x7_11r, ↓x29, ↓x48_4, ↓l_249, ↓s_249, ↓l_250, ↓s_250, ↓l_251, ↓s_251, ↓l_252, ↓s_252, ↓l_253, ↓s_253, ↓l_254, ↓s_254, ↓l_255, ↓s_255, ↓l_256, ↓s_256, ↓l_257, ↓s_257, ↓l_258, ↓s_258, ↓l_259, ↓s_259, ↓l_260, ↓s_260, ↓l_261, ↓s_261, ↓l_262, ↓s_262, ↓l_263, ↓s_263, ↓l_264, ↓s_264, ↓l_265, ↓s_265, ↓l_266, ↓s_266, ↓l_267, ↓s_267, ↓l_268, ↓s_268, ↓l_269, ↓s_269, ↓l_270, ↓s_270, ↓l_271, ↓s_271, ↓l_272, ↓s_272, ↓l_273, ↓s_273, ↓l_274, ↓s_274, and_self, and_true, true_and, implies_true, true_implies, Int.reduceEq, Int.reduceLE, Int.reduceLT, not_true_eq_false, not_false_eq_true, false_implies, RTf_eq, ↓x31c5]
    refine ⟨fun q => by omega, fun _ => ⟨fun q => ?_, fun q => ?_⟩⟩
    · rw [if_neg (by omega)] at ih
      exact ih
    · rw [if_pos (by omega)] at ih
      exact ih
theorem l_sh9c {g : GT} {lm : Nat × Nat} {RT : RTy} {i row R but V n : Int} {m : Set8} {x : Vec × Vec} (hrow : 0 ≤ row ∧ row + 8 ≤ 512) (hn : 0 ≤ n ∧ n ≤ cntb m 8 - 1) (hc : 0 < cntb m 8) (hx0 : ∀ k, 0 ≤ k → k < 8 → m k = true → 0 ≤ x.2 k ∧ x.2 k ≤ 10000000000) (hxn : ∀ k, m k = false → x.2 k = -1) (hr : RT none (toAH S (s9M M row (gvN m n.toNat x)))) :
    ∀ t : Nat, t ≤ n.toNat → ∀ u10 u11 : Option AV, (∃ z, u10 = some (vi z)) → (u11 = none ∨ ∃ z, u11 = some (vi z)) → G E g mi_X9_shareOut 3 lm RT 154 [some (vr 248), some (vi i), some (vi row), some (vl R), none, some (vi but), some (vl V), none, some (vl (n - (t : Int))), none, u10, u11] [] (toAH S (s9M M row (gvN m t x))) := by
  have hc8 := cntb_rng m 8
  refine down ?_ ?_
  · intro u10 u11 h10 h11
    refine q_X9_shareOut_154 400 (lfok E (by omega)) ?_
    simp +contextual (disch := first | omega | exact Nat.le_of_ble_eq_true rfl | assumption) only [↓r_X9_shareOut_0, ↓r_X9_shareOut_1, ↓r_X9_shareOut_3, ↓r_X9_shareOut_4, ↓r_X9_shareOut_6, ↓r_X9_shareOut_8, ↓r_X9_shareOut_10, ↓r_X9_shareOut_13, ↓r_X9_shareOut_15, ↓r_X9_shareOut_16, ↓r_X9_shareOut_17, ↓r_X9_shareOut_19, ↓r_X9_shareOut_22, ↓r_X9_shareOut_25, ↓r_X9_shareOut_27, ↓r_X9_shareOut_29, ↓r_X9_shareOut_32, ↓r_X9_shareOut_33, ↓r_X9_shareOut_36, ↓r_X9_shareOut_38, ↓r_X9_shareOut_39, ↓r_X9_shareOut_42, ↓r_X9_shareOut_43, ↓r_X9_shareOut_44, ↓r_X9_shareOut_46, ↓r_X9_shareOut_49, ↓r_X9_shareOut_52, ↓r_X9_shareOut_53, ↓r_X9_shareOut_55, ↓r_X9_shareOut_56, ↓r_X9_shareOut_58, ↓r_X9_shareOut_60, ↓r_X9_shareOut_62, ↓r_X9_shareOut_65, ↓r_X9_shareOut_66, ↓r_X9_shareOut_69, ↓r_X9_shareOut_71, ↓r_X9_shareOut_74, ↓r_X9_shareOut_75, ↓r_X9_shareOut_76, ↓r_X9_shareOut_77, ↓r_X9_shareOut_79, ↓r_X9_shareOut_82, ↓r_X9_shareOut_85, ↓r_X9_shareOut_87, ↓r_X9_shareOut_89, ↓r_X9_shareOut_92, ↓r_X9_shareOut_93, ↓r_X9_shareOut_96, ↓r_X9_shareOut_97, ↓r_X9_shareOut_99, ↓r_X9_shareOut_100, ↓r_X9_shareOut_101, ↓r_X9_shareOut_102, ↓r_X9_shareOut_105, ↓r_X9_shareOut_107, ↓r_X9_shareOut_108, ↓r_X9_shareOut_109, ↓r_X9_shareOut_111, ↓r_X9_shareOut_112, ↓r_X9_shareOut_113, ↓r_X9_shareOut_114, ↓r_X9_shareOut_115, ↓r_X9_shareOut_118, ↓r_X9_shareOut_120, ↓r_X9_shareOut_121, ↓r_X9_shareOut_122, ↓r_X9_shareOut_125, ↓r_X9_shareOut_127, ↓r_X9_shareOut_128, ↓r_X9_shareOut_129, ↓r_X9_shareOut_131, ↓r_X9_shareOut_132, ↓r_X9_shareOut_133, ↓r_X9_shareOut_135, ↓r_X9_shareOut_136, ↓r_X9_shareOut_139, ↓r_X9_shareOut_140, ↓r_X9_shareOut_142, ↓r_X9_shareOut_143, ↓r_X9_shareOut_144, ↓r_X9_shareOut_145, ↓r_X9_shareOut_146, ↓r_X9_shareOut_148, ↓r_X9_shareOut_151, ↓r_X9_shareOut_154, ↓r_X9_shareOut_156, ↓r_X9_shareOut_157, ↓r_X9_shareOut_158, ↓r_X9_shareOut_161, ↓r_X9_shareOut_162, ↓r_X9_shareOut_164, ↓r_X9_shareOut_165, ↓r_X9_shareOut_167, ↓r_X9_shareOut_169, ↓r_X9_shareOut_171, ↓r_X9_shareOut_174, ↓r_X9_shareOut_175, ↓r_X9_shareOut_178, ↓r_X9_shareOut_180, ↓r_X9_shareOut_181, ↓r_X9_shareOut_182, ↓r_X9_shareOut_185, ↓r_X9_shareOut_187, ↓r_X9_shareOut_188, ↓r_X9_shareOut_189, ↓r_X9_shareOut_192, ↓r_X9_shareOut_194, ↓r_X9_shareOut_197, ↓r_X9_shareOut_199, ↓r_X9_shareOut_201, ↓r_X9_shareOut_204, ↓r_X9_shareOut_207, ↓r_X9_shareOut_208, ↓r_X9_shareOut_211, ↓r_X9_shareOut_212, ↓r_X9_shareOut_214, ↓r_X9_shareOut_215, ↓r_X9_shareOut_216, ↓r_X9_shareOut_217, ↓r_X9_shareOut_218, ↓r_X9_shareOut_219, ↓r_X9_shareOut_220, ↓r_X9_shareOut_221, ↓r_X9_shareOut_224, ↓r_X9_shareOut_226, ↓r_X9_shareOut_229, ↓r_X9_shareOut_230, ↓r_X9_shareOut_232, ↓r_X9_shareOut_233, ↓r_X9_shareOut_234, ↓r_X9_shareOut_236, ↓r_X9_shareOut_239, ↓x27, ↓x6_6n, ↓x6_6i, ↓x6_6r, ↓x0, ↓x4_8n, ↓x4_8i, ↓x4_8r, ↓x1_8, ↓x32_3, ↓x3_6, ↓x2_0, ↓x1_1, ↓lf_X9_isNext, ↓x31_0, ↓x31b0, ↓x1_5, ↓x32_0, ↓f9_8, ↓x33, ↓x19, ↓x7_8n, ↓x7_8i, ↓x7_8r, ↓x3_3, ↓x6_8n, ↓x6_8i, ↓x6_8r, ↓x4_10n, ↓x4_10i, ↓x4_10r, ↓x1_10, ↓f9_9, ↓f9_5, ↓x1_2, ↓x8, ↓x21, ↓x22, ↓x26, ↓x23, ↓x3_8, ↓x25, ↓x20, ↓x7_10n, ↓x7_10i, ↓x7_10r, ↓x24, ↓x31_5, ↓x4_11n, ↓x4_11i, ↓x4_11r, ↓x1_11, ↓x7_11n, ↓x7_11i, ↓x7_11r, ↓x29, ↓x48_4, ↓l_249, ↓s_249, ↓l_250, ↓s_250, ↓l_251, ↓s_251, ↓l_252, ↓s_252, ↓l_253, ↓s_253, ↓l_254, ↓s_254, ↓l_255, ↓s_255, ↓l_256, ↓s_256, ↓l_257, ↓s_257, ↓l_258, ↓s_258, ↓l_259, ↓s_259, ↓l_260, ↓s_260, ↓l_261, ↓s_261, ↓l_262, ↓s_262, ↓l_263, ↓s_263, ↓l_264, ↓s_264, ↓l_265, ↓s_265, ↓l_266, ↓s_266, ↓l_267, ↓s_267, ↓l_268, ↓s_268, ↓l_269, ↓s_269, ↓l_270, ↓s_270, ↓l_271, ↓s_271, ↓l_272, ↓s_272, ↓l_273, ↓s_273, ↓l_274, ↓s_274, and_self, and_true, true_and, implies_true, true_implies, Int.reduceEq, Int.reduceLE, Int.reduceLT, not_true_eq_false, not_false_eq_true, false_implies, RTf_eq, ↓x31c5]
    refine ⟨fun _ => hr, fun q => absurd (by omega) q⟩
  · intro t ht ih u10 u11 h10 h11
    have hpc := gvN_pc (m := m) (x := x) (fun k a b c => (hx0 k a b c).1) t (by omega)
    have hnon := gvN_non (m := m) (x := x) hc t
    have hrs := gv_rs (m := m) (x := x) (B := 10000000000) (by omega) (fun k a b c => by have := hx0 k a b c; omega) t
    obtain ⟨y, hy⟩ : ∃ y, y = gvN m t x := ⟨_, rfl⟩
    have e : gvN m (t + 1) x = gv m y := by rw [hy]; rfl
    rw [e] at ih
    rw [← hy] at hpc hnon hrs ⊢
    have hy2 : ∀ k, 0 ≤ k → k < 8 → -1 ≤ y.2 k ∧ y.2 k ≤ 10000000000 := fun k a b => by
      by_cases h : m k = true
      · exact hrs k a b h
      · rw [hnon k (by simpa using h), hxn k (by simpa using h)]; omega
    have ham := am_gr (m := m) (rs := y.2) (by omega) (fun k a b c => by rw [hnon k c, hxn k c])
    have hg := grF_in (m := m) (v := y.2) hc
    obtain ⟨z10, rfl⟩ := h10
    have key : G E g mi_X9_shareOut 3 lm RT 167 [some (vr 248), some (vi i), some (vi row), some (vl R), none, some (vi but), some (vl V), none, some (vl (n - (t : Int))), none, some (vi 0), some (vi 1)] [] (toAH S (s9M M row y)) := by
      have := l_sh9d (E := E) (S := S) (M := M) (g := g) (lm := lm) (RT := RT) (i := i) (row := row) (R := R) (but := but) (V := V) (n := n - (t : Int)) (x := y) hy2 ?_ 1 (by omega) (by omega)
      · have e1 : amF y.2 1 = 0 := by simp [amF]
        rw [e1] at this
        exact this
      · intro q
        rw [ham]
        have e3 : s9M M row y 254 (row + grF m y.2 8) = y.1 (grF m y.2 8) := s9_254 hg.1.1 hg.1.2
        simp +contextual (disch := first | omega | exact Nat.le_of_ble_eq_true rfl | assumption) only [↓r_X9_shareOut_0, ↓r_X9_shareOut_1, ↓r_X9_shareOut_3, ↓r_X9_shareOut_4, ↓r_X9_shareOut_6, ↓r_X9_shareOut_8, ↓r_X9_shareOut_10, ↓r_X9_shareOut_13, ↓r_X9_shareOut_15, ↓r_X9_shareOut_16, ↓r_X9_shareOut_17, ↓r_X9_shareOut_19, ↓r_X9_shareOut_22, ↓r_X9_shareOut_25, ↓r_X9_shareOut_27, ↓r_X9_shareOut_29, ↓r_X9_shareOut_32, ↓r_X9_shareOut_33, ↓r_X9_shareOut_36, ↓r_X9_shareOut_38, ↓r_X9_shareOut_39, ↓r_X9_shareOut_42, ↓r_X9_shareOut_43, ↓r_X9_shareOut_44, ↓r_X9_shareOut_46, ↓r_X9_shareOut_49, ↓r_X9_shareOut_52, ↓r_X9_shareOut_53, ↓r_X9_shareOut_55, ↓r_X9_shareOut_56, ↓r_X9_shareOut_58, ↓r_X9_shareOut_60, ↓r_X9_shareOut_62, ↓r_X9_shareOut_65, ↓r_X9_shareOut_66, ↓r_X9_shareOut_69, ↓r_X9_shareOut_71, ↓r_X9_shareOut_74, ↓r_X9_shareOut_75, ↓r_X9_shareOut_76, ↓r_X9_shareOut_77, ↓r_X9_shareOut_79, ↓r_X9_shareOut_82, ↓r_X9_shareOut_85, ↓r_X9_shareOut_87, ↓r_X9_shareOut_89, ↓r_X9_shareOut_92, ↓r_X9_shareOut_93, ↓r_X9_shareOut_96, ↓r_X9_shareOut_97, ↓r_X9_shareOut_99, ↓r_X9_shareOut_100, ↓r_X9_shareOut_101, ↓r_X9_shareOut_102, ↓r_X9_shareOut_105, ↓r_X9_shareOut_107, ↓r_X9_shareOut_108, ↓r_X9_shareOut_109, ↓r_X9_shareOut_111, ↓r_X9_shareOut_112, ↓r_X9_shareOut_113, ↓r_X9_shareOut_114, ↓r_X9_shareOut_115, ↓r_X9_shareOut_118, ↓r_X9_shareOut_120, ↓r_X9_shareOut_121, ↓r_X9_shareOut_122, ↓r_X9_shareOut_125, ↓r_X9_shareOut_127, ↓r_X9_shareOut_128, ↓r_X9_shareOut_129, ↓r_X9_shareOut_131, ↓r_X9_shareOut_132, ↓r_X9_shareOut_133, ↓r_X9_shareOut_135, ↓r_X9_shareOut_136, ↓r_X9_shareOut_139, ↓r_X9_shareOut_140, ↓r_X9_shareOut_142, ↓r_X9_shareOut_143, ↓r_X9_shareOut_144, ↓r_X9_shareOut_145, ↓r_X9_shareOut_146, ↓r_X9_shareOut_148, ↓r_X9_shareOut_151, ↓r_X9_shareOut_154, ↓r_X9_shareOut_156, ↓r_X9_shareOut_157, ↓r_X9_shareOut_158, ↓r_X9_shareOut_161, ↓r_X9_shareOut_162, ↓r_X9_shareOut_164, ↓r_X9_shareOut_165, ↓r_X9_shareOut_167, ↓r_X9_shareOut_169, ↓r_X9_shareOut_171, ↓r_X9_shareOut_174, ↓r_X9_shareOut_175, ↓r_X9_shareOut_178, ↓r_X9_shareOut_180, ↓r_X9_shareOut_181, ↓r_X9_shareOut_182, ↓r_X9_shareOut_185, ↓r_X9_shareOut_187, ↓r_X9_shareOut_188, ↓r_X9_shareOut_189, ↓r_X9_shareOut_192, ↓r_X9_shareOut_194, ↓r_X9_shareOut_197, ↓r_X9_shareOut_199, ↓r_X9_shareOut_201, ↓r_X9_shareOut_204, ↓r_X9_shareOut_207, ↓r_X9_shareOut_208, ↓r_X9_shareOut_211, ↓r_X9_shareOut_212, ↓r_X9_shareOut_214, ↓r_X9_shareOut_215, ↓r_X9_shareOut_216, ↓r_X9_shareOut_217, ↓r_X9_shareOut_218, ↓r_X9_shareOut_219, ↓r_X9_shareOut_220, ↓r_X9_shareOut_221, ↓r_X9_shareOut_224, ↓r_X9_shareOut_226, ↓r_X9_shareOut_229, ↓r_X9_shareOut_230, ↓r_X9_shareOut_232, ↓r_X9_shareOut_233, ↓r_X9_shareOut_234, ↓r_X9_shareOut_236, ↓r_X9_shareOut_239, ↓x27, ↓x6_6n, ↓x6_6i, ↓x6_6r, ↓x0, ↓x4_8n, ↓x4_8i, ↓x4_8r, ↓x1_8, ↓x32_3, ↓x3_6, ↓x2_0, ↓x1_1, ↓lf_X9_isNext, ↓x31_0, ↓x31b0, ↓x1_5, ↓x32_0, ↓f9_8, ↓x33, ↓x19, ↓x7_8n, ↓x7_8i, ↓x7_8r, ↓x3_3, ↓x6_8n, ↓x6_8i, ↓x6_8r, ↓x4_10n, ↓x4_10i, ↓x4_10r, ↓x1_10, ↓f9_9, ↓f9_5, ↓x1_2, ↓x8, ↓x21, ↓x22, ↓x26, ↓x23, ↓x3_8, ↓x25, ↓x20, ↓x7_10n, ↓x7_10i, ↓x7_10r, ↓x24, ↓x31_5, ↓x4_11n, ↓x4_11i, ↓x4_11r, ↓x1_11, ↓x7_11n, ↓x7_11i, ↓x7_11r, ↓x29, ↓x48_4, ↓l_249, ↓s_249, ↓l_250, ↓s_250, ↓l_251, ↓s_251, ↓l_252, ↓s_252, ↓l_253, ↓s_253, ↓l_254, ↓s_254, ↓l_255, ↓s_255, ↓l_256, ↓s_256, ↓l_257, ↓s_257, ↓l_258, ↓s_258, ↓l_259, ↓s_259, ↓l_260, ↓s_260, ↓l_261, ↓s_261, ↓l_262, ↓s_262, ↓l_263, ↓s_263, ↓l_264, ↓s_264, ↓l_265, ↓s_265, ↓l_266, ↓s_266, ↓l_267, ↓s_267, ↓l_268, ↓s_268, ↓l_269, ↓s_269, ↓l_270, ↓s_270, ↓l_271, ↓s_271, ↓l_272, ↓s_272, ↓l_273, ↓s_273, ↓l_274, ↓s_274, and_self, and_true, true_and, implies_true, true_implies, Int.reduceEq, Int.reduceLE, Int.reduceLT, not_true_eq_false, not_false_eq_true, false_implies, RTf_eq, e3]
        rw [s9_u1 hg.1.1 hg.1.2, s9_u2 hg.1.1 hg.1.2, Int.sub_sub]
        exact ih _ _ ⟨_, rfl⟩ (Or.inr ⟨_, rfl⟩)
    refine q_X9_shareOut_154 400 (lfok E (by omega)) ?_
    rcases h11 with rfl | ⟨z11, rfl⟩
    · simp +contextual (disch := first | omega | exact Nat.le_of_ble_eq_true rfl | assumption) only [↓r_X9_shareOut_0, ↓r_X9_shareOut_1, ↓r_X9_shareOut_3, ↓r_X9_shareOut_4, ↓r_X9_shareOut_6, ↓r_X9_shareOut_8, ↓r_X9_shareOut_10, ↓r_X9_shareOut_13, ↓r_X9_shareOut_15, ↓r_X9_shareOut_16, ↓r_X9_shareOut_17, ↓r_X9_shareOut_19, ↓r_X9_shareOut_22, ↓r_X9_shareOut_25, ↓r_X9_shareOut_27, ↓r_X9_shareOut_29, ↓r_X9_shareOut_32, ↓r_X9_shareOut_33, ↓r_X9_shareOut_36, ↓r_X9_shareOut_38, ↓r_X9_shareOut_39, ↓r_X9_shareOut_42, ↓r_X9_shareOut_43, ↓r_X9_shareOut_44, ↓r_X9_shareOut_46, ↓r_X9_shareOut_49, ↓r_X9_shareOut_52, ↓r_X9_shareOut_53, ↓r_X9_shareOut_55, ↓r_X9_shareOut_56, ↓r_X9_shareOut_58, ↓r_X9_shareOut_60, ↓r_X9_shareOut_62, ↓r_X9_shareOut_65, ↓r_X9_shareOut_66, ↓r_X9_shareOut_69, ↓r_X9_shareOut_71, ↓r_X9_shareOut_74, ↓r_X9_shareOut_75, ↓r_X9_shareOut_76, ↓r_X9_shareOut_77, ↓r_X9_shareOut_79, ↓r_X9_shareOut_82, ↓r_X9_shareOut_85, ↓r_X9_shareOut_87, ↓r_X9_shareOut_89, ↓r_X9_shareOut_92, ↓r_X9_shareOut_93, ↓r_X9_shareOut_96, ↓r_X9_shareOut_97, ↓r_X9_shareOut_99, ↓r_X9_shareOut_100, ↓r_X9_shareOut_101, ↓r_X9_shareOut_102, ↓r_X9_shareOut_105, ↓r_X9_shareOut_107, ↓r_X9_shareOut_108, ↓r_X9_shareOut_109, ↓r_X9_shareOut_111, ↓r_X9_shareOut_112, ↓r_X9_shareOut_113, ↓r_X9_shareOut_114, ↓r_X9_shareOut_115, ↓r_X9_shareOut_118, ↓r_X9_shareOut_120, ↓r_X9_shareOut_121, ↓r_X9_shareOut_122, ↓r_X9_shareOut_125, ↓r_X9_shareOut_127, ↓r_X9_shareOut_128, ↓r_X9_shareOut_129, ↓r_X9_shareOut_131, ↓r_X9_shareOut_132, ↓r_X9_shareOut_133, ↓r_X9_shareOut_135, ↓r_X9_shareOut_136, ↓r_X9_shareOut_139, ↓r_X9_shareOut_140, ↓r_X9_shareOut_142, ↓r_X9_shareOut_143, ↓r_X9_shareOut_144, ↓r_X9_shareOut_145, ↓r_X9_shareOut_146, ↓r_X9_shareOut_148, ↓r_X9_shareOut_151, ↓r_X9_shareOut_154, ↓r_X9_shareOut_156, ↓r_X9_shareOut_157, ↓r_X9_shareOut_158, ↓r_X9_shareOut_161, ↓r_X9_shareOut_162, ↓r_X9_shareOut_164, ↓r_X9_shareOut_165, ↓r_X9_shareOut_167, ↓r_X9_shareOut_169, ↓r_X9_shareOut_171, ↓r_X9_shareOut_174, ↓r_X9_shareOut_175, ↓r_X9_shareOut_178, ↓r_X9_shareOut_180, ↓r_X9_shareOut_181, ↓r_X9_shareOut_182, ↓r_X9_shareOut_185, ↓r_X9_shareOut_187, ↓r_X9_shareOut_188, ↓r_X9_shareOut_189, ↓r_X9_shareOut_192, ↓r_X9_shareOut_194, ↓r_X9_shareOut_197, ↓r_X9_shareOut_199, ↓r_X9_shareOut_201, ↓r_X9_shareOut_204, ↓r_X9_shareOut_207, ↓r_X9_shareOut_208, ↓r_X9_shareOut_211, ↓r_X9_shareOut_212, ↓r_X9_shareOut_214, ↓r_X9_shareOut_215, ↓r_X9_shareOut_216, ↓r_X9_shareOut_217, ↓r_X9_shareOut_218, ↓r_X9_shareOut_219, ↓r_X9_shareOut_220, ↓r_X9_shareOut_221, ↓r_X9_shareOut_224, ↓r_X9_shareOut_226, ↓r_X9_shareOut_229, ↓r_X9_shareOut_230, ↓r_X9_shareOut_232, ↓r_X9_shareOut_233, ↓r_X9_shareOut_234, ↓r_X9_shareOut_236, ↓r_X9_shareOut_239, ↓x27, ↓x6_6n, ↓x6_6i, ↓x6_6r, ↓x0, ↓x4_8n, ↓x4_8i, ↓x4_8r, ↓x1_8, ↓x32_3, ↓x3_6, ↓x2_0, ↓x1_1, ↓lf_X9_isNext, ↓x31_0, ↓x31b0, ↓x1_5, ↓x32_0, ↓f9_8, ↓x33, ↓x19, ↓x7_8n, ↓x7_8i, ↓x7_8r, ↓x3_3, ↓x6_8n, ↓x6_8i, ↓x6_8r, ↓x4_10n, ↓x4_10i, ↓x4_10r, ↓x1_10, ↓f9_9, ↓f9_5, ↓x1_2, ↓x8, ↓x21, ↓x22, ↓x26, ↓x23, ↓x3_8, ↓x25, ↓x20, ↓x7_10n, ↓x7_10i, ↓x7_10r, ↓x24, ↓x31_5, ↓x4_11n, ↓x4_11i, ↓x4_11r, ↓x1_11, ↓x7_11n, ↓x7_11i, ↓x7_11r, ↓x29, ↓x48_4, ↓l_249, ↓s_249, ↓l_250, ↓s_250, ↓l_251, ↓s_251, ↓l_252, ↓s_252, ↓l_253, ↓s_253, ↓l_254, ↓s_254, ↓l_255, ↓s_255, ↓l_256, ↓s_256, ↓l_257, ↓s_257, ↓l_258, ↓s_258, ↓l_259, ↓s_259, ↓l_260, ↓s_260, ↓l_261, ↓s_261, ↓l_262, ↓s_262, ↓l_263, ↓s_263, ↓l_264, ↓s_264, ↓l_265, ↓s_265, ↓l_266, ↓s_266, ↓l_267, ↓s_267, ↓l_268, ↓s_268, ↓l_269, ↓s_269, ↓l_270, ↓s_270, ↓l_271, ↓s_271, ↓l_272, ↓s_272, ↓l_273, ↓s_273, ↓l_274, ↓s_274, and_self, and_true, true_and, implies_true, true_implies, Int.reduceEq, Int.reduceLE, Int.reduceLT, not_true_eq_false, not_false_eq_true, false_implies, RTf_eq, ↓x31c5]
      refine ⟨fun q => by omega, fun _ => key⟩
    · simp +contextual (disch := first | omega | exact Nat.le_of_ble_eq_true rfl | assumption) only [↓r_X9_shareOut_0, ↓r_X9_shareOut_1, ↓r_X9_shareOut_3, ↓r_X9_shareOut_4, ↓r_X9_shareOut_6, ↓r_X9_shareOut_8, ↓r_X9_shareOut_10, ↓r_X9_shareOut_13, ↓r_X9_shareOut_15, ↓r_X9_shareOut_16, ↓r_X9_shareOut_17, ↓r_X9_shareOut_19, ↓r_X9_shareOut_22, ↓r_X9_shareOut_25, ↓r_X9_shareOut_27, ↓r_X9_shareOut_29, ↓r_X9_shareOut_32, ↓r_X9_shareOut_33, ↓r_X9_shareOut_36, ↓r_X9_shareOut_38, ↓r_X9_shareOut_39, ↓r_X9_shareOut_42, ↓r_X9_shareOut_43, ↓r_X9_shareOut_44, ↓r_X9_shareOut_46, ↓r_X9_shareOut_49, ↓r_X9_shareOut_52, ↓r_X9_shareOut_53, ↓r_X9_shareOut_55, ↓r_X9_shareOut_56, ↓r_X9_shareOut_58, ↓r_X9_shareOut_60, ↓r_X9_shareOut_62, ↓r_X9_shareOut_65, ↓r_X9_shareOut_66, ↓r_X9_shareOut_69, ↓r_X9_shareOut_71, ↓r_X9_shareOut_74, ↓r_X9_shareOut_75, ↓r_X9_shareOut_76, ↓r_X9_shareOut_77, ↓r_X9_shareOut_79, ↓r_X9_shareOut_82, ↓r_X9_shareOut_85, ↓r_X9_shareOut_87, ↓r_X9_shareOut_89, ↓r_X9_shareOut_92, ↓r_X9_shareOut_93, ↓r_X9_shareOut_96, ↓r_X9_shareOut_97, ↓r_X9_shareOut_99, ↓r_X9_shareOut_100, ↓r_X9_shareOut_101, ↓r_X9_shareOut_102, ↓r_X9_shareOut_105, ↓r_X9_shareOut_107, ↓r_X9_shareOut_108, ↓r_X9_shareOut_109, ↓r_X9_shareOut_111, ↓r_X9_shareOut_112, ↓r_X9_shareOut_113, ↓r_X9_shareOut_114, ↓r_X9_shareOut_115, ↓r_X9_shareOut_118, ↓r_X9_shareOut_120, ↓r_X9_shareOut_121, ↓r_X9_shareOut_122, ↓r_X9_shareOut_125, ↓r_X9_shareOut_127, ↓r_X9_shareOut_128, ↓r_X9_shareOut_129, ↓r_X9_shareOut_131, ↓r_X9_shareOut_132, ↓r_X9_shareOut_133, ↓r_X9_shareOut_135, ↓r_X9_shareOut_136, ↓r_X9_shareOut_139, ↓r_X9_shareOut_140, ↓r_X9_shareOut_142, ↓r_X9_shareOut_143, ↓r_X9_shareOut_144, ↓r_X9_shareOut_145, ↓r_X9_shareOut_146, ↓r_X9_shareOut_148, ↓r_X9_shareOut_151, ↓r_X9_shareOut_154, ↓r_X9_shareOut_156, ↓r_X9_shareOut_157, ↓r_X9_shareOut_158, ↓r_X9_shareOut_161, ↓r_X9_shareOut_162, ↓r_X9_shareOut_164, ↓r_X9_shareOut_165, ↓r_X9_shareOut_167, ↓r_X9_shareOut_169, ↓r_X9_shareOut_171, ↓r_X9_shareOut_174, ↓r_X9_shareOut_175, ↓r_X9_shareOut_178, ↓r_X9_shareOut_180, ↓r_X9_shareOut_181, ↓r_X9_shareOut_182, ↓r_X9_shareOut_185, ↓r_X9_shareOut_187, ↓r_X9_shareOut_188, ↓r_X9_shareOut_189, ↓r_X9_shareOut_192, ↓r_X9_shareOut_194, ↓r_X9_shareOut_197, ↓r_X9_shareOut_199, ↓r_X9_shareOut_201, ↓r_X9_shareOut_204, ↓r_X9_shareOut_207, ↓r_X9_shareOut_208, ↓r_X9_shareOut_211, ↓r_X9_shareOut_212, ↓r_X9_shareOut_214, ↓r_X9_shareOut_215, ↓r_X9_shareOut_216, ↓r_X9_shareOut_217, ↓r_X9_shareOut_218, ↓r_X9_shareOut_219, ↓r_X9_shareOut_220, ↓r_X9_shareOut_221, ↓r_X9_shareOut_224, ↓r_X9_shareOut_226, ↓r_X9_shareOut_229, ↓r_X9_shareOut_230, ↓r_X9_shareOut_232, ↓r_X9_shareOut_233, ↓r_X9_shareOut_234, ↓r_X9_shareOut_236, ↓r_X9_shareOut_239, ↓x27, ↓x6_6n, ↓x6_6i, ↓x6_6r, ↓x0, ↓x4_8n, ↓x4_8i, ↓x4_8r, ↓x1_8, ↓x32_3, ↓x3_6, ↓x2_0, ↓x1_1, ↓lf_X9_isNext, ↓x31_0, ↓x31b0, ↓x1_5, ↓x32_0, ↓f9_8, ↓x33, ↓x19, ↓x7_8n, ↓x7_8i, ↓x7_8r, ↓x3_3, ↓x6_8n, ↓x6_8i, ↓x6_8r, ↓x4_10n, ↓x4_10i, ↓x4_10r, ↓x1_10, ↓f9_9, ↓f9_5, ↓x1_2, ↓x8, ↓x21, ↓x22, ↓x26, ↓x23, ↓x3_8, ↓x25, ↓x20, ↓x7_10n, ↓x7_10i, ↓x7_10r, ↓x24, ↓x31_5, ↓x4_11n, ↓x4_11i, ↓x4_11r, ↓x1_11, ↓x7_11n, ↓x7_11i, ↓x7_11r, ↓x29, ↓x48_4, ↓l_249, ↓s_249, ↓l_250, ↓s_250, ↓l_251, ↓s_251, ↓l_252, ↓s_252, ↓l_253, ↓s_253, ↓l_254, ↓s_254, ↓l_255, ↓s_255, ↓l_256, ↓s_256, ↓l_257, ↓s_257, ↓l_258, ↓s_258, ↓l_259, ↓s_259, ↓l_260, ↓s_260, ↓l_261, ↓s_261, ↓l_262, ↓s_262, ↓l_263, ↓s_263, ↓l_264, ↓s_264, ↓l_265, ↓s_265, ↓l_266, ↓s_266, ↓l_267, ↓s_267, ↓l_268, ↓s_268, ↓l_269, ↓s_269, ↓l_270, ↓s_270, ↓l_271, ↓s_271, ↓l_272, ↓s_272, ↓l_273, ↓s_273, ↓l_274, ↓s_274, and_self, and_true, true_and, implies_true, true_implies, Int.reduceEq, Int.reduceLE, Int.reduceLT, not_true_eq_false, not_false_eq_true, false_implies, RTf_eq, ↓x31c5]
      refine ⟨fun q => by omega, fun _ => key⟩
theorem l_sh9b {g : GT} {lm : Nat × Nat} {RT : RTy} {i row R but V : Int} {m : Set8} {p : Vec} (em : m = wob (nbm M i) but) (ep : ∀ k, M 255 k = p k) (hi : 0 ≤ i ∧ i < 8) (hrow : 0 ≤ row ∧ row + 8 ≤ 512) (hbut : rg but) (hM : ∀ z, 0 ≤ z → z < 64 → rg (M 253 z)) (hR : 0 ≤ R ∧ R ≤ 1000) (hV : V = smv m p 8) (hV0 : 0 < V) (hV1 : V ≤ 80000000) (hp : ∀ k, 0 ≤ k → k < 8 → m k = true → 0 ≤ p k ∧ p k ≤ 10000000) (hc : 0 < cntb m 8)
    (hr : RT none (toAH S (s9M M row (shF R m p (getv M 254 row) (fun _ => -1))))) :
    ∀ k : Nat, k ≤ 8 → G E g mi_X9_shareOut 3 lm RT 58 [some (vr 248), some (vi i), some (vi row), some (vl R), none, some (vi but), some (vl V), none, some (vl (R - smv m (qv R V m p (getv M 254 row)) k)), none, some (vi (k : Int)), none] [] (toAH S (s9M M row (bl k (qv R V m p (getv M 254 row)) (getv M 254 row), bl k (rv R V m p (fun _ => -1)) (M 256)))) := by
  have hmod : ∀ z : Int, 0 ≤ z % V ∧ z % V < V := fun z => ⟨Int.emod_nonneg _ (by omega), Int.emod_lt_of_pos _ hV0⟩
  have hl := left_lt (R := R) (v := getv M 254 row) hV hV0 hc
  have hc8 := cntb_rng m 8
  refine down ?_ ?_
  · have e : s9M M row (bl 8 (qv R V m p (getv M 254 row)) (getv M 254 row), bl 8 (rv R V m p (fun _ => -1)) (M 256)) = s9M M row (qv R V m p (getv M 254 row), rv R V m p (fun _ => -1)) := by
      unfold s9M
      rw [putv_congr (f := bl 8 (rv R V m p (fun _ => -1)) (M 256)) (fun k a b => bl_8 b)]
      rw [putv_congr (c := 254) (fun k a b => bl_8 b)]
    rw [e]
    refine q_X9_shareOut_58 400 (lfok E (by omega)) ?_
    simp +contextual (disch := first | omega | exact Nat.le_of_ble_eq_true rfl | assumption) only [↓r_X9_shareOut_0, ↓r_X9_shareOut_1, ↓r_X9_shareOut_3, ↓r_X9_shareOut_4, ↓r_X9_shareOut_6, ↓r_X9_shareOut_8, ↓r_X9_shareOut_10, ↓r_X9_shareOut_13, ↓r_X9_shareOut_15, ↓r_X9_shareOut_16, ↓r_X9_shareOut_17, ↓r_X9_shareOut_19, ↓r_X9_shareOut_22, ↓r_X9_shareOut_25, ↓r_X9_shareOut_27, ↓r_X9_shareOut_29, ↓r_X9_shareOut_32, ↓r_X9_shareOut_33, ↓r_X9_shareOut_36, ↓r_X9_shareOut_38, ↓r_X9_shareOut_39, ↓r_X9_shareOut_42, ↓r_X9_shareOut_43, ↓r_X9_shareOut_44, ↓r_X9_shareOut_46, ↓r_X9_shareOut_49, ↓r_X9_shareOut_52, ↓r_X9_shareOut_53, ↓r_X9_shareOut_55, ↓r_X9_shareOut_56, ↓r_X9_shareOut_58, ↓r_X9_shareOut_60, ↓r_X9_shareOut_62, ↓r_X9_shareOut_65, ↓r_X9_shareOut_66, ↓r_X9_shareOut_69, ↓r_X9_shareOut_71, ↓r_X9_shareOut_74, ↓r_X9_shareOut_75, ↓r_X9_shareOut_76, ↓r_X9_shareOut_77, ↓r_X9_shareOut_79, ↓r_X9_shareOut_82, ↓r_X9_shareOut_85, ↓r_X9_shareOut_87, ↓r_X9_shareOut_89, ↓r_X9_shareOut_92, ↓r_X9_shareOut_93, ↓r_X9_shareOut_96, ↓r_X9_shareOut_97, ↓r_X9_shareOut_99, ↓r_X9_shareOut_100, ↓r_X9_shareOut_101, ↓r_X9_shareOut_102, ↓r_X9_shareOut_105, ↓r_X9_shareOut_107, ↓r_X9_shareOut_108, ↓r_X9_shareOut_109, ↓r_X9_shareOut_111, ↓r_X9_shareOut_112, ↓r_X9_shareOut_113, ↓r_X9_shareOut_114, ↓r_X9_shareOut_115, ↓r_X9_shareOut_118, ↓r_X9_shareOut_120, ↓r_X9_shareOut_121, ↓r_X9_shareOut_122, ↓r_X9_shareOut_125, ↓r_X9_shareOut_127, ↓r_X9_shareOut_128, ↓r_X9_shareOut_129, ↓r_X9_shareOut_131, ↓r_X9_shareOut_132, ↓r_X9_shareOut_133, ↓r_X9_shareOut_135, ↓r_X9_shareOut_136, ↓r_X9_shareOut_139, ↓r_X9_shareOut_140, ↓r_X9_shareOut_142, ↓r_X9_shareOut_143, ↓r_X9_shareOut_144, ↓r_X9_shareOut_145, ↓r_X9_shareOut_146, ↓r_X9_shareOut_148, ↓r_X9_shareOut_151, ↓r_X9_shareOut_154, ↓r_X9_shareOut_156, ↓r_X9_shareOut_157, ↓r_X9_shareOut_158, ↓r_X9_shareOut_161, ↓r_X9_shareOut_162, ↓r_X9_shareOut_164, ↓r_X9_shareOut_165, ↓r_X9_shareOut_167, ↓r_X9_shareOut_169, ↓r_X9_shareOut_171, ↓r_X9_shareOut_174, ↓r_X9_shareOut_175, ↓r_X9_shareOut_178, ↓r_X9_shareOut_180, ↓r_X9_shareOut_181, ↓r_X9_shareOut_182, ↓r_X9_shareOut_185, ↓r_X9_shareOut_187, ↓r_X9_shareOut_188, ↓r_X9_shareOut_189, ↓r_X9_shareOut_192, ↓r_X9_shareOut_194, ↓r_X9_shareOut_197, ↓r_X9_shareOut_199, ↓r_X9_shareOut_201, ↓r_X9_shareOut_204, ↓r_X9_shareOut_207, ↓r_X9_shareOut_208, ↓r_X9_shareOut_211, ↓r_X9_shareOut_212, ↓r_X9_shareOut_214, ↓r_X9_shareOut_215, ↓r_X9_shareOut_216, ↓r_X9_shareOut_217, ↓r_X9_shareOut_218, ↓r_X9_shareOut_219, ↓r_X9_shareOut_220, ↓r_X9_shareOut_221, ↓r_X9_shareOut_224, ↓r_X9_shareOut_226, ↓r_X9_shareOut_229, ↓r_X9_shareOut_230, ↓r_X9_shareOut_232, ↓r_X9_shareOut_233, ↓r_X9_shareOut_234, ↓r_X9_shareOut_236, ↓r_X9_shareOut_239, ↓x27, ↓x6_6n, ↓x6_6i, ↓x6_6r, ↓x0, ↓x4_8n, ↓x4_8i, ↓x4_8r, ↓x1_8, ↓x32_3, ↓x3_6, ↓x2_0, ↓x1_1, ↓lf_X9_isNext, ↓x31_0, ↓x31b0, ↓x1_5, ↓x32_0, ↓f9_8, ↓x33, ↓x19, ↓x7_8n, ↓x7_8i, ↓x7_8r, ↓x3_3, ↓x6_8n, ↓x6_8i, ↓x6_8r, ↓x4_10n, ↓x4_10i, ↓x4_10r, ↓x1_10, ↓f9_9, ↓f9_5, ↓x1_2, ↓x8, ↓x21, ↓x22, ↓x26, ↓x23, ↓x3_8, ↓x25, ↓x20, ↓x7_10n, ↓x7_10i, ↓x7_10r, ↓x24, ↓x31_5, ↓x4_11n, ↓x4_11i, ↓x4_11r, ↓x1_11, ↓x7_11n, ↓x7_11i, ↓x7_11r, ↓x29, ↓x48_4, ↓l_249, ↓s_249, ↓l_250, ↓s_250, ↓l_251, ↓s_251, ↓l_252, ↓s_252, ↓l_253, ↓s_253, ↓l_254, ↓s_254, ↓l_255, ↓s_255, ↓l_256, ↓s_256, ↓l_257, ↓s_257, ↓l_258, ↓s_258, ↓l_259, ↓s_259, ↓l_260, ↓s_260, ↓l_261, ↓s_261, ↓l_262, ↓s_262, ↓l_263, ↓s_263, ↓l_264, ↓s_264, ↓l_265, ↓s_265, ↓l_266, ↓s_266, ↓l_267, ↓s_267, ↓l_268, ↓s_268, ↓l_269, ↓s_269, ↓l_270, ↓s_270, ↓l_271, ↓s_271, ↓l_272, ↓s_272, ↓l_273, ↓s_273, ↓l_274, ↓s_274, and_self, and_true, true_and, implies_true, true_implies, Int.reduceEq, Int.reduceLE, Int.reduceLT, not_true_eq_false, not_false_eq_true, false_implies, RTf_eq]
    refine ⟨fun _ => ?_, fun q => absurd (by omega) q⟩
    have := l_sh9c (E := E) (S := S) (M := M) (g := g) (lm := lm) (RT := RT) (i := i) (R := R) (but := but) (V := V) (x := (qv R V m p (getv M 254 row), rv R V m p (fun _ => -1))) hrow hl hc (fun k a b c => by simp only [rv, c, if_true]; have := hmod (R * p k); omega) (fun k c => by simp [rv, c]) (by rw [hV]; exact hr) 0 (by omega) (some (vi 8)) none ⟨_, rfl⟩ (Or.inl rfl)
    rw [show ((0 : Nat) : Int) = 0 from rfl, Int.sub_zero] at this
    exact this
  · intro k hk ih
    have e1 : smv m (qv R V m p (getv M 254 row)) (k + 1) = smv m (qv R V m p (getv M 254 row)) k + (if m (k : Int) = true then qv R V m p (getv M 254 row) (k : Int) else 0) := rfl
    rw [e1] at ih
    have h0 := hM (8 * i + k) (by omega) (by omega)
    have hmk : m (k : Int) = (decide (¬ M 253 (8 * i + k) = -9) && decide (¬ (k : Int) = but)) := by rw [em]; rfl
    have h253 : ∀ y z, s9M M row y 253 z = M 253 z := fun y z => s9_ne (by omega) (by omega)
    have h255 : ∀ y z, s9M M row y 255 z = p z := fun y z => by rw [s9_ne (by omega) (by omega), ep]
    obtain ⟨y, hy⟩ : ∃ y, y = (bl k (qv R V m p (getv M 254 row)) (getv M 254 row), bl k (rv R V m p (fun _ => -1)) (M 256)) := ⟨_, rfl⟩
    rw [← hy]
    have eu2 : ∀ (y : Vec × Vec) (a : Int), up2 (s9M M row y) 256 (k : Int) a = s9M M row (y.1, upv y.2 k a) := fun y a => s9_u2 (by omega) (by omega)
    have eu1 : ∀ (y : Vec × Vec) (a : Int), up2 (s9M M row y) 254 (row + (k : Int)) a = s9M M row (upv y.1 k a, y.2) := fun y a => s9_u1 (by omega) (by omega)
    have el : ∀ (y : Vec × Vec), s9M M row y 254 (row + (k : Int)) = y.1 k := fun y => s9_254 (by omega) (by omega)
    have hno : m (k : Int) = false → G E g mi_X9_shareOut 3 lm RT 58 [some (vr 248), some (vi i), some (vi row), some (vl R), none, some (vi but), some (vl V), none, some (vl (R - smv m (qv R V m p (getv M 254 row)) k)), none, some (vi ((k : Int) + 1)), none] [] (toAH S (s9M M row (y.1, upv y.2 k (-1)))) := by
      intro hf
      have hrl : rv R V m p (fun _ => -1) (k : Int) = -1 := by simp [rv, hf]
      rw [hf, ← bl_n (by simp [qv, hf]), ← bl_s, hrl] at ih
      rw [hy]
      simpa using ih
    have hD : ∀ y, -2147483648 ≤ s9M M row y 253 (8 * i + k) ∧ s9M M row y 253 (8 * i + k) < 2147483648 := fun y => by rw [h253]; exact h0
    refine q_X9_shareOut_58 400 (lfok E (by omega)) ?_
    simp +contextual (disch := first | omega | exact Nat.le_of_ble_eq_true rfl | assumption | exact hD _) only [↓r_X9_shareOut_0, ↓r_X9_shareOut_1, ↓r_X9_shareOut_3, ↓r_X9_shareOut_4, ↓r_X9_shareOut_6, ↓r_X9_shareOut_8, ↓r_X9_shareOut_10, ↓r_X9_shareOut_13, ↓r_X9_shareOut_15, ↓r_X9_shareOut_16, ↓r_X9_shareOut_17, ↓r_X9_shareOut_19, ↓r_X9_shareOut_22, ↓r_X9_shareOut_25, ↓r_X9_shareOut_27, ↓r_X9_shareOut_29, ↓r_X9_shareOut_32, ↓r_X9_shareOut_33, ↓r_X9_shareOut_36, ↓r_X9_shareOut_38, ↓r_X9_shareOut_39, ↓r_X9_shareOut_42, ↓r_X9_shareOut_43, ↓r_X9_shareOut_44, ↓r_X9_shareOut_46, ↓r_X9_shareOut_49, ↓r_X9_shareOut_52, ↓r_X9_shareOut_53, ↓r_X9_shareOut_55, ↓r_X9_shareOut_56, ↓r_X9_shareOut_58, ↓r_X9_shareOut_60, ↓r_X9_shareOut_62, ↓r_X9_shareOut_65, ↓r_X9_shareOut_66, ↓r_X9_shareOut_69, ↓r_X9_shareOut_71, ↓r_X9_shareOut_74, ↓r_X9_shareOut_75, ↓r_X9_shareOut_76, ↓r_X9_shareOut_77, ↓r_X9_shareOut_79, ↓r_X9_shareOut_82, ↓r_X9_shareOut_85, ↓r_X9_shareOut_87, ↓r_X9_shareOut_89, ↓r_X9_shareOut_92, ↓r_X9_shareOut_93, ↓r_X9_shareOut_96, ↓r_X9_shareOut_97, ↓r_X9_shareOut_99, ↓r_X9_shareOut_100, ↓r_X9_shareOut_101, ↓r_X9_shareOut_102, ↓r_X9_shareOut_105, ↓r_X9_shareOut_107, ↓r_X9_shareOut_108, ↓r_X9_shareOut_109, ↓r_X9_shareOut_111, ↓r_X9_shareOut_112, ↓r_X9_shareOut_113, ↓r_X9_shareOut_114, ↓r_X9_shareOut_115, ↓r_X9_shareOut_118, ↓r_X9_shareOut_120, ↓r_X9_shareOut_121, ↓r_X9_shareOut_122, ↓r_X9_shareOut_125, ↓r_X9_shareOut_127, ↓r_X9_shareOut_128, ↓r_X9_shareOut_129, ↓r_X9_shareOut_131, ↓r_X9_shareOut_132, ↓r_X9_shareOut_133, ↓r_X9_shareOut_135, ↓r_X9_shareOut_136, ↓r_X9_shareOut_139, ↓r_X9_shareOut_140, ↓r_X9_shareOut_142, ↓r_X9_shareOut_143, ↓r_X9_shareOut_144, ↓r_X9_shareOut_145, ↓r_X9_shareOut_146, ↓r_X9_shareOut_148, ↓r_X9_shareOut_151, ↓r_X9_shareOut_154, ↓r_X9_shareOut_156, ↓r_X9_shareOut_157, ↓r_X9_shareOut_158, ↓r_X9_shareOut_161, ↓r_X9_shareOut_162, ↓r_X9_shareOut_164, ↓r_X9_shareOut_165, ↓r_X9_shareOut_167, ↓r_X9_shareOut_169, ↓r_X9_shareOut_171, ↓r_X9_shareOut_174, ↓r_X9_shareOut_175, ↓r_X9_shareOut_178, ↓r_X9_shareOut_180, ↓r_X9_shareOut_181, ↓r_X9_shareOut_182, ↓r_X9_shareOut_185, ↓r_X9_shareOut_187, ↓r_X9_shareOut_188, ↓r_X9_shareOut_189, ↓r_X9_shareOut_192, ↓r_X9_shareOut_194, ↓r_X9_shareOut_197, ↓r_X9_shareOut_199, ↓r_X9_shareOut_201, ↓r_X9_shareOut_204, ↓r_X9_shareOut_207, ↓r_X9_shareOut_208, ↓r_X9_shareOut_211, ↓r_X9_shareOut_212, ↓r_X9_shareOut_214, ↓r_X9_shareOut_215, ↓r_X9_shareOut_216, ↓r_X9_shareOut_217, ↓r_X9_shareOut_218, ↓r_X9_shareOut_219, ↓r_X9_shareOut_220, ↓r_X9_shareOut_221, ↓r_X9_shareOut_224, ↓r_X9_shareOut_226, ↓r_X9_shareOut_229, ↓r_X9_shareOut_230, ↓r_X9_shareOut_232, ↓r_X9_shareOut_233, ↓r_X9_shareOut_234, ↓r_X9_shareOut_236, ↓r_X9_shareOut_239, ↓x27, ↓x6_6n, ↓x6_6i, ↓x6_6r, ↓x0, ↓x4_8n, ↓x4_8i, ↓x4_8r, ↓x1_8, ↓x32_3, ↓x3_6, ↓x2_0, ↓x1_1, ↓lf_X9_isNext, ↓x31_0, ↓x31b0, ↓x1_5, ↓x32_0, ↓f9_8, ↓x33, ↓x19, ↓x7_8n, ↓x7_8i, ↓x7_8r, ↓x3_3, ↓x6_8n, ↓x6_8i, ↓x6_8r, ↓x4_10n, ↓x4_10i, ↓x4_10r, ↓x1_10, ↓f9_9, ↓f9_5, ↓x1_2, ↓x8, ↓x21, ↓x22, ↓x26, ↓x23, ↓x3_8, ↓x25, ↓x20, ↓x7_10n, ↓x7_10i, ↓x7_10r, ↓x24, ↓x31_5, ↓x4_11n, ↓x4_11i, ↓x4_11r, ↓x1_11, ↓x7_11n, ↓x7_11i, ↓x7_11r, ↓x29, ↓x48_4, ↓l_249, ↓s_249, ↓l_250, ↓s_250, ↓l_251, ↓s_251, ↓l_252, ↓s_252, ↓l_253, ↓s_253, ↓l_254, ↓s_254, ↓l_255, ↓s_255, ↓l_256, ↓s_256, ↓l_257, ↓s_257, ↓l_258, ↓s_258, ↓l_259, ↓s_259, ↓l_260, ↓s_260, ↓l_261, ↓s_261, ↓l_262, ↓s_262, ↓l_263, ↓s_263, ↓l_264, ↓s_264, ↓l_265, ↓s_265, ↓l_266, ↓s_266, ↓l_267, ↓s_267, ↓l_268, ↓s_268, ↓l_269, ↓s_269, ↓l_270, ↓s_270, ↓l_271, ↓s_271, ↓l_272, ↓s_272, ↓l_273, ↓s_273, ↓l_274, ↓s_274, and_self, and_true, true_and, implies_true, true_implies, Int.reduceEq, Int.reduceLE, Int.reduceLT, not_true_eq_false, not_false_eq_true, false_implies, RTf_eq, eu2, h253]
    refine ⟨fun q => by omega, fun _ => ⟨fun q => ?_, fun q => ⟨fun q2 => ?_, fun q2 => ?_⟩⟩⟩
    · exact hno (by rw [hmk]; simp at q; simp [q])
    · have h9 := hno (by rw [hmk]; simp [q2])
      rw [q2] at h9
      exact h9
    · have ht : m (k : Int) = true := by rw [hmk]; simp [q, q2]
      have hpk := hp k (by omega) (by omega) ht
      have hm := mulb hR.1 hR.2 hpk.1 hpk.2
      have hle := smv_ge (m := m) (v := p) 8 (fun k a b c => (hp k a (by omega) c).1) k (by omega) (by omega) ht
      have hq := divb (R := R) (p := p k) (V := V) hR.1 hpk.1 (by omega) hV0
      have hql : qv R V m p (getv M 254 row) (k : Int) = R * p k / V := by simp [qv, ht]
      have hrl : rv R V m p (fun _ => -1) (k : Int) = R * p k % V := by simp [rv, ht]
      rw [if_pos ht, ← bl_s, ← bl_s, hql, hrl] at ih
      have eup : ∀ a b : Int, upv (upv y.2 (k : Int) a) (k : Int) b = upv y.2 k b := fun a b => by
        funext j
        unfold upv
        split <;> rfl
      have eue : ∀ (f : Vec) (a : Int), upv f (k : Int) a k = a := fun f a => upv_eq
      simp +contextual (disch := first | omega | exact Nat.le_of_ble_eq_true rfl | assumption | exact hD _) only [↓r_X9_shareOut_0, ↓r_X9_shareOut_1, ↓r_X9_shareOut_3, ↓r_X9_shareOut_4, ↓r_X9_shareOut_6, ↓r_X9_shareOut_8, ↓r_X9_shareOut_10, ↓r_X9_shareOut_13, ↓r_X9_shareOut_15, ↓r_X9_shareOut_16, ↓r_X9_shareOut_17, ↓r_X9_shareOut_19, ↓r_X9_shareOut_22, ↓r_X9_shareOut_25, ↓r_X9_shareOut_27, ↓r_X9_shareOut_29, ↓r_X9_shareOut_32, ↓r_X9_shareOut_33, ↓r_X9_shareOut_36, ↓r_X9_shareOut_38, ↓r_X9_shareOut_39, ↓r_X9_shareOut_42, ↓r_X9_shareOut_43, ↓r_X9_shareOut_44, ↓r_X9_shareOut_46, ↓r_X9_shareOut_49, ↓r_X9_shareOut_52, ↓r_X9_shareOut_53, ↓r_X9_shareOut_55, ↓r_X9_shareOut_56, ↓r_X9_shareOut_58, ↓r_X9_shareOut_60, ↓r_X9_shareOut_62, ↓r_X9_shareOut_65, ↓r_X9_shareOut_66, ↓r_X9_shareOut_69, ↓r_X9_shareOut_71, ↓r_X9_shareOut_74, ↓r_X9_shareOut_75, ↓r_X9_shareOut_76, ↓r_X9_shareOut_77, ↓r_X9_shareOut_79, ↓r_X9_shareOut_82, ↓r_X9_shareOut_85, ↓r_X9_shareOut_87, ↓r_X9_shareOut_89, ↓r_X9_shareOut_92, ↓r_X9_shareOut_93, ↓r_X9_shareOut_96, ↓r_X9_shareOut_97, ↓r_X9_shareOut_99, ↓r_X9_shareOut_100, ↓r_X9_shareOut_101, ↓r_X9_shareOut_102, ↓r_X9_shareOut_105, ↓r_X9_shareOut_107, ↓r_X9_shareOut_108, ↓r_X9_shareOut_109, ↓r_X9_shareOut_111, ↓r_X9_shareOut_112, ↓r_X9_shareOut_113, ↓r_X9_shareOut_114, ↓r_X9_shareOut_115, ↓r_X9_shareOut_118, ↓r_X9_shareOut_120, ↓r_X9_shareOut_121, ↓r_X9_shareOut_122, ↓r_X9_shareOut_125, ↓r_X9_shareOut_127, ↓r_X9_shareOut_128, ↓r_X9_shareOut_129, ↓r_X9_shareOut_131, ↓r_X9_shareOut_132, ↓r_X9_shareOut_133, ↓r_X9_shareOut_135, ↓r_X9_shareOut_136, ↓r_X9_shareOut_139, ↓r_X9_shareOut_140, ↓r_X9_shareOut_142, ↓r_X9_shareOut_143, ↓r_X9_shareOut_144, ↓r_X9_shareOut_145, ↓r_X9_shareOut_146, ↓r_X9_shareOut_148, ↓r_X9_shareOut_151, ↓r_X9_shareOut_154, ↓r_X9_shareOut_156, ↓r_X9_shareOut_157, ↓r_X9_shareOut_158, ↓r_X9_shareOut_161, ↓r_X9_shareOut_162, ↓r_X9_shareOut_164, ↓r_X9_shareOut_165, ↓r_X9_shareOut_167, ↓r_X9_shareOut_169, ↓r_X9_shareOut_171, ↓r_X9_shareOut_174, ↓r_X9_shareOut_175, ↓r_X9_shareOut_178, ↓r_X9_shareOut_180, ↓r_X9_shareOut_181, ↓r_X9_shareOut_182, ↓r_X9_shareOut_185, ↓r_X9_shareOut_187, ↓r_X9_shareOut_188, ↓r_X9_shareOut_189, ↓r_X9_shareOut_192, ↓r_X9_shareOut_194, ↓r_X9_shareOut_197, ↓r_X9_shareOut_199, ↓r_X9_shareOut_201, ↓r_X9_shareOut_204, ↓r_X9_shareOut_207, ↓r_X9_shareOut_208, ↓r_X9_shareOut_211, ↓r_X9_shareOut_212, ↓r_X9_shareOut_214, ↓r_X9_shareOut_215, ↓r_X9_shareOut_216, ↓r_X9_shareOut_217, ↓r_X9_shareOut_218, ↓r_X9_shareOut_219, ↓r_X9_shareOut_220, ↓r_X9_shareOut_221, ↓r_X9_shareOut_224, ↓r_X9_shareOut_226, ↓r_X9_shareOut_229, ↓r_X9_shareOut_230, ↓r_X9_shareOut_232, ↓r_X9_shareOut_233, ↓r_X9_shareOut_234, ↓r_X9_shareOut_236, ↓r_X9_shareOut_239, ↓x27, ↓x6_6n, ↓x6_6i, ↓x6_6r, ↓x0, ↓x4_8n, ↓x4_8i, ↓x4_8r, ↓x1_8, ↓x32_3, ↓x3_6, ↓x2_0, ↓x1_1, ↓lf_X9_isNext, ↓x31_0, ↓x31b0, ↓x1_5, ↓x32_0, ↓f9_8, ↓x33, ↓x19, ↓x7_8n, ↓x7_8i, ↓x7_8r, ↓x3_3, ↓x6_8n, ↓x6_8i, ↓x6_8r, ↓x4_10n, ↓x4_10i, ↓x4_10r, ↓x1_10, ↓f9_9, ↓f9_5, ↓x1_2, ↓x8, ↓x21, ↓x22, ↓x26, ↓x23, ↓x3_8, ↓x25, ↓x20, ↓x7_10n, ↓x7_10i, ↓x7_10r, ↓x24, ↓x31_5, ↓x4_11n, ↓x4_11i, ↓x4_11r, ↓x1_11, ↓x7_11n, ↓x7_11i, ↓x7_11r, ↓x29, ↓x48_4, ↓l_249, ↓s_249, ↓l_250, ↓s_250, ↓l_251, ↓s_251, ↓l_252, ↓s_252, ↓l_253, ↓s_253, ↓l_254, ↓s_254, ↓l_255, ↓s_255, ↓l_256, ↓s_256, ↓l_257, ↓s_257, ↓l_258, ↓s_258, ↓l_259, ↓s_259, ↓l_260, ↓s_260, ↓l_261, ↓s_261, ↓l_262, ↓s_262, ↓l_263, ↓s_263, ↓l_264, ↓s_264, ↓l_265, ↓s_265, ↓l_266, ↓s_266, ↓l_267, ↓s_267, ↓l_268, ↓s_268, ↓l_269, ↓s_269, ↓l_270, ↓s_270, ↓l_271, ↓s_271, ↓l_272, ↓s_272, ↓l_273, ↓s_273, ↓l_274, ↓s_274, and_self, and_true, true_and, implies_true, true_implies, Int.reduceEq, Int.reduceLE, Int.reduceLT, not_true_eq_false, not_false_eq_true, false_implies, RTf_eq, eu2, eu1, h255, el, eue, eup]
      rw [Int.sub_sub, hy]
      exact ih
end
