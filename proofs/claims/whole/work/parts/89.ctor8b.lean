/-! ===== the class's constructor: its loops ===== -/
def RWc (c : Int) : AC := if (c - 17) % 3 = 0 then .inr (5, [vr (c + 1), vr (c + 2), vi 0, vi 0, vi 0]) else .inl (0, 8, fun _ => vi 0)
def WKc (c : Int) : AC := if (c - 209) % 3 = 0 then .inr (7, [vr (c + 1), vr (c + 2), vi 0, vi 0, vi 0, vi 0, vi 0, vi 0, vi (-9), vi 0, vi 0, vi 0, vi 0]) else .inl (0, 8, fun _ => vi 0)
def rfA (kk : Nat) (len b m : Int) (k : Nat) : AC := .inl (kk, len, fun z => if 0 ≤ z ∧ z < (k : Int) then vr (b + m * z) else vn)
def TX (r w q : Nat) : Int → Option AC := fun c => if c = 0 then some (.inr (8, fs8)) else if c = 7 then some (rfA 3 64 17 3 r) else if c = 12 then some (rfA 4 12 209 3 w) else if c = 13 then some (rfA 5 3 245 1 q) else if 1 ≤ c ∧ c < 17 then some (arrX (c - 1)) else if 17 ≤ c ∧ c < 17 + 3 * (r : Int) then some (RWc c) else if 209 ≤ c ∧ c < 209 + 3 * (w : Int) then some (WKc c) else if 245 ≤ c ∧ c < 245 + (q : Int) then some (.inr (if c = 245 then 4 else if c = 246 then 2 else 1, [])) else none
theorem rfA_s {kk : Nat} {len b m : Int} {k : Nat} : Sum.inl (kk, len, updz (fun z => if 0 ≤ z ∧ z < (k : Int) then vr (b + m * z) else vn) (k : Int) (vr (b + m * (k : Int)))) = rfA kk len b m (k + 1) := by
  unfold rfA
  congr 2
  refine Prod.ext rfl ?_
  funext z
  show (if z = (k : Int) then vr (b + m * (k : Int)) else if 0 ≤ z ∧ z < (k : Int) then vr (b + m * z) else vn) = (if 0 ≤ z ∧ z < ((k + 1 : Nat) : Int) then vr (b + m * z) else vn)
  by_cases y : z = (k : Int)
  · have p : 0 ≤ z ∧ z < ((k + 1 : Nat) : Int) := by omega
    rw [if_pos y, if_pos p, y]
  · rw [if_neg y]
    by_cases x : 0 ≤ z ∧ z < (k : Int)
    · have p : 0 ≤ z ∧ z < ((k + 1 : Nat) : Int) := by omega
      rw [if_pos x, if_pos p]
    · have p : ¬ (0 ≤ z ∧ z < ((k + 1 : Nat) : Int)) := by omega
      rw [if_neg x, if_neg p]
theorem rfA_0 {kk : Nat} {len b m : Int} : rfA kk len b m 0 = .inl (kk, len, fun _ => vn) := by
  unfold rfA
  congr 2
  refine Prod.ext rfl ?_
  funext z
  show (if 0 ≤ z ∧ z < ((0 : Nat) : Int) then vr (b + m * z) else vn) = vn
  rw [if_neg (by omega)]
theorem TX_000 : CT T0 1 16 arrX 0 8 fs8 = TX 0 0 0 := by
  funext c
  unfold CT TX T0
  rw [rfA_0, rfA_0, rfA_0]
  by_cases c0 : c = 0
  · rw [if_pos c0, if_pos c0]
  · rw [if_neg c0, if_neg c0]
    by_cases x : 1 ≤ c ∧ c < 17
    · have p : ((1 : Nat) : Int) ≤ c ∧ c < ((1 : Nat) : Int) + ((16 : Nat) : Int) := by omega
      rw [if_pos p, if_pos x]
      by_cases c7 : c = 7
      · rw [if_pos c7, c7]; rfl
      · rw [if_neg c7]
        by_cases c12 : c = 12
        · rw [if_pos c12, c12]; rfl
        · rw [if_neg c12]
          by_cases c13 : c = 13
          · rw [if_pos c13, c13]; rfl
          · rw [if_neg c13]; rfl
    · have p : ¬ (((1 : Nat) : Int) ≤ c ∧ c < ((1 : Nat) : Int) + ((16 : Nat) : Int)) := by omega
      rw [if_neg p, if_neg (by omega), if_neg (by omega), if_neg (by omega), if_neg x, if_neg (by omega), if_neg (by omega), if_neg (by omega)]
section
variable {E : ET} {S : SCR} {lm : Nat × Nat} {RT : RTy} {g : GT}
theorem l_rows (l3 : 248 ≤ lm.1) (l4 : 1900 ≤ lm.2) (hr : G E g mi_X8_init 5 lm RT 141 [some (vr 0), some (vi 0)] [] (HH S 209 1552 (TX 64 0 0))) :
    ∀ k : Nat, k ≤ 64 → G E g mi_X8_init 5 lm RT 114 [some (vr 0), some (vi (k : Int))] [] (HH S (17 + 3 * k) (208 + 21 * k) (TX k 0 0)) := by
  refine down ?_ ?_
  · refine q_X8_init_114 400 (lfok E (by omega)) ?_
    simp +contextual (disch := first | omega | exact Nat.le_of_ble_eq_true rfl | assumption) only [↓r_X8_init_0, ↓r_X8_init_1, ↓r_X8_init_4, ↓r_X8_init_5, ↓r_X8_init_8, ↓r_X8_init_9, ↓r_X8_init_12, ↓r_X8_init_15, ↓r_X8_init_16, ↓r_X8_init_18, ↓r_X8_init_21, ↓r_X8_init_24, ↓r_X8_init_25, ↓r_X8_init_28, ↓r_X8_init_29, ↓r_X8_init_32, ↓r_X8_init_35, ↓r_X8_init_36, ↓r_X8_init_38, ↓r_X8_init_41, ↓r_X8_init_44, ↓r_X8_init_45, ↓r_X8_init_46, ↓r_X8_init_49, ↓r_X8_init_52, ↓r_X8_init_53, ↓r_X8_init_56, ↓r_X8_init_57, ↓r_X8_init_60, ↓r_X8_init_63, ↓r_X8_init_64, ↓r_X8_init_66, ↓r_X8_init_68, ↓r_X8_init_71, ↓r_X8_init_72, ↓r_X8_init_74, ↓r_X8_init_76, ↓r_X8_init_79, ↓r_X8_init_80, ↓r_X8_init_82, ↓r_X8_init_85, ↓r_X8_init_86, ↓r_X8_init_89, ↓r_X8_init_92, ↓r_X8_init_93, ↓r_X8_init_94, ↓r_X8_init_97, ↓r_X8_init_98, ↓r_X8_init_99, ↓r_X8_init_102, ↓r_X8_init_103, ↓r_X8_init_104, ↓r_X8_init_107, ↓r_X8_init_108, ↓r_X8_init_109, ↓r_X8_init_112, ↓r_X8_init_113, ↓r_X8_init_114, ↓r_X8_init_115, ↓r_X8_init_117, ↓r_X8_init_120, ↓r_X8_init_121, ↓r_X8_init_124, ↓r_X8_init_125, ↓r_X8_init_128, ↓r_X8_init_129, ↓r_X8_init_132, ↓r_X8_init_133, ↓r_X8_init_136, ↓r_X8_init_139, ↓r_X8_init_140, ↓r_X8_init_141, ↓r_X8_init_142, ↓r_X8_init_144, ↓r_X8_init_147, ↓r_X8_init_148, ↓r_X8_init_151, ↓r_X8_init_152, ↓r_X8_init_155, ↓r_X8_init_156, ↓r_X8_init_159, ↓r_X8_init_160, ↓r_X8_init_163, ↓r_X8_init_166, ↓r_X8_init_167, ↓r_X8_init_170, ↓r_X8_init_171, ↓r_X8_init_174, ↓r_X8_init_175, ↓r_X8_init_178, ↓r_X8_init_179, ↓r_X8_init_180, ↓r_X8_init_183, ↓r_X8_init_184, ↓r_X8_init_187, ↓r_X8_init_188, ↓r_X8_init_191, ↓r_X8_init_192, ↓r_X8_init_193, ↓r_X8_init_196, ↓r_X8_init_197, ↓r_X8_init_200, ↓r_X8_init_201, ↓r_X8_init_204, ↓r_X8_init_205, ↓x2_0, ↓x28i, ↓x28r, ↓x0, ↓p8_8, ↓p8_9, ↓p8_10, ↓p8_11, ↓p8_12, ↓p8_13, ↓x4_1n, ↓x4_1i, ↓x4_1r, ↓x1_1, ↓x32_3, ↓f8_1, ↓x7_1n, ↓x7_1i, ↓x7_1r, ↓x33, ↓f8_3, ↓f8_4, ↓x48_4, and_self, and_true, true_and, implies_true, true_implies, Int.reduceEq, Int.reduceLE, Int.reduceLT, not_true_eq_false, not_false_eq_true, false_implies, RTf_eq]
    exact ⟨fun _ => hr, fun q => absurd (by omega) q⟩
  · intro k hk ih
    have t0 : TX k 0 0 0 = some (.inr (8, fs8)) := by unfold TX; rw [if_pos rfl]
    have r35 : ∀ (K : KT) (nx : Nat) (tb : List Nat) (L : LV) (st : List AV), exI E 5 lm RT lfF K (35, ((8 : Nat) : Int), ((1 : Nat) : Int), nx, tb) L (vr 0 :: st) (HH S (17 + 3 * k) (208 + 21 * k) (TX k 0 0)) = K nx L (vr 7 :: st) (HH S (17 + 3 * k) (208 + 21 * k) (TX k 0 0)) := fun K nx tb L st => g35 (by omega) t0 rfl
    have d5 : (dfl 5).length = 5 := rfl
    obtain ⟨T1, hT1⟩ : ∃ T1 : Int → Option AC, T1 = (fun c' => if c' = ((17 + 3 * k : Nat) : Int) then some (.inr (5, dfl 5)) else TX k 0 0 c') := ⟨_, rfl⟩
    have t1 : T1 ((17 + 3 * k : Nat) : Int) = some (.inr (5, dfl 5)) := by rw [hT1]; dsimp only; rw [if_pos rfl]
    have cI := c_init5 (E := E) (S := S) (T := T1) (n := 17 + 3 * k + 1) (sl := 208 + 21 * k + (dfl 5).length) (c := ((17 + 3 * k : Nat) : Int)) t1 (by omega) (by omega)
    obtain ⟨fr, efr⟩ : ∃ fr : List AV, fr = [vr ((17 + 3 * k + 1 : Nat) : Int), vr (((17 + 3 * k + 1 : Nat) : Int) + 1), vi 0, vi 0, vi 0] := ⟨_, rfl⟩
    rw [← efr] at cI
    obtain ⟨T2, hT2⟩ : ∃ T2 : Int → Option AC, T2 = CT T1 (17 + 3 * k + 1) 2 arr8 ((17 + 3 * k : Nat) : Int) 5 fr := ⟨_, rfl⟩
    have e2 : cHH S (17 + 3 * k + 1) (208 + 21 * k + (dfl 5).length + 16) 2 arr8 T1 ((17 + 3 * k : Nat) : Int) 5 fr = HH S (17 + 3 * k + 1 + 2) (208 + 21 * k + (dfl 5).length + 16) T2 := by rw [hT2]; rfl
    rw [e2] at cI
    have t2 : T2 ((17 + 3 * k : Nat) : Int) = some (.inr (5, fr)) := by rw [hT2]; unfold CT; rw [if_pos rfl]
    have t7 : T2 7 = some (.inl (3, 64, fun z => if 0 ≤ z ∧ z < (k : Int) then vr (17 + 3 * z) else vn)) := by
      rw [hT2]; unfold CT
      rw [if_neg (by omega), if_neg (by omega), hT1]
      dsimp only
      rw [if_neg (by omega)]; unfold TX; rw [if_neg (by omega), if_pos rfl]; rfl
    have r50 : ∀ (K : KT) (nx : Nat) (a b : Int) (tb : List Nat) (L : LV) (st : List AV), exI E 5 lm RT lfF K (50, a, b, nx, tb) L (vr ((17 + 3 * k : Nat) : Int) :: vi (k : Int) :: vr 7 :: st) (HH S (17 + 3 * k + 1 + 2) (208 + 21 * k + (dfl 5).length + 16) T2) = K nx L st (HH S (17 + 3 * (k + 1)) (208 + 21 * (k + 1)) (TX (k + 1) 0 0)) := fun K nx a b tb L st => by
      rw [g50 (by omega) (by omega) t2 t7 rfl (by omega)]
      congr 1
      show HH S (17 + 3 * k + 1 + 2) (208 + 21 * k + 5 + 16) _ = _
      rw [show 17 + 3 * k + 1 + 2 = 17 + 3 * (k + 1) by omega, show 208 + 21 * k + 5 + 16 = 208 + 21 * (k + 1) by omega]
      congr 1
      funext c'
      rw [show (vr ((17 + 3 * k : Nat) : Int) : AV) = vr (17 + 3 * (k : Int)) by rw [show ((17 + 3 * k : Nat) : Int) = 17 + 3 * (k : Int) by omega], rfA_s]
      by_cases c7 : c' = 7
      · rw [if_pos c7, c7]; unfold TX; rw [if_neg (by omega), if_pos rfl]
      · rw [if_neg c7, hT2]
        unfold CT
        by_cases y : c' = ((17 + 3 * k : Nat) : Int)
        · rw [if_pos y]; unfold TX
          have p : 17 ≤ c' ∧ c' < 17 + 3 * ((k + 1 : Nat) : Int) := by omega
          rw [if_neg (by omega), if_neg (by omega), if_neg (by omega), if_neg (by omega), if_neg (by omega), if_pos p]
          unfold RWc
          rw [if_pos (by omega), efr, show ((17 + 3 * k + 1 : Nat) : Int) = c' + 1 by omega, show c' + 1 + 1 = c' + 2 by omega]
        · rw [if_neg y]
          by_cases x : ((17 + 3 * k + 1 : Nat) : Int) ≤ c' ∧ c' < ((17 + 3 * k + 1 : Nat) : Int) + ((2 : Nat) : Int)
          · rw [if_pos x]; unfold TX
            have p : 17 ≤ c' ∧ c' < 17 + 3 * ((k + 1 : Nat) : Int) := by omega
            rw [if_neg (by omega), if_neg (by omega), if_neg (by omega), if_neg (by omega), if_neg (by omega), if_pos p]
            unfold RWc
            rw [if_neg (by omega)]
            rfl
          · rw [if_neg x, hT1]
            dsimp only
            rw [if_neg y]
            unfold TX
            by_cases c0 : c' = 0
            · rw [if_pos c0, if_pos c0]
            · rw [if_neg c0, if_neg c0, if_neg c7, if_neg c7]
              by_cases c12 : c' = 12
              · rw [if_pos c12, if_pos c12]
              · rw [if_neg c12, if_neg c12]
                by_cases c13 : c' = 13
                · rw [if_pos c13, if_pos c13]
                · rw [if_neg c13, if_neg c13]
                  by_cases z1 : 1 ≤ c' ∧ c' < 17
                  · rw [if_pos z1, if_pos z1]
                  · rw [if_neg z1, if_neg z1]
                    by_cases z2 : 17 ≤ c' ∧ c' < 17 + 3 * (k : Int)
                    · have p : 17 ≤ c' ∧ c' < 17 + 3 * ((k + 1 : Nat) : Int) := by omega
                      rw [if_pos z2, if_pos p]
                    · have p : ¬ (17 ≤ c' ∧ c' < 17 + 3 * ((k + 1 : Nat) : Int)) := by omega
                      rw [if_neg z2, if_neg p]
    have l5 : 17 + 3 * k + 1 ≤ lm.1 := by omega
    have l6 : 208 + 21 * k + (dfl 5).length ≤ lm.2 := by rw [d5]; omega
    refine q_X8_init_114 400 (lfok E (by omega)) ?_
    simp +contextual (disch := first | omega | exact Nat.le_of_ble_eq_true rfl | assumption) only [↓r_X8_init_0, ↓r_X8_init_1, ↓r_X8_init_4, ↓r_X8_init_5, ↓r_X8_init_8, ↓r_X8_init_9, ↓r_X8_init_12, ↓r_X8_init_15, ↓r_X8_init_16, ↓r_X8_init_18, ↓r_X8_init_21, ↓r_X8_init_24, ↓r_X8_init_25, ↓r_X8_init_28, ↓r_X8_init_29, ↓r_X8_init_32, ↓r_X8_init_35, ↓r_X8_init_36, ↓r_X8_init_38, ↓r_X8_init_41, ↓r_X8_init_44, ↓r_X8_init_45, ↓r_X8_init_46, ↓r_X8_init_49, ↓r_X8_init_52, ↓r_X8_init_53, ↓r_X8_init_56, ↓r_X8_init_57, ↓r_X8_init_60, ↓r_X8_init_63, ↓r_X8_init_64, ↓r_X8_init_66, ↓r_X8_init_68, ↓r_X8_init_71, ↓r_X8_init_72, ↓r_X8_init_74, ↓r_X8_init_76, ↓r_X8_init_79, ↓r_X8_init_80, ↓r_X8_init_82, ↓r_X8_init_85, ↓r_X8_init_86, ↓r_X8_init_89, ↓r_X8_init_92, ↓r_X8_init_93, ↓r_X8_init_94, ↓r_X8_init_97, ↓r_X8_init_98, ↓r_X8_init_99, ↓r_X8_init_102, ↓r_X8_init_103, ↓r_X8_init_104, ↓r_X8_init_107, ↓r_X8_init_108, ↓r_X8_init_109, ↓r_X8_init_112, ↓r_X8_init_113, ↓r_X8_init_114, ↓r_X8_init_115, ↓r_X8_init_117, ↓r_X8_init_120, ↓r_X8_init_121, ↓r_X8_init_124, ↓r_X8_init_125, ↓r_X8_init_128, ↓r_X8_init_129, ↓r_X8_init_132, ↓r_X8_init_133, ↓r_X8_init_136, ↓r_X8_init_139, ↓r_X8_init_140, ↓r_X8_init_141, ↓r_X8_init_142, ↓r_X8_init_144, ↓r_X8_init_147, ↓r_X8_init_148, ↓r_X8_init_151, ↓r_X8_init_152, ↓r_X8_init_155, ↓r_X8_init_156, ↓r_X8_init_159, ↓r_X8_init_160, ↓r_X8_init_163, ↓r_X8_init_166, ↓r_X8_init_167, ↓r_X8_init_170, ↓r_X8_init_171, ↓r_X8_init_174, ↓r_X8_init_175, ↓r_X8_init_178, ↓r_X8_init_179, ↓r_X8_init_180, ↓r_X8_init_183, ↓r_X8_init_184, ↓r_X8_init_187, ↓r_X8_init_188, ↓r_X8_init_191, ↓r_X8_init_192, ↓r_X8_init_193, ↓r_X8_init_196, ↓r_X8_init_197, ↓r_X8_init_200, ↓r_X8_init_201, ↓r_X8_init_204, ↓r_X8_init_205, ↓x2_0, ↓x28i, ↓x28r, ↓x0, ↓p8_8, ↓p8_9, ↓p8_10, ↓p8_11, ↓p8_12, ↓p8_13, ↓x4_1n, ↓x4_1i, ↓x4_1r, ↓x1_1, ↓x32_3, ↓f8_1, ↓x7_1n, ↓x7_1i, ↓x7_1r, ↓x33, ↓f8_3, ↓f8_4, ↓x48_4, and_self, and_true, true_and, implies_true, true_implies, Int.reduceEq, Int.reduceLE, Int.reduceLT, not_true_eq_false, not_false_eq_true, false_implies, RTf_eq, ↓r35, ↓g41, ↓k53_1]
    refine ⟨fun q => by omega, fun _ => ?_⟩
    rw [← hT1]
    refine ck_n cI (by omega) ⟨?_, ?_, ?_, ?_⟩ (by simp) ?_
    · show 17 + 3 * k + 1 ≤ 17 + 3 * k + 1 + 2; omega
    · show 17 + 3 * k + 1 + 2 ≤ lm.1; omega
    · show 208 + 21 * k + (dfl 5).length ≤ 208 + 21 * k + (dfl 5).length + 16; omega
    · show 208 + 21 * k + (dfl 5).length + 16 ≤ lm.2; rw [d5]; omega
    simp +contextual (disch := first | omega | exact Nat.le_of_ble_eq_true rfl | assumption) only [↓r_X8_init_0, ↓r_X8_init_1, ↓r_X8_init_4, ↓r_X8_init_5, ↓r_X8_init_8, ↓r_X8_init_9, ↓r_X8_init_12, ↓r_X8_init_15, ↓r_X8_init_16, ↓r_X8_init_18, ↓r_X8_init_21, ↓r_X8_init_24, ↓r_X8_init_25, ↓r_X8_init_28, ↓r_X8_init_29, ↓r_X8_init_32, ↓r_X8_init_35, ↓r_X8_init_36, ↓r_X8_init_38, ↓r_X8_init_41, ↓r_X8_init_44, ↓r_X8_init_45, ↓r_X8_init_46, ↓r_X8_init_49, ↓r_X8_init_52, ↓r_X8_init_53, ↓r_X8_init_56, ↓r_X8_init_57, ↓r_X8_init_60, ↓r_X8_init_63, ↓r_X8_init_64, ↓r_X8_init_66, ↓r_X8_init_68, ↓r_X8_init_71, ↓r_X8_init_72, ↓r_X8_init_74, ↓r_X8_init_76, ↓r_X8_init_79, ↓r_X8_init_80, ↓r_X8_init_82, ↓r_X8_init_85, ↓r_X8_init_86, ↓r_X8_init_89, ↓r_X8_init_92, ↓r_X8_init_93, ↓r_X8_init_94, ↓r_X8_init_97, ↓r_X8_init_98, ↓r_X8_init_99, ↓r_X8_init_102, ↓r_X8_init_103, ↓r_X8_init_104, ↓r_X8_init_107, ↓r_X8_init_108, ↓r_X8_init_109, ↓r_X8_init_112, ↓r_X8_init_113, ↓r_X8_init_114, ↓r_X8_init_115, ↓r_X8_init_117, ↓r_X8_init_120, ↓r_X8_init_121, ↓r_X8_init_124, ↓r_X8_init_125, ↓r_X8_init_128, ↓r_X8_init_129, ↓r_X8_init_132, ↓r_X8_init_133, ↓r_X8_init_136, ↓r_X8_init_139, ↓r_X8_init_140, ↓r_X8_init_141, ↓r_X8_init_142, ↓r_X8_init_144, ↓r_X8_init_147, ↓r_X8_init_148, ↓r_X8_init_151, ↓r_X8_init_152, ↓r_X8_init_155, ↓r_X8_init_156, ↓r_X8_init_159, ↓r_X8_init_160, ↓r_X8_init_163, ↓r_X8_init_166, ↓r_X8_init_167, ↓r_X8_init_170, ↓r_X8_init_171, ↓r_X8_init_174, ↓r_X8_init_175, ↓r_X8_init_178, ↓r_X8_init_179, ↓r_X8_init_180, ↓r_X8_init_183, ↓r_X8_init_184, ↓r_X8_init_187, ↓r_X8_init_188, ↓r_X8_init_191, ↓r_X8_init_192, ↓r_X8_init_193, ↓r_X8_init_196, ↓r_X8_init_197, ↓r_X8_init_200, ↓r_X8_init_201, ↓r_X8_init_204, ↓r_X8_init_205, ↓x2_0, ↓x28i, ↓x28r, ↓x0, ↓p8_8, ↓p8_9, ↓p8_10, ↓p8_11, ↓p8_12, ↓p8_13, ↓x4_1n, ↓x4_1i, ↓x4_1r, ↓x1_1, ↓x32_3, ↓f8_1, ↓x7_1n, ↓x7_1i, ↓x7_1r, ↓x33, ↓f8_3, ↓f8_4, ↓x48_4, and_self, and_true, true_and, implies_true, true_implies, Int.reduceEq, Int.reduceLE, Int.reduceLT, not_true_eq_false, not_false_eq_true, false_implies, RTf_eq, ↓r50]
    exact ih
theorem l_walk (l3 : 248 ≤ lm.1) (l4 : 1900 ≤ lm.2) (hr : G E g mi_X8_init 5 lm RT 166 [some (vr 0), some (vi 12)] [] (HH S 245 1900 (TX 64 12 0))) :
    ∀ k : Nat, k ≤ 12 → G E g mi_X8_init 5 lm RT 141 [some (vr 0), some (vi (k : Int))] [] (HH S (209 + 3 * k) (1552 + 29 * k) (TX 64 k 0)) := by
  refine down ?_ ?_
  · refine q_X8_init_141 2 (lfok E (by omega)) ?_
    simp +contextual (disch := first | omega | exact Nat.le_of_ble_eq_true rfl | assumption) only [↓r_X8_init_0, ↓r_X8_init_1, ↓r_X8_init_4, ↓r_X8_init_5, ↓r_X8_init_8, ↓r_X8_init_9, ↓r_X8_init_12, ↓r_X8_init_15, ↓r_X8_init_16, ↓r_X8_init_18, ↓r_X8_init_21, ↓r_X8_init_24, ↓r_X8_init_25, ↓r_X8_init_28, ↓r_X8_init_29, ↓r_X8_init_32, ↓r_X8_init_35, ↓r_X8_init_36, ↓r_X8_init_38, ↓r_X8_init_41, ↓r_X8_init_44, ↓r_X8_init_45, ↓r_X8_init_46, ↓r_X8_init_49, ↓r_X8_init_52, ↓r_X8_init_53, ↓r_X8_init_56, ↓r_X8_init_57, ↓r_X8_init_60, ↓r_X8_init_63, ↓r_X8_init_64, ↓r_X8_init_66, ↓r_X8_init_68, ↓r_X8_init_71, ↓r_X8_init_72, ↓r_X8_init_74, ↓r_X8_init_76, ↓r_X8_init_79, ↓r_X8_init_80, ↓r_X8_init_82, ↓r_X8_init_85, ↓r_X8_init_86, ↓r_X8_init_89, ↓r_X8_init_92, ↓r_X8_init_93, ↓r_X8_init_94, ↓r_X8_init_97, ↓r_X8_init_98, ↓r_X8_init_99, ↓r_X8_init_102, ↓r_X8_init_103, ↓r_X8_init_104, ↓r_X8_init_107, ↓r_X8_init_108, ↓r_X8_init_109, ↓r_X8_init_112, ↓r_X8_init_113, ↓r_X8_init_114, ↓r_X8_init_115, ↓r_X8_init_117, ↓r_X8_init_120, ↓r_X8_init_121, ↓r_X8_init_124, ↓r_X8_init_125, ↓r_X8_init_128, ↓r_X8_init_129, ↓r_X8_init_132, ↓r_X8_init_133, ↓r_X8_init_136, ↓r_X8_init_139, ↓r_X8_init_140, ↓r_X8_init_141, ↓r_X8_init_142, ↓r_X8_init_144, ↓r_X8_init_147, ↓r_X8_init_148, ↓r_X8_init_151, ↓r_X8_init_152, ↓r_X8_init_155, ↓r_X8_init_156, ↓r_X8_init_159, ↓r_X8_init_160, ↓r_X8_init_163, ↓r_X8_init_166, ↓r_X8_init_167, ↓r_X8_init_170, ↓r_X8_init_171, ↓r_X8_init_174, ↓r_X8_init_175, ↓r_X8_init_178, ↓r_X8_init_179, ↓r_X8_init_180, ↓r_X8_init_183, ↓r_X8_init_184, ↓r_X8_init_187, ↓r_X8_init_188, ↓r_X8_init_191, ↓r_X8_init_192, ↓r_X8_init_193, ↓r_X8_init_196, ↓r_X8_init_197, ↓r_X8_init_200, ↓r_X8_init_201, ↓r_X8_init_204, ↓r_X8_init_205, ↓x2_0, ↓x28i, ↓x28r, ↓x0, ↓p8_8, ↓p8_9, ↓p8_10, ↓p8_11, ↓p8_12, ↓p8_13, ↓x4_1n, ↓x4_1i, ↓x4_1r, ↓x1_1, ↓x32_3, ↓f8_1, ↓x7_1n, ↓x7_1i, ↓x7_1r, ↓x33, ↓f8_3, ↓f8_4, ↓x48_4, and_self, and_true, true_and, implies_true, true_implies, Int.reduceEq, Int.reduceLE, Int.reduceLT, not_true_eq_false, not_false_eq_true, false_implies, RTf_eq]
    exact ⟨fun _ => hr, fun q => absurd (by omega) q⟩
  · intro k hk ih
    have t0 : TX 64 k 0 0 = some (.inr (8, fs8)) := by unfold TX; rw [if_pos rfl]
    have r35 : ∀ (K : KT) (nx : Nat) (tb : List Nat) (L : LV) (st : List AV), exI E 5 lm RT lfF K (35, ((8 : Nat) : Int), ((3 : Nat) : Int), nx, tb) L (vr 0 :: st) (HH S (209 + 3 * k) (1552 + 29 * k) (TX 64 k 0)) = K nx L (vr 12 :: st) (HH S (209 + 3 * k) (1552 + 29 * k) (TX 64 k 0)) := fun K nx tb L st => g35 (by omega) t0 rfl
    have d5 : (dfl 7).length = 13 := rfl
    obtain ⟨T1, hT1⟩ : ∃ T1 : Int → Option AC, T1 = (fun c' => if c' = ((209 + 3 * k : Nat) : Int) then some (.inr (7, dfl 7)) else TX 64 k 0 c') := ⟨_, rfl⟩
    have t1 : T1 ((209 + 3 * k : Nat) : Int) = some (.inr (7, dfl 7)) := by rw [hT1]; dsimp only; rw [if_pos rfl]
    have cI := c_init7 (E := E) (S := S) (T := T1) (n := 209 + 3 * k + 1) (sl := 1552 + 29 * k + (dfl 7).length) (c := ((209 + 3 * k : Nat) : Int)) t1 (by omega) (by omega)
    obtain ⟨fr, efr⟩ : ∃ fr : List AV, fr = [vr ((209 + 3 * k + 1 : Nat) : Int), vr (((209 + 3 * k + 1 : Nat) : Int) + 1), vi 0, vi 0, vi 0, vi 0, vi 0, vi 0, vi (-9), vi 0, vi 0, vi 0, vi 0] := ⟨_, rfl⟩
    rw [← efr] at cI
    obtain ⟨T2, hT2⟩ : ∃ T2 : Int → Option AC, T2 = CT T1 (209 + 3 * k + 1) 2 arr8 ((209 + 3 * k : Nat) : Int) 7 fr := ⟨_, rfl⟩
    have e2 : cHH S (209 + 3 * k + 1) (1552 + 29 * k + (dfl 7).length + 16) 2 arr8 T1 ((209 + 3 * k : Nat) : Int) 7 fr = HH S (209 + 3 * k + 1 + 2) (1552 + 29 * k + (dfl 7).length + 16) T2 := by rw [hT2]; rfl
    rw [e2] at cI
    have t2 : T2 ((209 + 3 * k : Nat) : Int) = some (.inr (7, fr)) := by rw [hT2]; unfold CT; rw [if_pos rfl]
    have t7 : T2 12 = some (.inl (4, 12, fun z => if 0 ≤ z ∧ z < (k : Int) then vr (209 + 3 * z) else vn)) := by
      rw [hT2]; unfold CT
      rw [if_neg (by omega), if_neg (by omega), hT1]
      dsimp only
      rw [if_neg (by omega)]; unfold TX; rw [if_neg (by omega), if_neg (by omega), if_pos rfl]; rfl
    have r50 : ∀ (K : KT) (nx : Nat) (a b : Int) (tb : List Nat) (L : LV) (st : List AV), exI E 5 lm RT lfF K (50, a, b, nx, tb) L (vr ((209 + 3 * k : Nat) : Int) :: vi (k : Int) :: vr 12 :: st) (HH S (209 + 3 * k + 1 + 2) (1552 + 29 * k + (dfl 7).length + 16) T2) = K nx L st (HH S (209 + 3 * (k + 1)) (1552 + 29 * (k + 1)) (TX 64 (k + 1) 0)) := fun K nx a b tb L st => by
      rw [g50 (by omega) (by omega) t2 t7 rfl (by omega)]
      congr 1
      show HH S (209 + 3 * k + 1 + 2) (1552 + 29 * k + 13 + 16) _ = _
      rw [show 209 + 3 * k + 1 + 2 = 209 + 3 * (k + 1) by omega, show 1552 + 29 * k + 13 + 16 = 1552 + 29 * (k + 1) by omega]
      congr 1
      funext c'
      rw [show (vr ((209 + 3 * k : Nat) : Int) : AV) = vr (209 + 3 * (k : Int)) by rw [show ((209 + 3 * k : Nat) : Int) = 209 + 3 * (k : Int) by omega], rfA_s]
      by_cases c12 : c' = 12
      · rw [if_pos c12, c12]; unfold TX; rw [if_neg (by omega), if_neg (by omega), if_pos rfl]
      · rw [if_neg c12, hT2]
        unfold CT
        by_cases y : c' = ((209 + 3 * k : Nat) : Int)
        · rw [if_pos y]; unfold TX
          have p : 209 ≤ c' ∧ c' < 209 + 3 * ((k + 1 : Nat) : Int) := by omega
          rw [if_neg (by omega), if_neg (by omega), if_neg (by omega), if_neg (by omega), if_neg (by omega), if_neg (by omega), if_pos p]
          unfold WKc
          rw [if_pos (by omega), efr, show ((209 + 3 * k + 1 : Nat) : Int) = c' + 1 by omega, show c' + 1 + 1 = c' + 2 by omega]
        · rw [if_neg y]
          by_cases x : ((209 + 3 * k + 1 : Nat) : Int) ≤ c' ∧ c' < ((209 + 3 * k + 1 : Nat) : Int) + ((2 : Nat) : Int)
          · rw [if_pos x]; unfold TX
            have p : 209 ≤ c' ∧ c' < 209 + 3 * ((k + 1 : Nat) : Int) := by omega
            rw [if_neg (by omega), if_neg (by omega), if_neg (by omega), if_neg (by omega), if_neg (by omega), if_neg (by omega), if_pos p]
            unfold WKc
            rw [if_neg (by omega)]
            rfl
          · rw [if_neg x, hT1]
            dsimp only
            rw [if_neg y]
            unfold TX
            by_cases c0 : c' = 0
            · rw [if_pos c0, if_pos c0]
            · rw [if_neg c0, if_neg c0]
              by_cases c7 : c' = 7
              · rw [if_pos c7, if_pos c7]
              · rw [if_neg c7, if_neg c7, if_neg c12, if_neg c12]
                by_cases c13 : c' = 13
                · rw [if_pos c13, if_pos c13]
                · rw [if_neg c13, if_neg c13]
                  by_cases z1 : 1 ≤ c' ∧ c' < 17
                  · rw [if_pos z1, if_pos z1]
                  · rw [if_neg z1, if_neg z1]
                    by_cases z0 : 17 ≤ c' ∧ c' < 17 + 3 * ((64 : Nat) : Int)
                    · rw [if_pos z0, if_pos z0]
                    · rw [if_neg z0, if_neg z0]
                      by_cases z2 : 209 ≤ c' ∧ c' < 209 + 3 * (k : Int)
                      · have p : 209 ≤ c' ∧ c' < 209 + 3 * ((k + 1 : Nat) : Int) := by omega
                        rw [if_pos z2, if_pos p]
                      · have p : ¬ (209 ≤ c' ∧ c' < 209 + 3 * ((k + 1 : Nat) : Int)) := by omega
                        rw [if_neg z2, if_neg p]
    have l5 : 209 + 3 * k + 1 ≤ lm.1 := by omega
    have l6 : 1552 + 29 * k + (dfl 7).length ≤ lm.2 := by rw [d5]; omega
    refine q_X8_init_141 400 (lfok E (by omega)) ?_
    simp +contextual (disch := first | omega | exact Nat.le_of_ble_eq_true rfl | assumption) only [↓r_X8_init_0, ↓r_X8_init_1, ↓r_X8_init_4, ↓r_X8_init_5, ↓r_X8_init_8, ↓r_X8_init_9, ↓r_X8_init_12, ↓r_X8_init_15, ↓r_X8_init_16, ↓r_X8_init_18, ↓r_X8_init_21, ↓r_X8_init_24, ↓r_X8_init_25, ↓r_X8_init_28, ↓r_X8_init_29, ↓r_X8_init_32, ↓r_X8_init_35, ↓r_X8_init_36, ↓r_X8_init_38, ↓r_X8_init_41, ↓r_X8_init_44, ↓r_X8_init_45, ↓r_X8_init_46, ↓r_X8_init_49, ↓r_X8_init_52, ↓r_X8_init_53, ↓r_X8_init_56, ↓r_X8_init_57, ↓r_X8_init_60, ↓r_X8_init_63, ↓r_X8_init_64, ↓r_X8_init_66, ↓r_X8_init_68, ↓r_X8_init_71, ↓r_X8_init_72, ↓r_X8_init_74, ↓r_X8_init_76, ↓r_X8_init_79, ↓r_X8_init_80, ↓r_X8_init_82, ↓r_X8_init_85, ↓r_X8_init_86, ↓r_X8_init_89, ↓r_X8_init_92, ↓r_X8_init_93, ↓r_X8_init_94, ↓r_X8_init_97, ↓r_X8_init_98, ↓r_X8_init_99, ↓r_X8_init_102, ↓r_X8_init_103, ↓r_X8_init_104, ↓r_X8_init_107, ↓r_X8_init_108, ↓r_X8_init_109, ↓r_X8_init_112, ↓r_X8_init_113, ↓r_X8_init_114, ↓r_X8_init_115, ↓r_X8_init_117, ↓r_X8_init_120, ↓r_X8_init_121, ↓r_X8_init_124, ↓r_X8_init_125, ↓r_X8_init_128, ↓r_X8_init_129, ↓r_X8_init_132, ↓r_X8_init_133, ↓r_X8_init_136, ↓r_X8_init_139, ↓r_X8_init_140, ↓r_X8_init_141, ↓r_X8_init_142, ↓r_X8_init_144, ↓r_X8_init_147, ↓r_X8_init_148, ↓r_X8_init_151, ↓r_X8_init_152, ↓r_X8_init_155, ↓r_X8_init_156, ↓r_X8_init_159, ↓r_X8_init_160, ↓r_X8_init_163, ↓r_X8_init_166, ↓r_X8_init_167, ↓r_X8_init_170, ↓r_X8_init_171, ↓r_X8_init_174, ↓r_X8_init_175, ↓r_X8_init_178, ↓r_X8_init_179, ↓r_X8_init_180, ↓r_X8_init_183, ↓r_X8_init_184, ↓r_X8_init_187, ↓r_X8_init_188, ↓r_X8_init_191, ↓r_X8_init_192, ↓r_X8_init_193, ↓r_X8_init_196, ↓r_X8_init_197, ↓r_X8_init_200, ↓r_X8_init_201, ↓r_X8_init_204, ↓r_X8_init_205, ↓x2_0, ↓x28i, ↓x28r, ↓x0, ↓p8_8, ↓p8_9, ↓p8_10, ↓p8_11, ↓p8_12, ↓p8_13, ↓x4_1n, ↓x4_1i, ↓x4_1r, ↓x1_1, ↓x32_3, ↓f8_1, ↓x7_1n, ↓x7_1i, ↓x7_1r, ↓x33, ↓f8_3, ↓f8_4, ↓x48_4, and_self, and_true, true_and, implies_true, true_implies, Int.reduceEq, Int.reduceLE, Int.reduceLT, not_true_eq_false, not_false_eq_true, false_implies, RTf_eq, ↓r35, ↓g41, ↓k53_1]
    refine ⟨fun q => by omega, fun _ => ?_⟩
    rw [← hT1]
    refine ck_n cI (by omega) ⟨?_, ?_, ?_, ?_⟩ (by simp) ?_
    · show 209 + 3 * k + 1 ≤ 209 + 3 * k + 1 + 2; omega
    · show 209 + 3 * k + 1 + 2 ≤ lm.1; omega
    · show 1552 + 29 * k + (dfl 7).length ≤ 1552 + 29 * k + (dfl 7).length + 16; omega
    · show 1552 + 29 * k + (dfl 7).length + 16 ≤ lm.2; rw [d5]; omega
    simp +contextual (disch := first | omega | exact Nat.le_of_ble_eq_true rfl | assumption) only [↓r_X8_init_0, ↓r_X8_init_1, ↓r_X8_init_4, ↓r_X8_init_5, ↓r_X8_init_8, ↓r_X8_init_9, ↓r_X8_init_12, ↓r_X8_init_15, ↓r_X8_init_16, ↓r_X8_init_18, ↓r_X8_init_21, ↓r_X8_init_24, ↓r_X8_init_25, ↓r_X8_init_28, ↓r_X8_init_29, ↓r_X8_init_32, ↓r_X8_init_35, ↓r_X8_init_36, ↓r_X8_init_38, ↓r_X8_init_41, ↓r_X8_init_44, ↓r_X8_init_45, ↓r_X8_init_46, ↓r_X8_init_49, ↓r_X8_init_52, ↓r_X8_init_53, ↓r_X8_init_56, ↓r_X8_init_57, ↓r_X8_init_60, ↓r_X8_init_63, ↓r_X8_init_64, ↓r_X8_init_66, ↓r_X8_init_68, ↓r_X8_init_71, ↓r_X8_init_72, ↓r_X8_init_74, ↓r_X8_init_76, ↓r_X8_init_79, ↓r_X8_init_80, ↓r_X8_init_82, ↓r_X8_init_85, ↓r_X8_init_86, ↓r_X8_init_89, ↓r_X8_init_92, ↓r_X8_init_93, ↓r_X8_init_94, ↓r_X8_init_97, ↓r_X8_init_98, ↓r_X8_init_99, ↓r_X8_init_102, ↓r_X8_init_103, ↓r_X8_init_104, ↓r_X8_init_107, ↓r_X8_init_108, ↓r_X8_init_109, ↓r_X8_init_112, ↓r_X8_init_113, ↓r_X8_init_114, ↓r_X8_init_115, ↓r_X8_init_117, ↓r_X8_init_120, ↓r_X8_init_121, ↓r_X8_init_124, ↓r_X8_init_125, ↓r_X8_init_128, ↓r_X8_init_129, ↓r_X8_init_132, ↓r_X8_init_133, ↓r_X8_init_136, ↓r_X8_init_139, ↓r_X8_init_140, ↓r_X8_init_141, ↓r_X8_init_142, ↓r_X8_init_144, ↓r_X8_init_147, ↓r_X8_init_148, ↓r_X8_init_151, ↓r_X8_init_152, ↓r_X8_init_155, ↓r_X8_init_156, ↓r_X8_init_159, ↓r_X8_init_160, ↓r_X8_init_163, ↓r_X8_init_166, ↓r_X8_init_167, ↓r_X8_init_170, ↓r_X8_init_171, ↓r_X8_init_174, ↓r_X8_init_175, ↓r_X8_init_178, ↓r_X8_init_179, ↓r_X8_init_180, ↓r_X8_init_183, ↓r_X8_init_184, ↓r_X8_init_187, ↓r_X8_init_188, ↓r_X8_init_191, ↓r_X8_init_192, ↓r_X8_init_193, ↓r_X8_init_196, ↓r_X8_init_197, ↓r_X8_init_200, ↓r_X8_init_201, ↓r_X8_init_204, ↓r_X8_init_205, ↓x2_0, ↓x28i, ↓x28r, ↓x0, ↓p8_8, ↓p8_9, ↓p8_10, ↓p8_11, ↓p8_12, ↓p8_13, ↓x4_1n, ↓x4_1i, ↓x4_1r, ↓x1_1, ↓x32_3, ↓f8_1, ↓x7_1n, ↓x7_1i, ↓x7_1r, ↓x33, ↓f8_3, ↓f8_4, ↓x48_4, and_self, and_true, true_and, implies_true, true_implies, Int.reduceEq, Int.reduceLE, Int.reduceLT, not_true_eq_false, not_false_eq_true, false_implies, RTf_eq, ↓r50]
    exact ih
theorem k_step {q cj : Nat} (hq : q < 3) (hcj : cj = if q = 0 then 4 else if q = 1 then 2 else 1) {d nx : Nat} {F : FT} {K : KT} {L : LV} {st : List AV} {tb : List Nat} {a b : Int} :
    exI E d lm RT F K (50, a, b, nx, tb) L (vr ((245 + q : Nat) : Int) :: vi (q : Int) :: vr 13 :: st) (HH S (245 + q + 1) 1900 (fun c' => if c' = ((245 + q : Nat) : Int) then some (.inr (cj, [])) else TX 64 12 q c')) = K nx L st (HH S (245 + q + 1) 1900 (TX 64 12 (q + 1))) := by
  have t13 : (fun c' => if c' = ((245 + q : Nat) : Int) then some (Sum.inr (cj, [])) else TX 64 12 q c') 13 = some (.inl (5, 3, fun z => if 0 ≤ z ∧ z < (q : Int) then vr (245 + 1 * z) else vn)) := by
    dsimp only
    rw [if_neg (by omega)]; unfold TX; rw [if_neg (by omega), if_neg (by omega), if_neg (by omega), if_pos rfl]; rfl
  have hq3 : q = 0 ∨ q = 1 ∨ q = 2 := by omega
  have hok : aok 5 cj = true := by rcases hq3 with rfl | rfl | rfl <;> rw [hcj] <;> rfl
  have tv : (fun c' => if c' = ((245 + q : Nat) : Int) then some (Sum.inr (cj, [])) else TX 64 12 q c') ((245 + q : Nat) : Int) = some (.inr (cj, [])) := by dsimp only; rw [if_pos rfl]
  rw [g50 (by omega) (by omega) tv t13 hok (by omega)]
  congr 2
  funext c'
  rw [show (vr ((245 + q : Nat) : Int) : AV) = vr (245 + 1 * (q : Int)) by rw [show ((245 + q : Nat) : Int) = 245 + 1 * (q : Int) by omega], rfA_s]
  by_cases c13 : c' = 13
  · rw [if_pos c13, c13]; unfold TX; rw [if_neg (by omega), if_neg (by omega), if_neg (by omega), if_pos rfl]
  · rw [if_neg c13]
    by_cases y : c' = ((245 + q : Nat) : Int)
    · rw [if_pos y]; unfold TX
      have p : 245 ≤ c' ∧ c' < 245 + ((q + 1 : Nat) : Int) := by omega
      rw [if_neg (by omega), if_neg (by omega), if_neg (by omega), if_neg (by omega), if_neg (by omega), if_neg (by omega), if_neg (by omega), if_pos p, hcj]
      rcases hq3 with rfl | rfl | rfl <;> rw [y] <;> rfl
    · rw [if_neg y]
      unfold TX
      by_cases c0 : c' = 0
      · rw [if_pos c0, if_pos c0]
      · rw [if_neg c0, if_neg c0]
        by_cases c7 : c' = 7
        · rw [if_pos c7, if_pos c7]
        · rw [if_neg c7, if_neg c7]
          by_cases c12 : c' = 12
          · rw [if_pos c12, if_pos c12]
          · rw [if_neg c12, if_neg c12, if_neg c13, if_neg c13]
            by_cases z1 : 1 ≤ c' ∧ c' < 17
            · rw [if_pos z1, if_pos z1]
            · rw [if_neg z1, if_neg z1]
              by_cases z0 : 17 ≤ c' ∧ c' < 17 + 3 * ((64 : Nat) : Int)
              · rw [if_pos z0, if_pos z0]
              · rw [if_neg z0, if_neg z0]
                by_cases z2 : 209 ≤ c' ∧ c' < 209 + 3 * ((12 : Nat) : Int)
                · rw [if_pos z2, if_pos z2]
                · rw [if_neg z2, if_neg z2]
                  by_cases z3 : 245 ≤ c' ∧ c' < 245 + (q : Int)
                  · have p : 245 ≤ c' ∧ c' < 245 + ((q + 1 : Nat) : Int) := by omega
                    rw [if_pos z3, if_pos p]
                  · have p : ¬ (245 ≤ c' ∧ c' < 245 + ((q + 1 : Nat) : Int)) := by omega
                    rw [if_neg z3, if_neg p]
theorem l_kinds (l3 : 248 ≤ lm.1) (l4 : 1900 ≤ lm.2) (hr : RT none (HH S 248 1900 (TX 64 12 3))) : G E g mi_X8_init 5 lm RT 166 [some (vr 0), some (vi 12)] [] (HH S 245 1900 (TX 64 12 0)) := by
  have r35 : ∀ (q n sl : Nat) (K : KT) (nx : Nat) (tb : List Nat) (L : LV) (st : List AV), exI E 5 lm RT lfF K (35, ((8 : Nat) : Int), ((4 : Nat) : Int), nx, tb) L (vr 0 :: st) (HH S n sl (TX 64 12 q)) = K nx L (vr 13 :: st) (HH S n sl (TX 64 12 q)) := fun q n sl K nx tb L st => g35 (by omega) (by unfold TX; rw [if_pos rfl]) rfl
  have d4 : (dfl 4) = [] := rfl
  have d2 : (dfl 2) = [] := rfl
  have d1 : (dfl 1) = [] := rfl
  have k0 : ∀ (K : KT) (nx : Nat) (a b : Int) (tb : List Nat) (L : LV) (st : List AV), exI E 5 lm RT lfF K (50, a, b, nx, tb) L (vr ((245 : Nat) : Int) :: vi 0 :: vr 13 :: st) (HH S (245 + 1) (1900 + List.length ([] : List AV)) (fun c' => if c' = ((245 : Nat) : Int) then some (.inr (4, [])) else TX 64 12 0 c')) = K nx L st (HH S 246 1900 (TX 64 12 1)) := fun K nx a b tb L st => k_step (q := 0) (by omega) rfl
  have k1 : ∀ (K : KT) (nx : Nat) (a b : Int) (tb : List Nat) (L : LV) (st : List AV), exI E 5 lm RT lfF K (50, a, b, nx, tb) L (vr ((246 : Nat) : Int) :: vi 1 :: vr 13 :: st) (HH S (246 + 1) (1900 + List.length ([] : List AV)) (fun c' => if c' = ((246 : Nat) : Int) then some (.inr (2, [])) else TX 64 12 1 c')) = K nx L st (HH S 247 1900 (TX 64 12 2)) := fun K nx a b tb L st => k_step (q := 1) (by omega) rfl
  have k2 : ∀ (K : KT) (nx : Nat) (a b : Int) (tb : List Nat) (L : LV) (st : List AV), exI E 5 lm RT lfF K (50, a, b, nx, tb) L (vr ((247 : Nat) : Int) :: vi 2 :: vr 13 :: st) (HH S (247 + 1) (1900 + List.length ([] : List AV)) (fun c' => if c' = ((247 : Nat) : Int) then some (.inr (1, [])) else TX 64 12 2 c')) = K nx L st (HH S 248 1900 (TX 64 12 3)) := fun K nx a b tb L st => k_step (q := 2) (by omega) rfl
  have l0 : (1900 : Nat) + (dfl 4).length ≤ lm.2 := l4
  have l5 : (1900 : Nat) + (dfl 2).length ≤ lm.2 := l4
  have l6 : (1900 : Nat) + (dfl 1).length ≤ lm.2 := l4
  refine e_X8_init 400 (lfok E (by omega)) ?_
  simp +contextual (disch := first | omega | exact Nat.le_of_ble_eq_true rfl | assumption) only [↓r_X8_init_0, ↓r_X8_init_1, ↓r_X8_init_4, ↓r_X8_init_5, ↓r_X8_init_8, ↓r_X8_init_9, ↓r_X8_init_12, ↓r_X8_init_15, ↓r_X8_init_16, ↓r_X8_init_18, ↓r_X8_init_21, ↓r_X8_init_24, ↓r_X8_init_25, ↓r_X8_init_28, ↓r_X8_init_29, ↓r_X8_init_32, ↓r_X8_init_35, ↓r_X8_init_36, ↓r_X8_init_38, ↓r_X8_init_41, ↓r_X8_init_44, ↓r_X8_init_45, ↓r_X8_init_46, ↓r_X8_init_49, ↓r_X8_init_52, ↓r_X8_init_53, ↓r_X8_init_56, ↓r_X8_init_57, ↓r_X8_init_60, ↓r_X8_init_63, ↓r_X8_init_64, ↓r_X8_init_66, ↓r_X8_init_68, ↓r_X8_init_71, ↓r_X8_init_72, ↓r_X8_init_74, ↓r_X8_init_76, ↓r_X8_init_79, ↓r_X8_init_80, ↓r_X8_init_82, ↓r_X8_init_85, ↓r_X8_init_86, ↓r_X8_init_89, ↓r_X8_init_92, ↓r_X8_init_93, ↓r_X8_init_94, ↓r_X8_init_97, ↓r_X8_init_98, ↓r_X8_init_99, ↓r_X8_init_102, ↓r_X8_init_103, ↓r_X8_init_104, ↓r_X8_init_107, ↓r_X8_init_108, ↓r_X8_init_109, ↓r_X8_init_112, ↓r_X8_init_113, ↓r_X8_init_114, ↓r_X8_init_115, ↓r_X8_init_117, ↓r_X8_init_120, ↓r_X8_init_121, ↓r_X8_init_124, ↓r_X8_init_125, ↓r_X8_init_128, ↓r_X8_init_129, ↓r_X8_init_132, ↓r_X8_init_133, ↓r_X8_init_136, ↓r_X8_init_139, ↓r_X8_init_140, ↓r_X8_init_141, ↓r_X8_init_142, ↓r_X8_init_144, ↓r_X8_init_147, ↓r_X8_init_148, ↓r_X8_init_151, ↓r_X8_init_152, ↓r_X8_init_155, ↓r_X8_init_156, ↓r_X8_init_159, ↓r_X8_init_160, ↓r_X8_init_163, ↓r_X8_init_166, ↓r_X8_init_167, ↓r_X8_init_170, ↓r_X8_init_171, ↓r_X8_init_174, ↓r_X8_init_175, ↓r_X8_init_178, ↓r_X8_init_179, ↓r_X8_init_180, ↓r_X8_init_183, ↓r_X8_init_184, ↓r_X8_init_187, ↓r_X8_init_188, ↓r_X8_init_191, ↓r_X8_init_192, ↓r_X8_init_193, ↓r_X8_init_196, ↓r_X8_init_197, ↓r_X8_init_200, ↓r_X8_init_201, ↓r_X8_init_204, ↓r_X8_init_205, ↓x2_0, ↓x28i, ↓x28r, ↓x0, ↓p8_8, ↓p8_9, ↓p8_10, ↓p8_11, ↓p8_12, ↓p8_13, ↓x4_1n, ↓x4_1i, ↓x4_1r, ↓x1_1, ↓x32_3, ↓f8_1, ↓x7_1n, ↓x7_1i, ↓x7_1r, ↓x33, ↓f8_3, ↓f8_4, ↓x48_4, and_self, and_true, true_and, implies_true, true_implies, Int.reduceEq, Int.reduceLE, Int.reduceLT, not_true_eq_false, not_false_eq_true, false_implies, RTf_eq, ↓r35, ↓g41, ↓k53_1, d4]
  refine ck_n c_init4 (by omega) ⟨Nat.le_refl _, ?_, Nat.le_refl _, l4⟩ (by simp) ?_
  · show 246 ≤ lm.1; omega
  simp +contextual (disch := first | omega | exact Nat.le_of_ble_eq_true rfl | assumption) only [↓r_X8_init_0, ↓r_X8_init_1, ↓r_X8_init_4, ↓r_X8_init_5, ↓r_X8_init_8, ↓r_X8_init_9, ↓r_X8_init_12, ↓r_X8_init_15, ↓r_X8_init_16, ↓r_X8_init_18, ↓r_X8_init_21, ↓r_X8_init_24, ↓r_X8_init_25, ↓r_X8_init_28, ↓r_X8_init_29, ↓r_X8_init_32, ↓r_X8_init_35, ↓r_X8_init_36, ↓r_X8_init_38, ↓r_X8_init_41, ↓r_X8_init_44, ↓r_X8_init_45, ↓r_X8_init_46, ↓r_X8_init_49, ↓r_X8_init_52, ↓r_X8_init_53, ↓r_X8_init_56, ↓r_X8_init_57, ↓r_X8_init_60, ↓r_X8_init_63, ↓r_X8_init_64, ↓r_X8_init_66, ↓r_X8_init_68, ↓r_X8_init_71, ↓r_X8_init_72, ↓r_X8_init_74, ↓r_X8_init_76, ↓r_X8_init_79, ↓r_X8_init_80, ↓r_X8_init_82, ↓r_X8_init_85, ↓r_X8_init_86, ↓r_X8_init_89, ↓r_X8_init_92, ↓r_X8_init_93, ↓r_X8_init_94, ↓r_X8_init_97, ↓r_X8_init_98, ↓r_X8_init_99, ↓r_X8_init_102, ↓r_X8_init_103, ↓r_X8_init_104, ↓r_X8_init_107, ↓r_X8_init_108, ↓r_X8_init_109, ↓r_X8_init_112, ↓r_X8_init_113, ↓r_X8_init_114, ↓r_X8_init_115, ↓r_X8_init_117, ↓r_X8_init_120, ↓r_X8_init_121, ↓r_X8_init_124, ↓r_X8_init_125, ↓r_X8_init_128, ↓r_X8_init_129, ↓r_X8_init_132, ↓r_X8_init_133, ↓r_X8_init_136, ↓r_X8_init_139, ↓r_X8_init_140, ↓r_X8_init_141, ↓r_X8_init_142, ↓r_X8_init_144, ↓r_X8_init_147, ↓r_X8_init_148, ↓r_X8_init_151, ↓r_X8_init_152, ↓r_X8_init_155, ↓r_X8_init_156, ↓r_X8_init_159, ↓r_X8_init_160, ↓r_X8_init_163, ↓r_X8_init_166, ↓r_X8_init_167, ↓r_X8_init_170, ↓r_X8_init_171, ↓r_X8_init_174, ↓r_X8_init_175, ↓r_X8_init_178, ↓r_X8_init_179, ↓r_X8_init_180, ↓r_X8_init_183, ↓r_X8_init_184, ↓r_X8_init_187, ↓r_X8_init_188, ↓r_X8_init_191, ↓r_X8_init_192, ↓r_X8_init_193, ↓r_X8_init_196, ↓r_X8_init_197, ↓r_X8_init_200, ↓r_X8_init_201, ↓r_X8_init_204, ↓r_X8_init_205, ↓x2_0, ↓x28i, ↓x28r, ↓x0, ↓p8_8, ↓p8_9, ↓p8_10, ↓p8_11, ↓p8_12, ↓p8_13, ↓x4_1n, ↓x4_1i, ↓x4_1r, ↓x1_1, ↓x32_3, ↓f8_1, ↓x7_1n, ↓x7_1i, ↓x7_1r, ↓x33, ↓f8_3, ↓f8_4, ↓x48_4, and_self, and_true, true_and, implies_true, true_implies, Int.reduceEq, Int.reduceLE, Int.reduceLT, not_true_eq_false, not_false_eq_true, false_implies, RTf_eq, ↓k0, ↓r35, ↓g41, ↓k53_1, d2]
  refine ck_n c_init2 (by omega) ⟨Nat.le_refl _, ?_, Nat.le_refl _, l4⟩ (by simp) ?_
  · show 247 ≤ lm.1; omega
  simp +contextual (disch := first | omega | exact Nat.le_of_ble_eq_true rfl | assumption) only [↓r_X8_init_0, ↓r_X8_init_1, ↓r_X8_init_4, ↓r_X8_init_5, ↓r_X8_init_8, ↓r_X8_init_9, ↓r_X8_init_12, ↓r_X8_init_15, ↓r_X8_init_16, ↓r_X8_init_18, ↓r_X8_init_21, ↓r_X8_init_24, ↓r_X8_init_25, ↓r_X8_init_28, ↓r_X8_init_29, ↓r_X8_init_32, ↓r_X8_init_35, ↓r_X8_init_36, ↓r_X8_init_38, ↓r_X8_init_41, ↓r_X8_init_44, ↓r_X8_init_45, ↓r_X8_init_46, ↓r_X8_init_49, ↓r_X8_init_52, ↓r_X8_init_53, ↓r_X8_init_56, ↓r_X8_init_57, ↓r_X8_init_60, ↓r_X8_init_63, ↓r_X8_init_64, ↓r_X8_init_66, ↓r_X8_init_68, ↓r_X8_init_71, ↓r_X8_init_72, ↓r_X8_init_74, ↓r_X8_init_76, ↓r_X8_init_79, ↓r_X8_init_80, ↓r_X8_init_82, ↓r_X8_init_85, ↓r_X8_init_86, ↓r_X8_init_89, ↓r_X8_init_92, ↓r_X8_init_93, ↓r_X8_init_94, ↓r_X8_init_97, ↓r_X8_init_98, ↓r_X8_init_99, ↓r_X8_init_102, ↓r_X8_init_103, ↓r_X8_init_104, ↓r_X8_init_107, ↓r_X8_init_108, ↓r_X8_init_109, ↓r_X8_init_112, ↓r_X8_init_113, ↓r_X8_init_114, ↓r_X8_init_115, ↓r_X8_init_117, ↓r_X8_init_120, ↓r_X8_init_121, ↓r_X8_init_124, ↓r_X8_init_125, ↓r_X8_init_128, ↓r_X8_init_129, ↓r_X8_init_132, ↓r_X8_init_133, ↓r_X8_init_136, ↓r_X8_init_139, ↓r_X8_init_140, ↓r_X8_init_141, ↓r_X8_init_142, ↓r_X8_init_144, ↓r_X8_init_147, ↓r_X8_init_148, ↓r_X8_init_151, ↓r_X8_init_152, ↓r_X8_init_155, ↓r_X8_init_156, ↓r_X8_init_159, ↓r_X8_init_160, ↓r_X8_init_163, ↓r_X8_init_166, ↓r_X8_init_167, ↓r_X8_init_170, ↓r_X8_init_171, ↓r_X8_init_174, ↓r_X8_init_175, ↓r_X8_init_178, ↓r_X8_init_179, ↓r_X8_init_180, ↓r_X8_init_183, ↓r_X8_init_184, ↓r_X8_init_187, ↓r_X8_init_188, ↓r_X8_init_191, ↓r_X8_init_192, ↓r_X8_init_193, ↓r_X8_init_196, ↓r_X8_init_197, ↓r_X8_init_200, ↓r_X8_init_201, ↓r_X8_init_204, ↓r_X8_init_205, ↓x2_0, ↓x28i, ↓x28r, ↓x0, ↓p8_8, ↓p8_9, ↓p8_10, ↓p8_11, ↓p8_12, ↓p8_13, ↓x4_1n, ↓x4_1i, ↓x4_1r, ↓x1_1, ↓x32_3, ↓f8_1, ↓x7_1n, ↓x7_1i, ↓x7_1r, ↓x33, ↓f8_3, ↓f8_4, ↓x48_4, and_self, and_true, true_and, implies_true, true_implies, Int.reduceEq, Int.reduceLE, Int.reduceLT, not_true_eq_false, not_false_eq_true, false_implies, RTf_eq, ↓k1, ↓r35, ↓g41, ↓k53_1, d1]
  refine ck_n c_init1 (by omega) ⟨Nat.le_refl _, ?_, Nat.le_refl _, l4⟩ (by simp) ?_
  · show 248 ≤ lm.1; omega
  simp +contextual (disch := first | omega | exact Nat.le_of_ble_eq_true rfl | assumption) only [↓r_X8_init_0, ↓r_X8_init_1, ↓r_X8_init_4, ↓r_X8_init_5, ↓r_X8_init_8, ↓r_X8_init_9, ↓r_X8_init_12, ↓r_X8_init_15, ↓r_X8_init_16, ↓r_X8_init_18, ↓r_X8_init_21, ↓r_X8_init_24, ↓r_X8_init_25, ↓r_X8_init_28, ↓r_X8_init_29, ↓r_X8_init_32, ↓r_X8_init_35, ↓r_X8_init_36, ↓r_X8_init_38, ↓r_X8_init_41, ↓r_X8_init_44, ↓r_X8_init_45, ↓r_X8_init_46, ↓r_X8_init_49, ↓r_X8_init_52, ↓r_X8_init_53, ↓r_X8_init_56, ↓r_X8_init_57, ↓r_X8_init_60, ↓r_X8_init_63, ↓r_X8_init_64, ↓r_X8_init_66, ↓r_X8_init_68, ↓r_X8_init_71, ↓r_X8_init_72, ↓r_X8_init_74, ↓r_X8_init_76, ↓r_X8_init_79, ↓r_X8_init_80, ↓r_X8_init_82, ↓r_X8_init_85, ↓r_X8_init_86, ↓r_X8_init_89, ↓r_X8_init_92, ↓r_X8_init_93, ↓r_X8_init_94, ↓r_X8_init_97, ↓r_X8_init_98, ↓r_X8_init_99, ↓r_X8_init_102, ↓r_X8_init_103, ↓r_X8_init_104, ↓r_X8_init_107, ↓r_X8_init_108, ↓r_X8_init_109, ↓r_X8_init_112, ↓r_X8_init_113, ↓r_X8_init_114, ↓r_X8_init_115, ↓r_X8_init_117, ↓r_X8_init_120, ↓r_X8_init_121, ↓r_X8_init_124, ↓r_X8_init_125, ↓r_X8_init_128, ↓r_X8_init_129, ↓r_X8_init_132, ↓r_X8_init_133, ↓r_X8_init_136, ↓r_X8_init_139, ↓r_X8_init_140, ↓r_X8_init_141, ↓r_X8_init_142, ↓r_X8_init_144, ↓r_X8_init_147, ↓r_X8_init_148, ↓r_X8_init_151, ↓r_X8_init_152, ↓r_X8_init_155, ↓r_X8_init_156, ↓r_X8_init_159, ↓r_X8_init_160, ↓r_X8_init_163, ↓r_X8_init_166, ↓r_X8_init_167, ↓r_X8_init_170, ↓r_X8_init_171, ↓r_X8_init_174, ↓r_X8_init_175, ↓r_X8_init_178, ↓r_X8_init_179, ↓r_X8_init_180, ↓r_X8_init_183, ↓r_X8_init_184, ↓r_X8_init_187, ↓r_X8_init_188, ↓r_X8_init_191, ↓r_X8_init_192, ↓r_X8_init_193, ↓r_X8_init_196, ↓r_X8_init_197, ↓r_X8_init_200, ↓r_X8_init_201, ↓r_X8_init_204, ↓r_X8_init_205, ↓x2_0, ↓x28i, ↓x28r, ↓x0, ↓p8_8, ↓p8_9, ↓p8_10, ↓p8_11, ↓p8_12, ↓p8_13, ↓x4_1n, ↓x4_1i, ↓x4_1r, ↓x1_1, ↓x32_3, ↓f8_1, ↓x7_1n, ↓x7_1i, ↓x7_1r, ↓x33, ↓f8_3, ↓f8_4, ↓x48_4, and_self, and_true, true_and, implies_true, true_implies, Int.reduceEq, Int.reduceLE, Int.reduceLT, not_true_eq_false, not_false_eq_true, false_implies, RTf_eq, ↓k2]
  exact hr
end
