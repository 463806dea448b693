-- LEAFS: 
/-! ===== leaves: methods that change nothing and are told by a function ===== -/
abbrev rg (z : Int) : Prop := -2147483648 ≤ z ∧ z < 2147483648
def F0f : FT := fun _ _ _ => none
theorem F0ok (E : ET) (d : Nat) : FOk E d F0f := fun j as h r hr => by cases hr
noncomputable def gi (p : Prop) (v : AV) : Option AV := @ite _ p (Classical.propDecidable p) (some v) none
theorem gi_pos {p : Prop} {v : AV} (h : p) : gi p v = some v := by unfold gi; rw [if_pos h]
theorem gi_some {p : Prop} {v r : AV} (h : gi p v = some r) : p ∧ v = r := by
  unfold gi at h
  split at h
  · rename_i hp
    exact ⟨hp, Option.some.inj h⟩
  · cases h
def isL (h : AH) : Prop := ∃ (S : SCR) (M : Mem), h = toAH S M
theorem isL_at {S : SCR} {M : Mem} : isL (toAH S M) := ⟨S, M, rfl⟩
def rd (h : AH) (c z : Int) : Int := match h.2.2 c with
  | some (.inl (_, _, f)) => (match f z with | .inl v => v | _ => 0)
  | some (.inr (_, fs)) => (match fs[z.toNat]? with | some (.inl v) => v | _ => 0)
  | none => 0
theorem rd_ar {S : SCR} {M : Mem} {c z n : Int} {k : Nat} (h0 : 0 ≤ c) (hs : shp c = some (k, n)) (hk : k < 2) : rd (toAH S M) c z = M c z := by
  unfold rd
  rw [toAH_at h0, cel_ar hs (by omega)]
  rcases (show k = 0 ∨ k = 1 by omega) with rfl | rfl <;> rfl
theorem rd_w3 {S : SCR} {M : Mem} {z : Int} (h1 : 0 ≤ z) (h2 : z < 12) : rd (toAH S M) (209 + 3 * z) 3 = M (209 + 3 * z) 3 := by
  unfold rd
  rw [toAH_at (by omega), cel_ob (shp_wal h1 h2) (by omega)]
  rfl
/-- bit k of a small set -/
def bz (s k : Int) : Prop := s / 2 ^ k.toNat % 2 = 1
theorem c_within (E : ET) (h : AH) {a b c : Int} (ha : rg a) (hb : rg b) (hc : rg c) : Ctr E 0 90 [vi a, vi b, vi c] h (some (vi (b2 (b ≤ a ∧ a ≤ c)))) h := by
  refine Ctr_of mi_X9_within mo_X9_within (Nat.le_of_ble_eq_true rfl) ⟨Nat.le_refl _, Nat.le_refl _⟩ (fun g => ?_)
  rw [show entL mi_X9_within.2.2.1 [vi a, vi b, vi c] = [some (vi a), some (vi b), some (vi c)] from rfl]
  refine e_X9_within 400 (F0ok E 0) ?_
  simp +contextual (disch := first | omega | exact Nat.le_of_ble_eq_true rfl | assumption) only [↓r_X9_within_0, ↓r_X9_within_1, ↓r_X9_within_2, ↓r_X9_within_5, ↓r_X9_within_6, ↓r_X9_within_7, ↓r_X9_within_10, ↓r_X9_within_11, ↓r_X9_within_14, ↓r_X9_within_15, ↓x1_0, ↓x1_1, ↓x32_2, ↓x1_2, ↓x32_4, ↓x0, ↓x33, ↓x48_1, and_self, and_true, true_and, implies_true, true_implies]
  refine ⟨fun q => ?_, fun q => ⟨fun q2 => ?_, fun q2 => ?_⟩⟩ <;> simp [b2] <;> omega
noncomputable def F1f : FT := fun j as h => match j, as with
  | 90, [.inl a, .inl b, .inl c] => gi (rg a ∧ rg b ∧ rg c) (vi (b2 (b ≤ a ∧ a ≤ c)))
  | _, _ => none
theorem F1ok (E : ET) {d : Nat} (hd : 1 ≤ d) : FOk E d F1f := by
  intro j as h r hr
  unfold F1f at hr
  split at hr
  · obtain ⟨hc, rfl⟩ := gi_some hr
    exact ⟨0, hd, c_within E h hc.1 hc.2.1 hc.2.2⟩
  · cases hr
section
variable {E : ET} {d : Nat} {lm : Nat × Nat} {RT : RTy} {F : FT} {K : KT} {nx : Nat} {tb : List Nat} {L : LV} {st : List AV} {h : AH}
theorem lf1_within {a b c : Int} (ha : -2147483648 ≤ a ∧ a < 2147483648) (hb : -2147483648 ≤ b ∧ b < 2147483648) (hc : -2147483648 ≤ c ∧ c < 2147483648) (hs : st.length ≤ 4) : exI E d lm RT F1f K (45, ((90 : Nat) : Int), ((3 : Nat) : Int), nx, tb) L (vi c :: vi b :: vi a :: st) h = K nx L (vi (b2 (b ≤ a ∧ a ≤ c)) :: st) h := x45 (as := [vi c, vi b, vi a]) rfl (gi_pos ⟨ha, hb, hc⟩) hs
end
theorem c_isNode9 (E : ET) (h : AH) {i : Int} (hi : rg i) : Ctr E 1 91 [vi i] h (some (vi (b2 (0 ≤ i ∧ i ≤ 7)))) h := by
  refine Ctr_of mi_X9_isNode mo_X9_isNode (Nat.le_of_ble_eq_true rfl) ⟨Nat.le_refl _, Nat.le_refl _⟩ (fun g => ?_)
  rw [show entL mi_X9_isNode.2.2.1 [vi i] = [some (vi i)] from rfl]
  refine e_X9_isNode 400 (F1ok E (Nat.le_refl 1)) ?_
  simp +contextual (disch := first | omega | exact Nat.le_of_ble_eq_true rfl | assumption) only [↓r_X9_isNode_0, ↓r_X9_isNode_1, ↓r_X9_isNode_2, ↓r_X9_isNode_4, ↓r_X9_isNode_7, ↓x1_0, ↓x0, ↓x48_1, and_self, and_true, true_and, implies_true, true_implies, ↓lf1_within]
  exact b2_01 _
theorem c_rowOf9 (E : ET) (h : AH) {i k : Int} : Ctr E 0 94 [vi i, vi k] h (some (vi (8 * (8 * i + k)))) h := by
  refine Ctr_of mi_X9_rowOf mo_X9_rowOf (Nat.le_of_ble_eq_true rfl) ⟨Nat.le_refl _, Nat.le_refl _⟩ (fun g => ?_)
  rw [show entL mi_X9_rowOf.2.2.1 [vi i, vi k] = [some (vi i), some (vi k)] from rfl]
  refine e_X9_rowOf 400 (F0ok E 0) ?_
  simp +contextual (disch := first | omega | exact Nat.le_of_ble_eq_true rfl | assumption) only [↓r_X9_rowOf_0, ↓r_X9_rowOf_2, ↓r_X9_rowOf_4, ↓r_X9_rowOf_5, ↓r_X9_rowOf_6, ↓r_X9_rowOf_7, ↓r_X9_rowOf_8, ↓r_X9_rowOf_9, ↓x0, ↓x1_0, ↓x10, ↓x1_1, ↓x8, ↓x48_0, and_self, and_true, true_and, implies_true, true_implies]
theorem c_isNext (E : ET) (S : SCR) (M : Mem) {i k : Int} (h1 : 0 ≤ 8 * i + k) (h2 : 8 * i + k < 64) (h3 : rg (M 253 (8 * i + k))) : Ctr E 0 92 [vr 248, vi i, vi k] (toAH S M) (some (vi (b2 (¬ M 253 (8 * i + k) = -9)))) (toAH S M) := by
  refine Ctr_of mi_X9_isNext mo_X9_isNext (Nat.le_of_ble_eq_true rfl) ⟨Nat.le_refl _, Nat.le_refl _⟩ (fun g => ?_)
  rw [show entL mi_X9_isNext.2.2.1 [vr 248, vi i, vi k] = [some (vr 248), some (vi i), some (vi k)] from rfl]
  refine e_X9_isNext 400 (F0ok E 0) ?_
  simp +contextual (disch := first | omega | exact Nat.le_of_ble_eq_true rfl | assumption) only [↓r_X9_isNext_0, ↓r_X9_isNext_1, ↓r_X9_isNext_4, ↓r_X9_isNext_6, ↓r_X9_isNext_7, ↓r_X9_isNext_8, ↓r_X9_isNext_9, ↓r_X9_isNext_10, ↓r_X9_isNext_11, ↓r_X9_isNext_13, ↓r_X9_isNext_16, ↓r_X9_isNext_17, ↓r_X9_isNext_20, ↓r_X9_isNext_21, ↓x2_0, ↓f9_4, ↓x0, ↓x1_1, ↓x10, ↓x1_2, ↓x8, ↓x32_0, ↓x33, ↓x48_1, ↓l_249, ↓l_250, ↓l_251, ↓l_252, ↓l_253, ↓l_254, ↓l_255, ↓l_256, ↓l_257, ↓l_258, ↓l_259, ↓l_260, ↓l_261, ↓l_262, ↓l_263, ↓l_264, ↓l_265, ↓l_266, ↓l_267, ↓l_268, ↓l_269, ↓l_270, ↓l_271, ↓l_272, ↓l_273, ↓l_274, and_self, and_true, true_and, implies_true, true_implies]
  refine ⟨fun q => ?_, fun q => ?_⟩ <;> simp [b2, q]
theorem c_isThere (E : ET) (S : SCR) (M : Mem) {l : Int} (h1 : rg l) (h3 : 0 ≤ l → l ≤ 15 → M 249 l = 0 ∨ M 249 l = 1) : Ctr E 1 100 [vr 248, vi l] (toAH S M) (some (vi (b2 ((0 ≤ l ∧ l ≤ 15) ∧ M 249 l = 1)))) (toAH S M) := by
  refine Ctr_of mi_X9_isThere mo_X9_isThere (Nat.le_of_ble_eq_true rfl) ⟨Nat.le_refl _, Nat.le_refl _⟩ (fun g => ?_)
  rw [show entL mi_X9_isThere.2.2.1 [vr 248, vi l] = [some (vr 248), some (vi l)] from rfl]
  refine e_X9_isThere 400 (F1ok E (Nat.le_refl 1)) ?_
  simp +contextual (disch := first | omega | exact Nat.le_of_ble_eq_true rfl | assumption) only [↓r_X9_isThere_0, ↓r_X9_isThere_1, ↓r_X9_isThere_2, ↓r_X9_isThere_4, ↓r_X9_isThere_7, ↓r_X9_isThere_10, ↓r_X9_isThere_11, ↓r_X9_isThere_14, ↓r_X9_isThere_15, ↓r_X9_isThere_16, ↓r_X9_isThere_19, ↓r_X9_isThere_20, ↓r_X9_isThere_23, ↓r_X9_isThere_24, ↓x1_1, ↓x0, ↓x31_0, ↓x31b0, ↓x2_0, ↓f9_0, ↓x33, ↓x48_1, ↓l_249, ↓l_250, ↓l_251, ↓l_252, ↓l_253, ↓l_254, ↓l_255, ↓l_256, ↓l_257, ↓l_258, ↓l_259, ↓l_260, ↓l_261, ↓l_262, ↓l_263, ↓l_264, ↓l_265, ↓l_266, ↓l_267, ↓l_268, ↓l_269, ↓l_270, ↓l_271, ↓l_272, ↓l_273, ↓l_274, and_self, and_true, true_and, implies_true, true_implies, ↓lf1_within]
  refine ⟨fun q => ?_, fun q => ⟨fun q2 => ?_, fun q2 => ?_⟩⟩
  · simp [b2, q]
  · simp [b2]
  · have := h3 q.1 q.2
    simp [b2]
    omega
theorem c_isOne (E : ET) (S : SCR) (M : Mem) {l : Int} (h1 : rg l) (h3 : 0 ≤ l → l ≤ 11 → M 258 l = 0 ∨ M 258 l = 1) : Ctr E 1 134 [vr 248, vi l] (toAH S M) (some (vi (b2 ((0 ≤ l ∧ l ≤ 11) ∧ M 258 l = 1)))) (toAH S M) := by
  refine Ctr_of mi_X9_isOne mo_X9_isOne (Nat.le_of_ble_eq_true rfl) ⟨Nat.le_refl _, Nat.le_refl _⟩ (fun g => ?_)
  rw [show entL mi_X9_isOne.2.2.1 [vr 248, vi l] = [some (vr 248), some (vi l)] from rfl]
  refine e_X9_isOne 400 (F1ok E (Nat.le_refl 1)) ?_
  simp +contextual (disch := first | omega | exact Nat.le_of_ble_eq_true rfl | assumption) only [↓r_X9_isOne_0, ↓r_X9_isOne_1, ↓r_X9_isOne_2, ↓r_X9_isOne_4, ↓r_X9_isOne_7, ↓r_X9_isOne_10, ↓r_X9_isOne_11, ↓r_X9_isOne_14, ↓r_X9_isOne_15, ↓r_X9_isOne_16, ↓r_X9_isOne_19, ↓r_X9_isOne_20, ↓r_X9_isOne_23, ↓r_X9_isOne_24, ↓x1_1, ↓x0, ↓x31_0, ↓x31b0, ↓x2_0, ↓f9_17, ↓x33, ↓x48_1, ↓l_249, ↓l_250, ↓l_251, ↓l_252, ↓l_253, ↓l_254, ↓l_255, ↓l_256, ↓l_257, ↓l_258, ↓l_259, ↓l_260, ↓l_261, ↓l_262, ↓l_263, ↓l_264, ↓l_265, ↓l_266, ↓l_267, ↓l_268, ↓l_269, ↓l_270, ↓l_271, ↓l_272, ↓l_273, ↓l_274, and_self, and_true, true_and, implies_true, true_implies, ↓lf1_within]
  refine ⟨fun q => ?_, fun q => ⟨fun q2 => ?_, fun q2 => ?_⟩⟩
  · simp [b2, q]
  · simp [b2]
  · have := h3 q.1 q.2
    simp [b2]
    omega
theorem c_isNode8 (E : ET) (h : AH) {i : Int} (hi : rg i) : Ctr E 0 65 [vi i] h (some (vi (b2 (0 ≤ i ∧ i ≤ 7)))) h := by
  refine Ctr_of mi_X8_isNode mo_X8_isNode (Nat.le_of_ble_eq_true rfl) ⟨Nat.le_refl _, Nat.le_refl _⟩ (fun g => ?_)
  rw [show entL mi_X8_isNode.2.2.1 [vi i] = [some (vi i)] from rfl]
  refine e_X8_isNode 400 (F0ok E 0) ?_
  simp +contextual (disch := first | omega | exact Nat.le_of_ble_eq_true rfl | assumption) only [↓r_X8_isNode_0, ↓r_X8_isNode_1, ↓r_X8_isNode_4, ↓r_X8_isNode_5, ↓r_X8_isNode_7, ↓r_X8_isNode_10, ↓r_X8_isNode_11, ↓r_X8_isNode_14, ↓r_X8_isNode_15, ↓x1_0, ↓x31_2, ↓x0, ↓x32_3, ↓x33, ↓x48_1, and_self, and_true, true_and, implies_true, true_implies]
  refine ⟨fun q => ?_, fun q => ⟨fun q2 => ?_, fun q2 => ?_⟩⟩ <;> simp [b2] <;> omega
theorem c_isDelay (E : ET) (h : AH) {i : Int} (hi : rg i) : Ctr E 0 66 [vi i] h (some (vi (b2 (1 ≤ i ∧ i ≤ 60)))) h := by
  refine Ctr_of mi_X8_isDelay mo_X8_isDelay (Nat.le_of_ble_eq_true rfl) ⟨Nat.le_refl _, Nat.le_refl _⟩ (fun g => ?_)
  rw [show entL mi_X8_isDelay.2.2.1 [vi i] = [some (vi i)] from rfl]
  refine e_X8_isDelay 400 (F0ok E 0) ?_
  simp +contextual (disch := first | omega | exact Nat.le_of_ble_eq_true rfl | assumption) only [↓r_X8_isDelay_0, ↓r_X8_isDelay_1, ↓r_X8_isDelay_2, ↓r_X8_isDelay_5, ↓r_X8_isDelay_6, ↓r_X8_isDelay_8, ↓r_X8_isDelay_11, ↓r_X8_isDelay_12, ↓r_X8_isDelay_15, ↓r_X8_isDelay_16, ↓x1_0, ↓x0, ↓x32_2, ↓x32_4, ↓x33, ↓x48_1, and_self, and_true, true_and, implies_true, true_implies]
  refine ⟨fun q => ?_, fun q => ⟨fun q2 => ?_, fun q2 => ?_⟩⟩ <;> simp [b2] <;> omega
theorem c_isOfWhole (E : ET) (h : AH) {i : Int} (hi : rg i) : Ctr E 0 67 [vi i] h (some (vi (b2 (0 ≤ i ∧ i ≤ 1000)))) h := by
  refine Ctr_of mi_X8_isOfWhole mo_X8_isOfWhole (Nat.le_of_ble_eq_true rfl) ⟨Nat.le_refl _, Nat.le_refl _⟩ (fun g => ?_)
  rw [show entL mi_X8_isOfWhole.2.2.1 [vi i] = [some (vi i)] from rfl]
  refine e_X8_isOfWhole 400 (F0ok E 0) ?_
  simp +contextual (disch := first | omega | exact Nat.le_of_ble_eq_true rfl | assumption) only [↓r_X8_isOfWhole_0, ↓r_X8_isOfWhole_1, ↓r_X8_isOfWhole_4, ↓r_X8_isOfWhole_5, ↓r_X8_isOfWhole_8, ↓r_X8_isOfWhole_11, ↓r_X8_isOfWhole_12, ↓r_X8_isOfWhole_15, ↓r_X8_isOfWhole_16, ↓x1_0, ↓x31_2, ↓x0, ↓x32_4, ↓x33, ↓x48_1, and_self, and_true, true_and, implies_true, true_implies]
  refine ⟨fun q => ?_, fun q => ⟨fun q2 => ?_, fun q2 => ?_⟩⟩ <;> simp [b2] <;> omega
theorem bit_all : ∀ s, s < 256 → ∀ k, k < 8 → ian (isr ((s : Nat) : Int) ((k : Nat) : Int)) 1 = ((s / 2 ^ k % 2 : Nat) : Int) := by decide +kernel
theorem bz_nat {s k : Int} (h1 : 0 ≤ s) (h3 : 0 ≤ k) : bz s k ↔ s.toNat / 2 ^ k.toNat % 2 = 1 := by
  obtain ⟨n, rfl⟩ := Int.eq_ofNat_of_zero_le h1
  obtain ⟨m, rfl⟩ := Int.eq_ofNat_of_zero_le h3
  unfold bz
  simp only [Int.toNat_natCast]
  have e : ((n : Int) / 2 ^ m % 2) = ((n / 2 ^ m % 2 : Nat) : Int) := by simp
  rw [e]
  omega
theorem bit_at {s k : Int} (h1 : 0 ≤ s) (h2 : s < 256) (h3 : 0 ≤ k) (h4 : k < 8) : (ian (isr s k) 1 = 0 ∨ ian (isr s k) 1 = 1) ∧ (¬ ian (isr s k) 1 = 0 ↔ bz s k) := by
  have e := bit_all s.toNat (by omega) k.toNat (by omega)
  rw [Int.toNat_of_nonneg h1, Int.toNat_of_nonneg h3] at e
  rw [bz_nat h1 h3, e]
  have : s.toNat / 2 ^ k.toNat % 2 < 2 := Nat.mod_lt _ (by omega)
  omega
theorem bz_dec (s k : Int) : bz s k ∨ ¬ bz s k := by unfold bz; omega
noncomputable def b2c (p : Prop) : Int := @ite _ p (Classical.propDecidable p) 1 0
theorem b2c_eq (p : Prop) [Decidable p] : b2c p = b2 p := by
  unfold b2c b2
  split <;> rename_i h <;> simp [h]
def bzd (s k : Int) : Bool := s / 2 ^ k.toNat % 2 == 1
theorem bzd_iff {s k : Int} : (bzd s k = true) = bz s k := by simp [bzd, bz]
theorem c_isIn (E : ET) (h : AH) {s k : Int} (h1 : 0 ≤ s) (h2 : s < 256) (h3 : 0 ≤ k) (h4 : k < 8) : Ctr E 0 69 [vi s, vi k] h (some (vi (b2 (bzd s k = true)))) h := by
  have hb := bit_at h1 h2 h3 h4
  refine Ctr_of mi_X8_isIn mo_X8_isIn (Nat.le_of_ble_eq_true rfl) ⟨Nat.le_refl _, Nat.le_refl _⟩ (fun g => ?_)
  rw [show entL mi_X8_isIn.2.2.1 [vi s, vi k] = [some (vi s), some (vi k)] from rfl]
  refine e_X8_isIn 400 (F0ok E 0) ?_
  simp +contextual (disch := first | omega | exact Nat.le_of_ble_eq_true rfl | assumption) only [↓r_X8_isIn_0, ↓r_X8_isIn_1, ↓r_X8_isIn_2, ↓r_X8_isIn_3, ↓r_X8_isIn_4, ↓r_X8_isIn_5, ↓r_X8_isIn_8, ↓r_X8_isIn_9, ↓r_X8_isIn_12, ↓r_X8_isIn_13, ↓x1_0, ↓x1_1, ↓x17, ↓x0, ↓x13, ↓x31_0, ↓x31b0, ↓x33, ↓x48_1, and_self, and_true, true_and, implies_true, true_implies]
  refine ⟨fun q => ?_, fun q => ?_⟩
  · have : ¬ bz s k := fun hh => hb.2.mpr hh q
    rw [← bzd_iff] at this
    simp [b2, this]
  · have : bz s k := hb.2.mp q
    rw [← bzd_iff] at this
    simp [b2, this]
theorem c_rowOf8 (E : ET) (S : SCR) (M : Mem) {i k : Int} (h1 : 0 ≤ i * 8 + k) (h2 : i * 8 + k < 64) : Ctr E 0 70 [vr 0, vi i, vi k] (toAH S M) (some (vr (17 + 3 * (i * 8 + k)))) (toAH S M) := by
  refine Ctr_of mi_X8_rowOf mo_X8_rowOf (Nat.le_of_ble_eq_true rfl) ⟨Nat.le_refl _, Nat.le_refl _⟩ (fun g => ?_)
  rw [show entL mi_X8_rowOf.2.2.1 [vr 0, vi i, vi k] = [some (vr 0), some (vi i), some (vi k)] from rfl]
  refine e_X8_rowOf 400 (F0ok E 0) ?_
  simp +contextual (disch := first | omega | exact Nat.le_of_ble_eq_true rfl | assumption) only [↓r_X8_rowOf_0, ↓r_X8_rowOf_1, ↓r_X8_rowOf_4, ↓r_X8_rowOf_5, ↓r_X8_rowOf_7, ↓r_X8_rowOf_8, ↓r_X8_rowOf_9, ↓r_X8_rowOf_10, ↓r_X8_rowOf_11, ↓x2_0, ↓f8_1, ↓x1_1, ↓x0, ↓x10, ↓x1_2, ↓x8, ↓x48_3, ↓l_2, ↓l_3, ↓l_4, ↓l_5, ↓l_6, ↓l_7, ↓l_9, ↓l_10, ↓l_11, ↓l_12, ↓l_13, ↓l_15, ↓l_16, ↓l_r1, ↓l_r2, ↓l_w1, ↓l_w2, and_self, and_true, true_and, implies_true, true_implies]
theorem c_isWalker (E : ET) (S : SCR) (M : Mem) {w : Int} (h1 : rg w) (h3 : 0 ≤ w → w ≤ 11 → M (209 + 3 * w) 3 = 0 ∨ M (209 + 3 * w) 3 = 1) : Ctr E 0 68 [vr 0, vi w] (toAH S M) (some (vi (b2 ((0 ≤ w ∧ w ≤ 11) ∧ M (209 + 3 * w) 3 = 1)))) (toAH S M) := by
  refine Ctr_of mi_X8_isWalker mo_X8_isWalker (Nat.le_of_ble_eq_true rfl) ⟨Nat.le_refl _, Nat.le_refl _⟩ (fun g => ?_)
  rw [show entL mi_X8_isWalker.2.2.1 [vr 0, vi w] = [some (vr 0), some (vi w)] from rfl]
  refine e_X8_isWalker 400 (F0ok E 0) ?_
  simp +contextual (disch := first | omega | exact Nat.le_of_ble_eq_true rfl | assumption) only [↓r_X8_isWalker_0, ↓r_X8_isWalker_1, ↓r_X8_isWalker_4, ↓r_X8_isWalker_5, ↓r_X8_isWalker_7, ↓r_X8_isWalker_10, ↓r_X8_isWalker_11, ↓r_X8_isWalker_14, ↓r_X8_isWalker_15, ↓r_X8_isWalker_16, ↓r_X8_isWalker_19, ↓r_X8_isWalker_22, ↓r_X8_isWalker_23, ↓r_X8_isWalker_26, ↓r_X8_isWalker_27, ↓x1_1, ↓x31_2, ↓x0, ↓x32_3, ↓x2_0, ↓f8_3, ↓f7_3, ↓x31_0, ↓x31b0, ↓x33, ↓x48_1, ↓l_2, ↓l_3, ↓l_4, ↓l_5, ↓l_6, ↓l_7, ↓l_9, ↓l_10, ↓l_11, ↓l_12, ↓l_13, ↓l_15, ↓l_16, ↓l_r1, ↓l_r2, ↓l_w1, ↓l_w2, and_self, and_true, true_and, implies_true, true_implies]
  refine ⟨fun q => ?_, fun q => ⟨fun q2 => ?_, fun q2 => ⟨fun q3 => ?_, fun q3 => ?_⟩⟩⟩
  · simp [b2]; omega
  · simp [b2]; omega
  · simp [b2]
  · have := h3 (by omega) (by omega)
    simp [b2]; omega
theorem c_has (E : ET) (S : SCR) (M : Mem) {l : Int} (h1 : rg l) (h3 : 0 ≤ l → l ≤ 15 → rg (M 4 l)) : Ctr E 0 7 [vr 1, vi l] (toAH S M) (some (vi (b2 ((0 ≤ l ∧ l ≤ 15) ∧ 0 < M 4 l)))) (toAH S M) := by
  refine Ctr_of mi_X3_has mo_X3_has (Nat.le_of_ble_eq_true rfl) ⟨Nat.le_refl _, Nat.le_refl _⟩ (fun g => ?_)
  rw [show entL mi_X3_has.2.2.1 [vr 1, vi l] = [some (vr 1), some (vi l)] from rfl]
  refine e_X3_has 400 (F0ok E 0) ?_
  simp +contextual (disch := first | omega | exact Nat.le_of_ble_eq_true rfl | assumption) only [↓r_X3_has_0, ↓r_X3_has_1, ↓r_X3_has_4, ↓r_X3_has_5, ↓r_X3_has_7, ↓r_X3_has_10, ↓r_X3_has_11, ↓r_X3_has_14, ↓r_X3_has_15, ↓r_X3_has_16, ↓r_X3_has_19, ↓r_X3_has_20, ↓r_X3_has_23, ↓r_X3_has_24, ↓x1_1, ↓x31_2, ↓x0, ↓x32_3, ↓x2_0, ↓f3_2, ↓x31_5, ↓x33, ↓x48_1, ↓l_2, ↓l_3, ↓l_4, ↓l_5, ↓l_6, ↓l_7, ↓l_9, ↓l_10, ↓l_11, ↓l_12, ↓l_13, ↓l_15, ↓l_16, ↓l_r1, ↓l_r2, ↓l_w1, ↓l_w2, and_self, and_true, true_and, implies_true, true_implies]
  refine ⟨fun q => ?_, fun q => ⟨fun q2 => ?_, fun q2 => ⟨fun q3 => ?_, fun q3 => ?_⟩⟩⟩ <;> simp [b2] <;> omega
theorem c_min (E : ET) (h : AH) {a b : Int} (ha : rg a) (hb : rg b) : Ctr E 0 147 [vi a, vi b] h (some (vi (min a b))) h := by
  refine Ctr_of mi_J9_min_7cf53 mo_J9_min_7cf53 (Nat.le_of_ble_eq_true rfl) ⟨Nat.le_refl _, Nat.le_refl _⟩ (fun g => ?_)
  rw [show entL mi_J9_min_7cf53.2.2.1 [vi a, vi b] = [some (vi a), some (vi b)] from rfl]
  refine e_J9_min_7cf53 400 (F0ok E 0) ?_
  simp +contextual (disch := first | omega | exact Nat.le_of_ble_eq_true rfl | assumption) only [↓r_J9_min_7cf53_0, ↓r_J9_min_7cf53_1, ↓r_J9_min_7cf53_2, ↓r_J9_min_7cf53_5, ↓r_J9_min_7cf53_6, ↓r_J9_min_7cf53_9, ↓r_J9_min_7cf53_10, ↓x1_0, ↓x1_1, ↓x32_4, ↓x33, ↓x48_0, and_self, and_true, true_and, implies_true, true_implies]
  refine ⟨fun q => ?_, fun q => ?_⟩ <;> simp <;> omega
theorem c_max (E : ET) (h : AH) {a b : Int} (ha : rg a) (hb : rg b) : Ctr E 0 146 [vi a, vi b] h (some (vi (max a b))) h := by
  refine Ctr_of mi_J9_max_7cf53 mo_J9_max_7cf53 (Nat.le_of_ble_eq_true rfl) ⟨Nat.le_refl _, Nat.le_refl _⟩ (fun g => ?_)
  rw [show entL mi_J9_max_7cf53.2.2.1 [vi a, vi b] = [some (vi a), some (vi b)] from rfl]
  refine e_J9_max_7cf53 400 (F0ok E 0) ?_
  simp +contextual (disch := first | omega | exact Nat.le_of_ble_eq_true rfl | assumption) only [↓r_J9_max_7cf53_0, ↓r_J9_max_7cf53_1, ↓r_J9_max_7cf53_2, ↓r_J9_max_7cf53_5, ↓r_J9_max_7cf53_6, ↓r_J9_max_7cf53_9, ↓r_J9_max_7cf53_10, ↓x1_0, ↓x1_1, ↓x32_2, ↓x33, ↓x48_0, and_self, and_true, true_and, implies_true, true_implies]
  refine ⟨fun q => ?_, fun q => ?_⟩ <;> simp <;> omega
def popf (s : Int) : Int :=
  let a := s - ian (ius s 1) 1431655765
  let b := ian a 858993459 + ian (ius a 2) 858993459
  let c := ian (b + ius b 4) 252645135
  let e := c + ius c 8
  let f := e + ius e 16
  ian f 63
def pop8 (s : Nat) : Nat := s % 2 + s / 2 % 2 + s / 4 % 2 + s / 8 % 2 + s / 16 % 2 + s / 32 % 2 + s / 64 % 2 + s / 128 % 2
theorem pop_all : ∀ s, s < 256 → popf ((s : Nat) : Int) = ((pop8 s : Nat) : Int) := by decide +kernel
theorem c_bitCount (E : ET) (h : AH) {s : Int} (h1 : 0 ≤ s) (h2 : s < 256) : Ctr E 0 145 [vi s] h (some (vi (pop8 s.toNat : Nat))) h := by
  have e := pop_all s.toNat (by omega)
  rw [Int.toNat_of_nonneg h1] at e
  rw [← e]
  refine Ctr_of mi_J6_bitCount_0f7a4 mo_J6_bitCount_0f7a4 (Nat.le_of_ble_eq_true rfl) ⟨Nat.le_refl _, Nat.le_refl _⟩ (fun g => ?_)
  rw [show entL mi_J6_bitCount_0f7a4.2.2.1 [vi s] = [some (vi s)] from rfl]
  refine e_J6_bitCount_0f7a4 400 (F0ok E 0) ?_
  simp +contextual (disch := first | omega | exact Nat.le_of_ble_eq_true rfl | assumption) only [↓r_J6_bitCount_0f7a4_0, ↓r_J6_bitCount_0f7a4_1, ↓r_J6_bitCount_0f7a4_2, ↓r_J6_bitCount_0f7a4_3, ↓r_J6_bitCount_0f7a4_4, ↓r_J6_bitCount_0f7a4_7, ↓r_J6_bitCount_0f7a4_8, ↓r_J6_bitCount_0f7a4_9, ↓r_J6_bitCount_0f7a4_10, ↓r_J6_bitCount_0f7a4_11, ↓r_J6_bitCount_0f7a4_14, ↓r_J6_bitCount_0f7a4_15, ↓r_J6_bitCount_0f7a4_16, ↓r_J6_bitCount_0f7a4_17, ↓r_J6_bitCount_0f7a4_18, ↓r_J6_bitCount_0f7a4_21, ↓r_J6_bitCount_0f7a4_22, ↓r_J6_bitCount_0f7a4_23, ↓r_J6_bitCount_0f7a4_24, ↓r_J6_bitCount_0f7a4_25, ↓r_J6_bitCount_0f7a4_26, ↓r_J6_bitCount_0f7a4_27, ↓r_J6_bitCount_0f7a4_28, ↓r_J6_bitCount_0f7a4_29, ↓r_J6_bitCount_0f7a4_32, ↓r_J6_bitCount_0f7a4_33, ↓r_J6_bitCount_0f7a4_34, ↓r_J6_bitCount_0f7a4_35, ↓r_J6_bitCount_0f7a4_36, ↓r_J6_bitCount_0f7a4_38, ↓r_J6_bitCount_0f7a4_39, ↓r_J6_bitCount_0f7a4_40, ↓r_J6_bitCount_0f7a4_41, ↓r_J6_bitCount_0f7a4_42, ↓r_J6_bitCount_0f7a4_43, ↓r_J6_bitCount_0f7a4_45, ↓r_J6_bitCount_0f7a4_46, ↓r_J6_bitCount_0f7a4_47, ↓r_J6_bitCount_0f7a4_48, ↓r_J6_bitCount_0f7a4_49, ↓r_J6_bitCount_0f7a4_51, ↓r_J6_bitCount_0f7a4_52, ↓x1_0, ↓x0, ↓x18, ↓x13, ↓x9, ↓x4_0, ↓x8, ↓x48_0, and_self, and_true, true_and, implies_true, true_implies]
  rfl
noncomputable def lfF : FT := fun j as h => match j, as with
  | 90, [.inl a, .inl b, .inl c] => gi (rg a ∧ rg b ∧ rg c) (vi (b2 (b ≤ a ∧ a ≤ c)))
  | 91, [.inl i] => gi (rg i) (vi (b2 (0 ≤ i ∧ i ≤ 7)))
  | 94, [.inl i, .inl k] => gi (True) (vi (8 * (8 * i + k)))
  | 92, [.inr (.inr (some c)), .inl i, .inl k] => gi (isL h ∧ c = 248 ∧ 0 ≤ 8 * i + k ∧ 8 * i + k < 64 ∧ rg (rd h 253 (8 * i + k))) (vi (b2 (¬ rd h 253 (8 * i + k) = -9)))
  | 100, [.inr (.inr (some c)), .inl l] => gi (isL h ∧ c = 248 ∧ rg l ∧ (0 ≤ l → l ≤ 15 → rd h 249 l = 0 ∨ rd h 249 l = 1)) (vi (b2 ((0 ≤ l ∧ l ≤ 15) ∧ rd h 249 l = 1)))
  | 134, [.inr (.inr (some c)), .inl l] => gi (isL h ∧ c = 248 ∧ rg l ∧ (0 ≤ l → l ≤ 11 → rd h 258 l = 0 ∨ rd h 258 l = 1)) (vi (b2 ((0 ≤ l ∧ l ≤ 11) ∧ rd h 258 l = 1)))
  | 65, [.inl i] => gi (rg i) (vi (b2 (0 ≤ i ∧ i ≤ 7)))
  | 66, [.inl i] => gi (rg i) (vi (b2 (1 ≤ i ∧ i ≤ 60)))
  | 67, [.inl i] => gi (rg i) (vi (b2 (0 ≤ i ∧ i ≤ 1000)))
  | 69, [.inl s, .inl k] => gi (0 ≤ s ∧ s < 256 ∧ 0 ≤ k ∧ k < 8) (vi (b2 (bzd s k = true)))
  | 70, [.inr (.inr (some c)), .inl i, .inl k] => gi (isL h ∧ c = 0 ∧ 0 ≤ i * 8 + k ∧ i * 8 + k < 64) (vr (17 + 3 * (i * 8 + k)))
  | 68, [.inr (.inr (some c)), .inl w] => gi (isL h ∧ c = 0 ∧ rg w ∧ (0 ≤ w → w ≤ 11 → rd h (209 + 3 * w) 3 = 0 ∨ rd h (209 + 3 * w) 3 = 1)) (vi (b2 ((0 ≤ w ∧ w ≤ 11) ∧ rd h (209 + 3 * w) 3 = 1)))
  | 7, [.inr (.inr (some c)), .inl l] => gi (isL h ∧ c = 1 ∧ rg l ∧ (0 ≤ l → l ≤ 15 → rg (rd h 4 l))) (vi (b2 ((0 ≤ l ∧ l ≤ 15) ∧ 0 < rd h 4 l)))
  | 147, [.inl a, .inl b] => gi (rg a ∧ rg b) (vi (min a b))
  | 146, [.inl a, .inl b] => gi (rg a ∧ rg b) (vi (max a b))
  | 145, [.inl s] => gi (0 ≤ s ∧ s < 256) (vi (pop8 s.toNat : Nat))
  | _, _ => none
theorem lfok (E : ET) {d : Nat} (hd : 2 ≤ d) : FOk E d lfF := by
  intro j as h r hr
  unfold lfF at hr
  split at hr
  · obtain ⟨hc, rfl⟩ := gi_some hr
    exact ⟨0, by omega, c_within E h hc.1 hc.2.1 hc.2.2⟩
  · obtain ⟨hc, rfl⟩ := gi_some hr
    exact ⟨1, by omega, c_isNode9 E h hc⟩
  · obtain ⟨hc, rfl⟩ := gi_some hr
    exact ⟨0, by omega, c_rowOf9 E h⟩
  · obtain ⟨hc, rfl⟩ := gi_some hr
    exact by
      obtain ⟨⟨S, M, rfl⟩, rfl, h1, h2, h3⟩ := hc
      rw [rd_ar (by omega) rfl (by omega)] at h3 ⊢
      exact ⟨0, by omega, c_isNext E S M h1 h2 h3⟩
  · obtain ⟨hc, rfl⟩ := gi_some hr
    exact by
      obtain ⟨⟨S, M, rfl⟩, rfl, h1, h2⟩ := hc
      rw [rd_ar (by omega) rfl (by omega)] at h2 ⊢
      exact ⟨1, by omega, c_isThere E S M h1 h2⟩
  · obtain ⟨hc, rfl⟩ := gi_some hr
    exact by
      obtain ⟨⟨S, M, rfl⟩, rfl, h1, h2⟩ := hc
      rw [rd_ar (by omega) rfl (by omega)] at h2 ⊢
      exact ⟨1, by omega, c_isOne E S M h1 h2⟩
  · obtain ⟨hc, rfl⟩ := gi_some hr
    exact ⟨0, by omega, c_isNode8 E h hc⟩
  · obtain ⟨hc, rfl⟩ := gi_some hr
    exact ⟨0, by omega, c_isDelay E h hc⟩
  · obtain ⟨hc, rfl⟩ := gi_some hr
    exact ⟨0, by omega, c_isOfWhole E h hc⟩
  · obtain ⟨hc, rfl⟩ := gi_some hr
    exact ⟨0, by omega, c_isIn E h hc.1 hc.2.1 hc.2.2.1 hc.2.2.2⟩
  · obtain ⟨hc, rfl⟩ := gi_some hr
    exact by
      obtain ⟨⟨S, M, rfl⟩, rfl, h1, h2⟩ := hc
      exact ⟨0, by omega, c_rowOf8 E S M h1 h2⟩
  · obtain ⟨hc, rfl⟩ := gi_some hr
    exact by
      rename_i w
      obtain ⟨⟨S, M, rfl⟩, rfl, h1, h2⟩ := hc
      have e : b2 ((0 ≤ w ∧ w ≤ 11) ∧ rd (toAH S M) (209 + 3 * w) 3 = 1) = b2 ((0 ≤ w ∧ w ≤ 11) ∧ M (209 + 3 * w) 3 = 1) := by
        have : ((0 ≤ w ∧ w ≤ 11) ∧ rd (toAH S M) (209 + 3 * w) 3 = 1) = ((0 ≤ w ∧ w ≤ 11) ∧ M (209 + 3 * w) 3 = 1) := propext ⟨fun q => ⟨q.1, by rw [rd_w3 (by omega) (by omega)] at q; exact q.2⟩, fun q => ⟨q.1, by rw [rd_w3 (by omega) (by omega)]; exact q.2⟩⟩
        simp only [this]
      rw [e]
      exact ⟨0, by omega, c_isWalker E S M h1 (fun q1 q2 => by have := h2 q1 q2; rw [rd_w3 q1 (by omega)] at this; exact this)⟩
  · obtain ⟨hc, rfl⟩ := gi_some hr
    exact by
      obtain ⟨⟨S, M, rfl⟩, rfl, h1, h2⟩ := hc
      rw [rd_ar (by omega) rfl (by omega)] at h2 ⊢
      exact ⟨0, by omega, c_has E S M h1 h2⟩
  · obtain ⟨hc, rfl⟩ := gi_some hr
    exact ⟨0, by omega, c_min E h hc.1 hc.2⟩
  · obtain ⟨hc, rfl⟩ := gi_some hr
    exact ⟨0, by omega, c_max E h hc.1 hc.2⟩
  · obtain ⟨hc, rfl⟩ := gi_some hr
    exact ⟨0, by omega, c_bitCount E h hc.1 hc.2⟩
  · cases hr
section
variable {E : ET} {d : Nat} {lm : Nat × Nat} {RT : RTy} {F : FT} {K : KT} {nx : Nat} {tb : List Nat} {L : LV} {st : List AV} {h : AH} {S : SCR} {M : Mem}
theorem lf_X9_within {a b c : Int} (ha : -2147483648 ≤ a ∧ a < 2147483648) (hb : -2147483648 ≤ b ∧ b < 2147483648) (hc : -2147483648 ≤ c ∧ c < 2147483648) (hs : st.length ≤ 4) : exI E d lm RT lfF K (45, ((90 : Nat) : Int), ((3 : Nat) : Int), nx, tb) L (vi c :: vi b :: vi a :: st) h = K nx L (vi (b2 (b ≤ a ∧ a ≤ c)) :: st) h := x45 (as := [vi c, vi b, vi a]) rfl (gi_pos ⟨ha, hb, hc⟩) hs
theorem lf_X9_isNode {i : Int} (hi : -2147483648 ≤ i ∧ i < 2147483648) (hs : st.length ≤ 4) : exI E d lm RT lfF K (45, ((91 : Nat) : Int), ((1 : Nat) : Int), nx, tb) L (vi i :: st) h = K nx L (vi (b2 (0 ≤ i ∧ i ≤ 7)) :: st) h := x45 (as := [vi i]) rfl (gi_pos hi) hs
theorem lf_X9_rowOf {i k : Int} (hs : st.length ≤ 4) : exI E d lm RT lfF K (45, ((94 : Nat) : Int), ((2 : Nat) : Int), nx, tb) L (vi k :: vi i :: st) h = K nx L (vi (8 * (8 * i + k)) :: st) h := x45 (as := [vi k, vi i]) rfl (gi_pos trivial) hs
theorem lf_X8_isNode {i : Int} (hi : -2147483648 ≤ i ∧ i < 2147483648) (hs : st.length ≤ 4) : exI E d lm RT lfF K (45, ((65 : Nat) : Int), ((1 : Nat) : Int), nx, tb) L (vi i :: st) h = K nx L (vi (b2 (0 ≤ i ∧ i ≤ 7)) :: st) h := x45 (as := [vi i]) rfl (gi_pos hi) hs
theorem lf_X8_isDelay {i : Int} (hi : -2147483648 ≤ i ∧ i < 2147483648) (hs : st.length ≤ 4) : exI E d lm RT lfF K (45, ((66 : Nat) : Int), ((1 : Nat) : Int), nx, tb) L (vi i :: st) h = K nx L (vi (b2 (1 ≤ i ∧ i ≤ 60)) :: st) h := x45 (as := [vi i]) rfl (gi_pos hi) hs
theorem lf_X8_isOfWhole {i : Int} (hi : -2147483648 ≤ i ∧ i < 2147483648) (hs : st.length ≤ 4) : exI E d lm RT lfF K (45, ((67 : Nat) : Int), ((1 : Nat) : Int), nx, tb) L (vi i :: st) h = K nx L (vi (b2 (0 ≤ i ∧ i ≤ 1000)) :: st) h := x45 (as := [vi i]) rfl (gi_pos hi) hs
theorem lf_X8_isIn {s k : Int} (h1 : 0 ≤ s) (h2 : s < 256) (h3 : 0 ≤ k) (h4 : k < 8) (hs : st.length ≤ 4) : exI E d lm RT lfF K (45, ((69 : Nat) : Int), ((2 : Nat) : Int), nx, tb) L (vi k :: vi s :: st) h = K nx L (vi (b2 (bzd s k = true)) :: st) h := x45 (as := [vi k, vi s]) rfl (gi_pos ⟨h1, h2, h3, h4⟩) hs
theorem lf_J9_min_7cf53 {a b : Int} (ha : -2147483648 ≤ a ∧ a < 2147483648) (hb : -2147483648 ≤ b ∧ b < 2147483648) (hs : st.length ≤ 4) : exI E d lm RT lfF K (45, ((147 : Nat) : Int), ((2 : Nat) : Int), nx, tb) L (vi b :: vi a :: st) h = K nx L (vi (min a b) :: st) h := x45 (as := [vi b, vi a]) rfl (gi_pos ⟨ha, hb⟩) hs
theorem lf_J9_max_7cf53 {a b : Int} (ha : -2147483648 ≤ a ∧ a < 2147483648) (hb : -2147483648 ≤ b ∧ b < 2147483648) (hs : st.length ≤ 4) : exI E d lm RT lfF K (45, ((146 : Nat) : Int), ((2 : Nat) : Int), nx, tb) L (vi b :: vi a :: st) h = K nx L (vi (max a b) :: st) h := x45 (as := [vi b, vi a]) rfl (gi_pos ⟨ha, hb⟩) hs
theorem lf_J6_bitCount_0f7a4 {s : Int} (h1 : 0 ≤ s) (h2 : s < 256) (hs : st.length ≤ 4) : exI E d lm RT lfF K (45, ((145 : Nat) : Int), ((1 : Nat) : Int), nx, tb) L (vi s :: st) h = K nx L (vi (pop8 s.toNat : Nat) :: st) h := x45 (as := [vi s]) rfl (gi_pos ⟨h1, h2⟩) hs
theorem lf_X9_isNext {i k : Int} (h1 : 0 ≤ 8 * i + k) (h2 : 8 * i + k < 64) (h3 : -2147483648 ≤ M 253 (8 * i + k) ∧ M 253 (8 * i + k) < 2147483648) (hs : st.length ≤ 4) : exI E d lm RT lfF K (52, ((92 : Nat) : Int), ((3 : Nat) : Int), nx, [9]) L (vi k :: vi i :: vr 248 :: st) (toAH S M) = K nx L (vi (b2 (¬ M 253 (8 * i + k) = -9)) :: st) (toAH S M) := x52 (as := [vi k, vi i]) rfl (ob_at (by omega) rfl) (by
    have e : rd (toAH S M) 253 (8 * i + k) = M 253 (8 * i + k) := rd_ar (by omega) rfl (by omega)
    rw [← e] at h3 ⊢
    exact gi_pos ⟨isL_at, rfl, h1, h2, h3⟩) hs
theorem lf_X9_isThere {l : Int} (h1 : -2147483648 ≤ l ∧ l < 2147483648) (h2 : 0 ≤ l → l ≤ 15 → M 249 l = 0 ∨ M 249 l = 1) (hs : st.length ≤ 4) : exI E d lm RT lfF K (52, ((100 : Nat) : Int), ((2 : Nat) : Int), nx, [9]) L (vi l :: vr 248 :: st) (toAH S M) = K nx L (vi (b2 ((0 ≤ l ∧ l ≤ 15) ∧ M 249 l = 1)) :: st) (toAH S M) := x52 (as := [vi l]) rfl (ob_at (by omega) rfl) (by
    have e : rd (toAH S M) 249 l = M 249 l := rd_ar (by omega) rfl (by omega)
    rw [← e] at h2 ⊢
    exact gi_pos ⟨isL_at, rfl, h1, h2⟩) hs
theorem lf_X9_isOne {l : Int} (h1 : -2147483648 ≤ l ∧ l < 2147483648) (h2 : 0 ≤ l → l ≤ 11 → M 258 l = 0 ∨ M 258 l = 1) (hs : st.length ≤ 4) : exI E d lm RT lfF K (52, ((134 : Nat) : Int), ((2 : Nat) : Int), nx, [9]) L (vi l :: vr 248 :: st) (toAH S M) = K nx L (vi (b2 ((0 ≤ l ∧ l ≤ 11) ∧ M 258 l = 1)) :: st) (toAH S M) := x52 (as := [vi l]) rfl (ob_at (by omega) rfl) (by
    have e : rd (toAH S M) 258 l = M 258 l := rd_ar (by omega) rfl (by omega)
    rw [← e] at h2 ⊢
    exact gi_pos ⟨isL_at, rfl, h1, h2⟩) hs
theorem lf_X8_rowOf {i k : Int} (h1 : 0 ≤ i * 8 + k) (h2 : i * 8 + k < 64) (hs : st.length ≤ 4) : exI E d lm RT lfF K (52, ((70 : Nat) : Int), ((3 : Nat) : Int), nx, [8]) L (vi k :: vi i :: vr 0 :: st) (toAH S M) = K nx L (vr (17 + 3 * (i * 8 + k)) :: st) (toAH S M) := x52 (as := [vi k, vi i]) rfl (ob_at (by omega) rfl) (gi_pos ⟨isL_at, rfl, h1, h2⟩) hs
theorem lf_X8_isWalker {w : Int} (h1 : -2147483648 ≤ w ∧ w < 2147483648) (h2 : 0 ≤ w → w ≤ 11 → M (209 + 3 * w) 3 = 0 ∨ M (209 + 3 * w) 3 = 1) (hs : st.length ≤ 4) : exI E d lm RT lfF K (52, ((68 : Nat) : Int), ((2 : Nat) : Int), nx, [8]) L (vi w :: vr 0 :: st) (toAH S M) = K nx L (vi (b2 ((0 ≤ w ∧ w ≤ 11) ∧ M (209 + 3 * w) 3 = 1)) :: st) (toAH S M) := x52 (as := [vi w]) rfl (ob_at (by omega) rfl) (by
    have e : ((0 ≤ w ∧ w ≤ 11) ∧ M (209 + 3 * w) 3 = 1) = ((0 ≤ w ∧ w ≤ 11) ∧ rd (toAH S M) (209 + 3 * w) 3 = 1) := propext ⟨fun q => ⟨q.1, by rw [rd_w3 (by omega) (by omega)]; exact q.2⟩, fun q => ⟨q.1, by rw [rd_w3 (by omega) (by omega)] at q; exact q.2⟩⟩
    simp only [e]
    exact gi_pos ⟨isL_at, rfl, h1, fun q1 q2 => by rw [rd_w3 q1 (by omega)]; exact h2 q1 q2⟩) hs
theorem lf_X3_has {l : Int} (h1 : -2147483648 ≤ l ∧ l < 2147483648) (h2 : 0 ≤ l → l ≤ 15 → -2147483648 ≤ M 4 l ∧ M 4 l < 2147483648) (hs : st.length ≤ 4) : exI E d lm RT lfF K (52, ((7 : Nat) : Int), ((2 : Nat) : Int), nx, [3]) L (vi l :: vr 1 :: st) (toAH S M) = K nx L (vi (b2 ((0 ≤ l ∧ l ≤ 15) ∧ 0 < M 4 l)) :: st) (toAH S M) := x52 (as := [vi l]) rfl (ob_at (by omega) rfl) (by
    have e : rd (toAH S M) 4 l = M 4 l := rd_ar (by omega) rfl (by omega)
    rw [← e] at h2 ⊢
    exact gi_pos ⟨isL_at, rfl, h1, h2⟩) hs
end
