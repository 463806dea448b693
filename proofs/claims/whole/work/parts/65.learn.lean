/-! ===== the learnt way ===== -/
def pth (nx : Vec) (a : Int) : Nat → Int
  | 0 => a
  | n + 1 => nx (pth nx a n)
def pv (nx : Vec) (a : Int) : Vec := fun j => pth nx a j.toNat
/-- where a way ends, well or not -/
def lpP (nx : Vec) (a t : Int) : Int → Bool := fun n => decide (pv nx a n = t) || decide (nx (pv nx a n) = -9) || bs (rsN (pv nx a) (n.toNat + 1)) (nx (pv nx a n))
def leR (i t w : Int) : Int := if ¬ ((0 ≤ i ∧ i ≤ 7) ∧ (0 ≤ t ∧ t ≤ 7)) then -1 else if ¬ ((0 ≤ w ∧ w ≤ 2) ∨ (10 ≤ w ∧ w ≤ 17)) then -2 else if i = t then -3 else 0
theorem leR_0 {i t w : Int} (h : leR i t w = 0) : ((0 ≤ i ∧ i ≤ 7) ∧ (0 ≤ t ∧ t ≤ 7)) ∧ ((0 ≤ w ∧ w ≤ 2) ∨ (10 ≤ w ∧ w ≤ 17)) ∧ ¬ i = t := by
  unfold leR at h
  by_cases c1 : (0 ≤ i ∧ i ≤ 7) ∧ (0 ≤ t ∧ t ≤ 7)
  · rw [if_neg (fun f => f c1)] at h
    by_cases c2 : (0 ≤ w ∧ w ≤ 2) ∨ (10 ≤ w ∧ w ≤ 17)
    · rw [if_neg (fun f => f c2)] at h
      by_cases c3 : i = t
      · rw [if_pos c3] at h; omega
      · exact ⟨c1, c2, c3⟩
    · rw [if_pos c2] at h; omega
  · rw [if_pos c1] at h; omega
theorem or_at {s k : Int} (h1 : 0 ≤ s ∧ s < 256) (h2 : 0 ≤ k ∧ k < 8) : (0 ≤ ior s (isl 1 k) ∧ ior s (isl 1 k) < 256) ∧ ∀ j, 0 ≤ j → j < 8 → bs (ior s (isl 1 k)) j = (bs s j || decide (j = k)) := by
  have or_all : ∀ s, s < 256 → ∀ k, k < 8 → (0 ≤ ior ((s : Nat) : Int) (isl 1 ((k : Nat) : Int)) ∧ ior ((s : Nat) : Int) (isl 1 ((k : Nat) : Int)) < 256) ∧ ∀ j, j < 8 → bzd (ior ((s : Nat) : Int) (isl 1 ((k : Nat) : Int))) ((j : Nat) : Int) = (bzd ((s : Nat) : Int) ((j : Nat) : Int) || decide (((j : Nat) : Int) = ((k : Nat) : Int))) := by decide +kernel
  have h := or_all s.toNat (by omega) k.toNat (by omega)
  rw [Int.toNat_of_nonneg h1.1, Int.toNat_of_nonneg h2.1] at h
  refine ⟨h.1, fun j a b => ?_⟩
  have h5 := h.2 j.toNat (by omega)
  rw [Int.toNat_of_nonneg a] at h5
  exact h5
theorem or_z {k : Int} (h2 : 0 ≤ k ∧ k < 8) : ior 0 (isl 1 k) = isl 1 k := by
  have key : ∀ k, k < 8 → ior 0 (isl 1 ((k : Nat) : Int)) = isl 1 ((k : Nat) : Int) := by decide +kernel
  have := key k.toNat (by omega)
  rw [Int.toNat_of_nonneg h2.1] at this
  exact this
theorem bs_0 {j : Int} (h : 0 ≤ j ∧ j < 8) : bs 0 j = false := by
  have z_all : ∀ j, j < 8 → bzd 0 ((j : Nat) : Int) = false := by decide +kernel
  have := z_all j.toNat (by omega)
  rw [Int.toNat_of_nonneg h.1] at this
  exact this
theorem rsN_ok {v : Vec} : ∀ n : Nat, (∀ j, 0 ≤ j → j < (n : Int) → 0 ≤ v j ∧ v j < 8) → (0 ≤ rsN v n ∧ rsN v n < 256) ∧ ∀ k, 0 ≤ k → k < 8 → (bs (rsN v n) k = true ↔ ∃ j, (0 ≤ j ∧ j < (n : Int)) ∧ v j = k) := by
  intro n
  induction n with
  | zero =>
    intro _
    refine ⟨⟨by show (0 : Int) ≤ 0; omega, by show (0 : Int) < 256; omega⟩, fun k a b => ?_⟩
    rw [show rsN v 0 = 0 from rfl, bs_0 ⟨a, b⟩]
    constructor
    · intro h; cases h
    · intro ⟨j, h, _⟩; omega
  | succ n ih =>
    intro hv
    obtain ⟨i1, i2⟩ := ih (fun j a b => hv j a (by omega))
    have hn := hv n (by omega) (by omega)
    obtain ⟨o1, o2⟩ := or_at i1 hn
    refine ⟨o1, fun k a b => ?_⟩
    show bs (ior (rsN v n) (isl 1 (v (n : Int)))) k = true ↔ _
    rw [o2 k a b, Bool.or_eq_true, i2 k a b, decide_eq_true_iff]
    constructor
    · rintro (⟨j, h1, h2⟩ | h)
      · exact ⟨j, by omega, h2⟩
      · exact ⟨n, by omega, h.symm⟩
    · rintro ⟨j, h1, h2⟩
      by_cases q : j = (n : Int)
      · right; rw [← h2, q]
      · left; exact ⟨j, by omega, h2⟩
theorem rsN_congr {v v' : Vec} : ∀ n : Nat, (∀ j, 0 ≤ j → j < (n : Int) → v j = v' j) → rsN v n = rsN v' n := by
  intro n
  induction n with
  | zero => intro _; rfl
  | succ n ih =>
    intro h
    unfold rsN
    rw [ih (fun j a b => h j a (by omega)), h n (by omega) (by omega)]
theorem rsN_cnt {v : Vec} {n : Nat} (hv : ∀ j, 0 ≤ j → j ≤ (n : Int) → 0 ≤ v j ∧ v j < 8) (hf : bs (rsN v n) (v (n : Int)) = false) : cntb (bs (rsN v n)) 8 + 1 ≤ cntb (bs (rsN v (n + 1))) 8 := by
  have hn := hv n (by omega) (by omega)
  obtain ⟨i1, i2⟩ := rsN_ok n (fun j a b => hv j a (by omega))
  obtain ⟨o1, o2⟩ := or_at i1 hn
  refine cntb_lt (x := v (n : Int)) hn (fun k a b c => ?_) hf ?_
  · show bs (ior (rsN v n) (isl 1 (v (n : Int)))) k = true
    rw [o2 k a b, c]; rfl
  · show bs (ior (rsN v n) (isl 1 (v (n : Int)))) (v (n : Int)) = true
    rw [o2 _ hn.1 hn.2]; simp
def NX (nx : Vec) : Prop := ∀ a, 0 ≤ a → a < 8 → nx a = -9 ∨ (0 ≤ nx a ∧ nx a < 8)
theorem pv_s {nx : Vec} {a : Int} {n : Nat} : pv nx a ((n : Int) + 1) = nx (pv nx a (n : Int)) := by
  unfold pv
  rw [show ((n : Int) + 1).toNat = n + 1 by omega, Int.toNat_natCast]
  rfl
theorem lp_rng {nx : Vec} {a t : Int} (hN : NX nx) (ha : 0 ≤ a ∧ a < 8) : ∀ n : Nat, (∀ j, 0 ≤ j → j < (n : Int) → lpP nx a t j = false) → ∀ j, 0 ≤ j → j ≤ (n : Int) → 0 ≤ pv nx a j ∧ pv nx a j < 8 := by
  intro n
  induction n with
  | zero => intro _ j h1 h2; rw [show j = 0 by omega]; exact ha
  | succ n ih =>
    intro h j h1 h2
    have i1 := ih (fun j a b => h j a (by omega))
    by_cases q : j = (n : Int) + 1
    · rw [q, pv_s]
      have h3 := i1 n (by omega) (by omega)
      have h4 := h n (by omega) (by omega)
      unfold lpP at h4
      simp only [Bool.or_eq_false_iff, decide_eq_false_iff_not] at h4
      have := hN _ h3.1 h3.2
      omega
    · exact i1 j h1 (by omega)
theorem lp_cnt {nx : Vec} {a t : Int} (hN : NX nx) (ha : 0 ≤ a ∧ a < 8) : ∀ n : Nat, (∀ j, 0 ≤ j → j < (n : Int) → lpP nx a t j = false) → ((n : Int) + 1) ≤ cntb (bs (rsN (pv nx a) (n + 1))) 8 := by
  intro n
  induction n with
  | zero =>
    intro h
    have := rsN_cnt (v := pv nx a) (n := 0) (fun j a1 b1 => by rw [show j = 0 by omega]; exact ha) (bs_0 ha)
    have r0 := cntb_rng (bs (rsN (pv nx a) 0)) 8
    omega
  | succ n ih =>
    intro h
    have i1 := ih (fun j a b => h j a (by omega))
    have h4 := h n (by omega) (by omega)
    unfold lpP at h4
    simp only [Bool.or_eq_false_iff] at h4
    have h5 := h4.2
    rw [Int.toNat_natCast, ← pv_s (nx := nx) (a := a) (n := n)] at h5
    have := rsN_cnt (v := pv nx a) (n := n + 1) (fun j a1 b1 => lp_rng hN ha (n + 1) h j a1 b1) h5
    omega
theorem lp_end {nx : Vec} {a t : Int} (hN : NX nx) (ha : 0 ≤ a ∧ a < 8) : ¬ fi (lpP nx a t) 0 8 = -9 := by
  intro h
  have hn := fi_none 8 0 (by omega) h
  have := lp_cnt (t := t) hN ha 8 (fun j a b => hn j a (by omega))
  have r := cntb_rng (bs (rsN (pv nx a) (8 + 1))) 8
  omega
def nx8 (M : Mem) (t : Int) : Vec := fun a => grF (bs (M (17 + 3 * (a * 8 + t)) 2)) (M (18 + 3 * (a * 8 + t))) 8
def nx9 (M : Mem) (t : Int) : Vec := fun a => grF (nbm M a) (getv M 254 (8 * (8 * a + t))) 8
theorem NX8 {M : Mem} {t : Int} : NX (nx8 M t) := fun a _ _ => by
  have := grF_rng (bs (M (17 + 3 * (a * 8 + t)) 2)) (M (18 + 3 * (a * 8 + t))) 8
  unfold nx8; omega
theorem NX9 {M : Mem} {t : Int} : NX (nx9 M t) := fun a _ _ => by
  have := grF_rng (nbm M a) (getv M 254 (8 * (8 * a + t))) 8
  unfold nx9; omega
section
variable {E : ET} {S : SCR} {M : Mem}
/-- the nodes of the class's way as they lie after n of them -/
def wyM (M : Mem) (t a : Int) (n : Nat) : Mem := putv M 16 0 (bl n (pv (nx8 M t) a) (M 16))
theorem l_follow {g : GT} {lm : Nat × Nat} {RT : RTy} {a t : Int} (ha : 0 ≤ a ∧ a < 8) (ht : 0 ≤ t ∧ t < 8) (hs : ∀ r, 0 ≤ r → r < 64 → 0 ≤ M (17 + 3 * r) 2 ∧ M (17 + 3 * r) 2 < 256) (hsh : ∀ r k, 0 ≤ r → r < 64 → 0 ≤ k → k < 8 → 0 ≤ M (18 + 3 * r) k ∧ M (18 + 3 * r) k ≤ 1000) :
    ∀ (n k : Nat), k + n = 8 → (∀ j, 0 ≤ j → j < (k : Int) → lpP (nx8 M t) a t j = false) → ∀ (a6 : Option AV), RT (some (vi (if fi (lpP (nx8 M t) a t) (k : Int) n = -9 then 0 else if pv (nx8 M t) a (fi (lpP (nx8 M t) a t) (k : Int) n) = t then fi (lpP (nx8 M t) a t) (k : Int) n + 1 else 0))) (toAH S (wyM M t a (if fi (lpP (nx8 M t) a t) (k : Int) n = -9 then 8 else (fi (lpP (nx8 M t) a t) (k : Int) n).toNat + 1))) → G E g mi_X8_followLearnt 3 lm RT 8 [some (vr 0), some (vi a), some (vi t), some (vi (pv (nx8 M t) a (k : Int))), some (vi (rsN (pv (nx8 M t) a) k)), some (vi (k : Int)), a6] [] (toAH S (wyM M t a k)) := by
  intro n
  induction n with
  | zero =>
    intro k hk hp a6 hr
    have k8 : k = 8 := by omega
    rw [show fi (lpP (nx8 M t) a t) (k : Int) 0 = -9 from rfl, if_pos rfl, if_pos rfl] at hr
    subst k8
    refine q_X8_followLearnt_8 400 (lfok E (by omega)) ?_
    simp +contextual (disch := first | omega | exact Nat.le_of_ble_eq_true rfl | assumption) only [↓r_X8_followLearnt_0, ↓r_X8_followLearnt_1, ↓r_X8_followLearnt_2, ↓r_X8_followLearnt_3, ↓r_X8_followLearnt_5, ↓r_X8_followLearnt_6, ↓r_X8_followLearnt_8, ↓r_X8_followLearnt_10, ↓r_X8_followLearnt_12, ↓r_X8_followLearnt_15, ↓r_X8_followLearnt_16, ↓r_X8_followLearnt_19, ↓r_X8_followLearnt_21, ↓r_X8_followLearnt_22, ↓r_X8_followLearnt_23, ↓r_X8_followLearnt_24, ↓r_X8_followLearnt_25, ↓r_X8_followLearnt_28, ↓r_X8_followLearnt_30, ↓r_X8_followLearnt_31, ↓r_X8_followLearnt_32, ↓r_X8_followLearnt_33, ↓r_X8_followLearnt_35, ↓r_X8_followLearnt_36, ↓r_X8_followLearnt_37, ↓r_X8_followLearnt_38, ↓r_X8_followLearnt_39, ↓r_X8_followLearnt_41, ↓r_X8_followLearnt_42, ↓r_X8_followLearnt_43, ↓r_X8_followLearnt_44, ↓r_X8_followLearnt_47, ↓r_X8_followLearnt_50, ↓r_X8_followLearnt_52, ↓r_X8_followLearnt_54, ↓r_X8_followLearnt_56, ↓r_X8_followLearnt_59, ↓r_X8_followLearnt_61, ↓r_X8_followLearnt_63, ↓r_X8_followLearnt_66, ↓r_X8_followLearnt_69, ↓r_X8_followLearnt_70, ↓r_X8_followLearnt_71, ↓r_X8_followLearnt_73, ↓r_X8_followLearnt_74, ↓r_X8_followLearnt_77, ↓r_X8_followLearnt_80, ↓r_X8_followLearnt_81, ↓x1_1, ↓x4_3n, ↓x4_3i, ↓x4_3r, ↓x0, ↓x4_4n, ↓x4_4i, ↓x4_4r, ↓x4_5n, ↓x4_5i, ↓x4_5r, ↓x1_5, ↓x32_3, ↓x2_0, ↓f8_7, ↓x1_3, ↓x1_2, ↓x32_1, ↓x8, ↓x48_0, ↓x1_4, ↓x16, ↓x14, ↓lf_X8_rowOf, ↓v5_1, ↓x4_6n, ↓x4_6i, ↓x4_6r, ↓x1_6, ↓x32_0, ↓lf_X8_isIn, ↓x31_0, ↓x31b0, ↓x7_5n, ↓x7_5i, ↓x7_5r, ↓x33, ↓l_2, ↓s_2, ↓l_3, ↓s_3, ↓l_4, ↓s_4, ↓l_5, ↓s_5, ↓l_6, ↓s_6, ↓l_7, ↓l_9, ↓s_9, ↓l_10, ↓s_10, ↓l_11, ↓s_11, ↓l_12, ↓l_13, ↓l_15, ↓s_15, ↓l_16, ↓s_16, ↓l_r1, ↓s_r1, ↓l_r2, ↓s_r2, ↓l_w1, ↓s_w1, ↓l_w2, ↓s_w2, and_self, and_true, true_and, implies_true, true_implies, Int.reduceEq, Int.reduceLE, Int.reduceLT, not_true_eq_false, not_false_eq_true, false_implies, RTf_eq]
    exact ⟨fun _ => hr, fun q => absurd (by omega) q⟩
  | succ n ih =>
    intro k hk hp a6 hr
    have rgp := lp_rng NX8 ha k hp
    have pk := rgp (k : Int) (by omega) (by omega)
    have ef : fi (lpP (nx8 M t) a t) (k : Int) (n + 1) = if lpP (nx8 M t) a t (k : Int) = true then (k : Int) else fi (lpP (nx8 M t) a t) ((k : Int) + 1) n := rfl
    have eP : lpP (nx8 M t) a t (k : Int) = (decide (pv (nx8 M t) a (k : Int) = t) || decide (nx8 M t (pv (nx8 M t) a (k : Int)) = -9) || bs (rsN (pv (nx8 M t) a) (k + 1)) (nx8 M t (pv (nx8 M t) a (k : Int)))) := by
      unfold lpP; rw [Int.toNat_natCast]
    have u : up2 (wyM M t a k) 16 (k : Int) (pv (nx8 M t) a (k : Int)) = wyM M t a (k + 1) := by
      unfold wyM; rw [up2_putv0 (by omega) (by omega), ← bl_s]
    have eV : rsN (pv (nx8 M t) a) (k + 1) = ior (rsN (pv (nx8 M t) a) k) (isl 1 (pv (nx8 M t) a (k : Int))) := rfl
    obtain ⟨rk1, _⟩ := rsN_ok (v := pv (nx8 M t) a) (k + 1) (fun j a1 b1 => rgp j a1 (by omega))
    have nxr := NX8 (M := M) (t := t) (pv (nx8 M t) a (k : Int)) pk.1 pk.2
    have o : ∀ c z, ¬ c = 16 → wyM M t a (k + 1) c z = M c z := fun c z h => putv_ne h
    have eN := pv_s (nx := nx8 M t) (a := a) (n := k)
    have ihk := ih (k + 1) (by omega)
    rw [show (((k + 1 : Nat)) : Int) = (k : Int) + 1 by omega, eN, eV] at ihk
    obtain ⟨p, ep⟩ : ∃ p, p = pv (nx8 M t) a (k : Int) := ⟨_, rfl⟩
    obtain ⟨r, er⟩ : ∃ r : Int, r = p * 8 + t := ⟨_, rfl⟩
    rw [← ep] at pk eP u eV nxr ihk ⊢
    have o2 := o (17 + 3 * r) 2 (by omega)
    have o18 : wyM M t a (k + 1) (18 + 3 * r) = M (18 + 3 * r) := by funext z; exact o _ z (by omega)
    have cG := c_greatest5 (E := E) (S := S) (M := wyM M t a (k + 1)) (r := r) (by omega) (by rw [o2]; exact hs r (by omega) (by omega)) (fun j a b => by rw [o18]; have := hsh r j (by omega) (by omega) a b; exact ⟨by omega, by omega⟩)
    rw [o2, o18, show grF (bs (M (17 + 3 * r) 2)) (M (18 + 3 * r)) 8 = nx8 M t p by unfold nx8; rw [er]] at cG
    obtain ⟨q, eq⟩ : ∃ q, q = nx8 M t p := ⟨_, rfl⟩
    rw [← eq] at eP nxr cG ihk
    rw [eV] at eP rk1
    obtain ⟨s, es⟩ : ∃ s, s = ior (rsN (pv (nx8 M t) a) k) (isl 1 p) := ⟨_, rfl⟩
    rw [← es] at eP rk1 ihk
    refine q_X8_followLearnt_8 400 (lfok E (by omega)) ?_
    by_cases c1 : p = t
    · rw [show lpP (nx8 M t) a t (k : Int) = true by rw [eP]; simp [c1], if_pos rfl] at ef
      rw [ef, if_neg (by omega : ¬ (k : Int) = -9), ← ep, if_pos c1, if_neg (by omega : ¬ (k : Int) = -9), Int.toNat_natCast] at hr
      simp +contextual (disch := first | omega | exact Nat.le_of_ble_eq_true rfl | assumption) only [↓r_X8_followLearnt_0, ↓r_X8_followLearnt_1, ↓r_X8_followLearnt_2, ↓r_X8_followLearnt_3, ↓r_X8_followLearnt_5, ↓r_X8_followLearnt_6, ↓r_X8_followLearnt_8, ↓r_X8_followLearnt_10, ↓r_X8_followLearnt_12, ↓r_X8_followLearnt_15, ↓r_X8_followLearnt_16, ↓r_X8_followLearnt_19, ↓r_X8_followLearnt_21, ↓r_X8_followLearnt_22, ↓r_X8_followLearnt_23, ↓r_X8_followLearnt_24, ↓r_X8_followLearnt_25, ↓r_X8_followLearnt_28, ↓r_X8_followLearnt_30, ↓r_X8_followLearnt_31, ↓r_X8_followLearnt_32, ↓r_X8_followLearnt_33, ↓r_X8_followLearnt_35, ↓r_X8_followLearnt_36, ↓r_X8_followLearnt_37, ↓r_X8_followLearnt_38, ↓r_X8_followLearnt_39, ↓r_X8_followLearnt_41, ↓r_X8_followLearnt_42, ↓r_X8_followLearnt_43, ↓r_X8_followLearnt_44, ↓r_X8_followLearnt_47, ↓r_X8_followLearnt_50, ↓r_X8_followLearnt_52, ↓r_X8_followLearnt_54, ↓r_X8_followLearnt_56, ↓r_X8_followLearnt_59, ↓r_X8_followLearnt_61, ↓r_X8_followLearnt_63, ↓r_X8_followLearnt_66, ↓r_X8_followLearnt_69, ↓r_X8_followLearnt_70, ↓r_X8_followLearnt_71, ↓r_X8_followLearnt_73, ↓r_X8_followLearnt_74, ↓r_X8_followLearnt_77, ↓r_X8_followLearnt_80, ↓r_X8_followLearnt_81, ↓x1_1, ↓x4_3n, ↓x4_3i, ↓x4_3r, ↓x0, ↓x4_4n, ↓x4_4i, ↓x4_4r, ↓x4_5n, ↓x4_5i, ↓x4_5r, ↓x1_5, ↓x32_3, ↓x2_0, ↓f8_7, ↓x1_3, ↓x1_2, ↓x32_1, ↓x8, ↓x48_0, ↓x1_4, ↓x16, ↓x14, ↓lf_X8_rowOf, ↓v5_1, ↓x4_6n, ↓x4_6i, ↓x4_6r, ↓x1_6, ↓x32_0, ↓lf_X8_isIn, ↓x31_0, ↓x31b0, ↓x7_5n, ↓x7_5i, ↓x7_5r, ↓x33, ↓l_2, ↓s_2, ↓l_3, ↓s_3, ↓l_4, ↓s_4, ↓l_5, ↓s_5, ↓l_6, ↓s_6, ↓l_7, ↓l_9, ↓s_9, ↓l_10, ↓s_10, ↓l_11, ↓s_11, ↓l_12, ↓l_13, ↓l_15, ↓s_15, ↓l_16, ↓s_16, ↓l_r1, ↓s_r1, ↓l_r2, ↓s_r2, ↓l_w1, ↓s_w1, ↓l_w2, ↓s_w2, and_self, and_true, true_and, implies_true, true_implies, Int.reduceEq, Int.reduceLE, Int.reduceLT, not_true_eq_false, not_false_eq_true, false_implies, RTf_eq, u]
      refine ⟨fun q => by omega, fun _ => ⟨fun q => absurd c1 q, fun _ => hr⟩⟩
    · by_cases c2 : q = -9
      · rw [show lpP (nx8 M t) a t (k : Int) = true by rw [eP]; simp [c2], if_pos rfl] at ef
        rw [ef, if_neg (by omega : ¬ (k : Int) = -9), ← ep, if_neg c1, if_neg (by omega : ¬ (k : Int) = -9), Int.toNat_natCast] at hr
        simp +contextual (disch := first | omega | exact Nat.le_of_ble_eq_true rfl | assumption) only [↓r_X8_followLearnt_0, ↓r_X8_followLearnt_1, ↓r_X8_followLearnt_2, ↓r_X8_followLearnt_3, ↓r_X8_followLearnt_5, ↓r_X8_followLearnt_6, ↓r_X8_followLearnt_8, ↓r_X8_followLearnt_10, ↓r_X8_followLearnt_12, ↓r_X8_followLearnt_15, ↓r_X8_followLearnt_16, ↓r_X8_followLearnt_19, ↓r_X8_followLearnt_21, ↓r_X8_followLearnt_22, ↓r_X8_followLearnt_23, ↓r_X8_followLearnt_24, ↓r_X8_followLearnt_25, ↓r_X8_followLearnt_28, ↓r_X8_followLearnt_30, ↓r_X8_followLearnt_31, ↓r_X8_followLearnt_32, ↓r_X8_followLearnt_33, ↓r_X8_followLearnt_35, ↓r_X8_followLearnt_36, ↓r_X8_followLearnt_37, ↓r_X8_followLearnt_38, ↓r_X8_followLearnt_39, ↓r_X8_followLearnt_41, ↓r_X8_followLearnt_42, ↓r_X8_followLearnt_43, ↓r_X8_followLearnt_44, ↓r_X8_followLearnt_47, ↓r_X8_followLearnt_50, ↓r_X8_followLearnt_52, ↓r_X8_followLearnt_54, ↓r_X8_followLearnt_56, ↓r_X8_followLearnt_59, ↓r_X8_followLearnt_61, ↓r_X8_followLearnt_63, ↓r_X8_followLearnt_66, ↓r_X8_followLearnt_69, ↓r_X8_followLearnt_70, ↓r_X8_followLearnt_71, ↓r_X8_followLearnt_73, ↓r_X8_followLearnt_74, ↓r_X8_followLearnt_77, ↓r_X8_followLearnt_80, ↓r_X8_followLearnt_81, ↓x1_1, ↓x4_3n, ↓x4_3i, ↓x4_3r, ↓x0, ↓x4_4n, ↓x4_4i, ↓x4_4r, ↓x4_5n, ↓x4_5i, ↓x4_5r, ↓x1_5, ↓x32_3, ↓x2_0, ↓f8_7, ↓x1_3, ↓x1_2, ↓x32_1, ↓x8, ↓x48_0, ↓x1_4, ↓x16, ↓x14, ↓lf_X8_rowOf, ↓v5_1, ↓x4_6n, ↓x4_6i, ↓x4_6r, ↓x1_6, ↓x32_0, ↓lf_X8_isIn, ↓x31_0, ↓x31b0, ↓x7_5n, ↓x7_5i, ↓x7_5r, ↓x33, ↓l_2, ↓s_2, ↓l_3, ↓s_3, ↓l_4, ↓s_4, ↓l_5, ↓s_5, ↓l_6, ↓s_6, ↓l_7, ↓l_9, ↓s_9, ↓l_10, ↓s_10, ↓l_11, ↓s_11, ↓l_12, ↓l_13, ↓l_15, ↓s_15, ↓l_16, ↓s_16, ↓l_r1, ↓s_r1, ↓l_r2, ↓s_r2, ↓l_w1, ↓s_w1, ↓l_w2, ↓s_w2, and_self, and_true, true_and, implies_true, true_implies, Int.reduceEq, Int.reduceLE, Int.reduceLT, not_true_eq_false, not_false_eq_true, false_implies, RTf_eq, u, ← er, ← es]
        refine ⟨fun q => by omega, fun _ => ⟨fun _ => ?_, fun q => absurd c1 q⟩⟩
        refine ck_r cG (by omega) (by simp) ?_
        simp +contextual (disch := first | omega | exact Nat.le_of_ble_eq_true rfl | assumption) only [↓r_X8_followLearnt_0, ↓r_X8_followLearnt_1, ↓r_X8_followLearnt_2, ↓r_X8_followLearnt_3, ↓r_X8_followLearnt_5, ↓r_X8_followLearnt_6, ↓r_X8_followLearnt_8, ↓r_X8_followLearnt_10, ↓r_X8_followLearnt_12, ↓r_X8_followLearnt_15, ↓r_X8_followLearnt_16, ↓r_X8_followLearnt_19, ↓r_X8_followLearnt_21, ↓r_X8_followLearnt_22, ↓r_X8_followLearnt_23, ↓r_X8_followLearnt_24, ↓r_X8_followLearnt_25, ↓r_X8_followLearnt_28, ↓r_X8_followLearnt_30, ↓r_X8_followLearnt_31, ↓r_X8_followLearnt_32, ↓r_X8_followLearnt_33, ↓r_X8_followLearnt_35, ↓r_X8_followLearnt_36, ↓r_X8_followLearnt_37, ↓r_X8_followLearnt_38, ↓r_X8_followLearnt_39, ↓r_X8_followLearnt_41, ↓r_X8_followLearnt_42, ↓r_X8_followLearnt_43, ↓r_X8_followLearnt_44, ↓r_X8_followLearnt_47, ↓r_X8_followLearnt_50, ↓r_X8_followLearnt_52, ↓r_X8_followLearnt_54, ↓r_X8_followLearnt_56, ↓r_X8_followLearnt_59, ↓r_X8_followLearnt_61, ↓r_X8_followLearnt_63, ↓r_X8_followLearnt_66, ↓r_X8_followLearnt_69, ↓r_X8_followLearnt_70, ↓r_X8_followLearnt_71, ↓r_X8_followLearnt_73, ↓r_X8_followLearnt_74, ↓r_X8_followLearnt_77, ↓r_X8_followLearnt_80, ↓r_X8_followLearnt_81, ↓x1_1, ↓x4_3n, ↓x4_3i, ↓x4_3r, ↓x0, ↓x4_4n, ↓x4_4i, ↓x4_4r, ↓x4_5n, ↓x4_5i, ↓x4_5r, ↓x1_5, ↓x32_3, ↓x2_0, ↓f8_7, ↓x1_3, ↓x1_2, ↓x32_1, ↓x8, ↓x48_0, ↓x1_4, ↓x16, ↓x14, ↓lf_X8_rowOf, ↓v5_1, ↓x4_6n, ↓x4_6i, ↓x4_6r, ↓x1_6, ↓x32_0, ↓lf_X8_isIn, ↓x31_0, ↓x31b0, ↓x7_5n, ↓x7_5i, ↓x7_5r, ↓x33, ↓l_2, ↓s_2, ↓l_3, ↓s_3, ↓l_4, ↓s_4, ↓l_5, ↓s_5, ↓l_6, ↓s_6, ↓l_7, ↓l_9, ↓s_9, ↓l_10, ↓s_10, ↓l_11, ↓s_11, ↓l_12, ↓l_13, ↓l_15, ↓s_15, ↓l_16, ↓s_16, ↓l_r1, ↓s_r1, ↓l_r2, ↓s_r2, ↓l_w1, ↓s_w1, ↓l_w2, ↓s_w2, and_self, and_true, true_and, implies_true, true_implies, Int.reduceEq, Int.reduceLE, Int.reduceLT, not_true_eq_false, not_false_eq_true, false_implies, RTf_eq]
        trace_state
        exact ⟨fun _ => hr, fun q => absurd c2 q⟩
      · by_cases c3 : bs s q = true
        · have a3 : b2 (bzd s q = true) = 1 := by
            have : bzd s q = true := c3
            simp [b2, this]
          rw [show lpP (nx8 M t) a t (k : Int) = true by rw [eP, c3]; simp, if_pos rfl] at ef
          rw [ef, if_neg (by omega : ¬ (k : Int) = -9), ← ep, if_neg c1, if_neg (by omega : ¬ (k : Int) = -9), Int.toNat_natCast] at hr
          simp +contextual (disch := first | omega | exact Nat.le_of_ble_eq_true rfl | assumption) only [↓r_X8_followLearnt_0, ↓r_X8_followLearnt_1, ↓r_X8_followLearnt_2, ↓r_X8_followLearnt_3, ↓r_X8_followLearnt_5, ↓r_X8_followLearnt_6, ↓r_X8_followLearnt_8, ↓r_X8_followLearnt_10, ↓r_X8_followLearnt_12, ↓r_X8_followLearnt_15, ↓r_X8_followLearnt_16, ↓r_X8_followLearnt_19, ↓r_X8_followLearnt_21, ↓r_X8_followLearnt_22, ↓r_X8_followLearnt_23, ↓r_X8_followLearnt_24, ↓r_X8_followLearnt_25, ↓r_X8_followLearnt_28, ↓r_X8_followLearnt_30, ↓r_X8_followLearnt_31, ↓r_X8_followLearnt_32, ↓r_X8_followLearnt_33, ↓r_X8_followLearnt_35, ↓r_X8_followLearnt_36, ↓r_X8_followLearnt_37, ↓r_X8_followLearnt_38, ↓r_X8_followLearnt_39, ↓r_X8_followLearnt_41, ↓r_X8_followLearnt_42, ↓r_X8_followLearnt_43, ↓r_X8_followLearnt_44, ↓r_X8_followLearnt_47, ↓r_X8_followLearnt_50, ↓r_X8_followLearnt_52, ↓r_X8_followLearnt_54, ↓r_X8_followLearnt_56, ↓r_X8_followLearnt_59, ↓r_X8_followLearnt_61, ↓r_X8_followLearnt_63, ↓r_X8_followLearnt_66, ↓r_X8_followLearnt_69, ↓r_X8_followLearnt_70, ↓r_X8_followLearnt_71, ↓r_X8_followLearnt_73, ↓r_X8_followLearnt_74, ↓r_X8_followLearnt_77, ↓r_X8_followLearnt_80, ↓r_X8_followLearnt_81, ↓x1_1, ↓x4_3n, ↓x4_3i, ↓x4_3r, ↓x0, ↓x4_4n, ↓x4_4i, ↓x4_4r, ↓x4_5n, ↓x4_5i, ↓x4_5r, ↓x1_5, ↓x32_3, ↓x2_0, ↓f8_7, ↓x1_3, ↓x1_2, ↓x32_1, ↓x8, ↓x48_0, ↓x1_4, ↓x16, ↓x14, ↓lf_X8_rowOf, ↓v5_1, ↓x4_6n, ↓x4_6i, ↓x4_6r, ↓x1_6, ↓x32_0, ↓lf_X8_isIn, ↓x31_0, ↓x31b0, ↓x7_5n, ↓x7_5i, ↓x7_5r, ↓x33, ↓l_2, ↓s_2, ↓l_3, ↓s_3, ↓l_4, ↓s_4, ↓l_5, ↓s_5, ↓l_6, ↓s_6, ↓l_7, ↓l_9, ↓s_9, ↓l_10, ↓s_10, ↓l_11, ↓s_11, ↓l_12, ↓l_13, ↓l_15, ↓s_15, ↓l_16, ↓s_16, ↓l_r1, ↓s_r1, ↓l_r2, ↓s_r2, ↓l_w1, ↓s_w1, ↓l_w2, ↓s_w2, and_self, and_true, true_and, implies_true, true_implies, Int.reduceEq, Int.reduceLE, Int.reduceLT, not_true_eq_false, not_false_eq_true, false_implies, RTf_eq, u, ← er, ← es]
          refine ⟨fun q => by omega, fun _ => ⟨fun _ => ?_, fun q => absurd c1 q⟩⟩
          refine ck_r cG (by omega) (by simp) ?_
          simp +contextual (disch := first | omega | exact Nat.le_of_ble_eq_true rfl | assumption) only [↓r_X8_followLearnt_0, ↓r_X8_followLearnt_1, ↓r_X8_followLearnt_2, ↓r_X8_followLearnt_3, ↓r_X8_followLearnt_5, ↓r_X8_followLearnt_6, ↓r_X8_followLearnt_8, ↓r_X8_followLearnt_10, ↓r_X8_followLearnt_12, ↓r_X8_followLearnt_15, ↓r_X8_followLearnt_16, ↓r_X8_followLearnt_19, ↓r_X8_followLearnt_21, ↓r_X8_followLearnt_22, ↓r_X8_followLearnt_23, ↓r_X8_followLearnt_24, ↓r_X8_followLearnt_25, ↓r_X8_followLearnt_28, ↓r_X8_followLearnt_30, ↓r_X8_followLearnt_31, ↓r_X8_followLearnt_32, ↓r_X8_followLearnt_33, ↓r_X8_followLearnt_35, ↓r_X8_followLearnt_36, ↓r_X8_followLearnt_37, ↓r_X8_followLearnt_38, ↓r_X8_followLearnt_39, ↓r_X8_followLearnt_41, ↓r_X8_followLearnt_42, ↓r_X8_followLearnt_43, ↓r_X8_followLearnt_44, ↓r_X8_followLearnt_47, ↓r_X8_followLearnt_50, ↓r_X8_followLearnt_52, ↓r_X8_followLearnt_54, ↓r_X8_followLearnt_56, ↓r_X8_followLearnt_59, ↓r_X8_followLearnt_61, ↓r_X8_followLearnt_63, ↓r_X8_followLearnt_66, ↓r_X8_followLearnt_69, ↓r_X8_followLearnt_70, ↓r_X8_followLearnt_71, ↓r_X8_followLearnt_73, ↓r_X8_followLearnt_74, ↓r_X8_followLearnt_77, ↓r_X8_followLearnt_80, ↓r_X8_followLearnt_81, ↓x1_1, ↓x4_3n, ↓x4_3i, ↓x4_3r, ↓x0, ↓x4_4n, ↓x4_4i, ↓x4_4r, ↓x4_5n, ↓x4_5i, ↓x4_5r, ↓x1_5, ↓x32_3, ↓x2_0, ↓f8_7, ↓x1_3, ↓x1_2, ↓x32_1, ↓x8, ↓x48_0, ↓x1_4, ↓x16, ↓x14, ↓lf_X8_rowOf, ↓v5_1, ↓x4_6n, ↓x4_6i, ↓x4_6r, ↓x1_6, ↓x32_0, ↓lf_X8_isIn, ↓x31_0, ↓x31b0, ↓x7_5n, ↓x7_5i, ↓x7_5r, ↓x33, ↓l_2, ↓s_2, ↓l_3, ↓s_3, ↓l_4, ↓s_4, ↓l_5, ↓s_5, ↓l_6, ↓s_6, ↓l_7, ↓l_9, ↓s_9, ↓l_10, ↓s_10, ↓l_11, ↓s_11, ↓l_12, ↓l_13, ↓l_15, ↓s_15, ↓l_16, ↓s_16, ↓l_r1, ↓s_r1, ↓l_r2, ↓s_r2, ↓l_w1, ↓s_w1, ↓l_w2, ↓s_w2, and_self, and_true, true_and, implies_true, true_implies, Int.reduceEq, Int.reduceLE, Int.reduceLT, not_true_eq_false, not_false_eq_true, false_implies, RTf_eq, a3]
          exact ⟨fun _ => hr, fun _ => hr⟩
        · have a3 : b2 (bzd s q = true) = 0 := by
            have : ¬ bzd s q = true := c3
            simp [b2, this]
          have e0 : lpP (nx8 M t) a t (k : Int) = false := by
            rw [eP]; simp [c1, c2, c3]
          rw [e0, if_neg (by simp)] at ef
          rw [ef] at hr
          have i3 := ihk (fun j a b => by
            by_cases z : j = (k : Int)
            · rw [z]; exact e0
            · exact hp j a (by omega)) (some (vi q)) hr
          simp +contextual (disch := first | omega | exact Nat.le_of_ble_eq_true rfl | assumption) only [↓r_X8_followLearnt_0, ↓r_X8_followLearnt_1, ↓r_X8_followLearnt_2, ↓r_X8_followLearnt_3, ↓r_X8_followLearnt_5, ↓r_X8_followLearnt_6, ↓r_X8_followLearnt_8, ↓r_X8_followLearnt_10, ↓r_X8_followLearnt_12, ↓r_X8_followLearnt_15, ↓r_X8_followLearnt_16, ↓r_X8_followLearnt_19, ↓r_X8_followLearnt_21, ↓r_X8_followLearnt_22, ↓r_X8_followLearnt_23, ↓r_X8_followLearnt_24, ↓r_X8_followLearnt_25, ↓r_X8_followLearnt_28, ↓r_X8_followLearnt_30, ↓r_X8_followLearnt_31, ↓r_X8_followLearnt_32, ↓r_X8_followLearnt_33, ↓r_X8_followLearnt_35, ↓r_X8_followLearnt_36, ↓r_X8_followLearnt_37, ↓r_X8_followLearnt_38, ↓r_X8_followLearnt_39, ↓r_X8_followLearnt_41, ↓r_X8_followLearnt_42, ↓r_X8_followLearnt_43, ↓r_X8_followLearnt_44, ↓r_X8_followLearnt_47, ↓r_X8_followLearnt_50, ↓r_X8_followLearnt_52, ↓r_X8_followLearnt_54, ↓r_X8_followLearnt_56, ↓r_X8_followLearnt_59, ↓r_X8_followLearnt_61, ↓r_X8_followLearnt_63, ↓r_X8_followLearnt_66, ↓r_X8_followLearnt_69, ↓r_X8_followLearnt_70, ↓r_X8_followLearnt_71, ↓r_X8_followLearnt_73, ↓r_X8_followLearnt_74, ↓r_X8_followLearnt_77, ↓r_X8_followLearnt_80, ↓r_X8_followLearnt_81, ↓x1_1, ↓x4_3n, ↓x4_3i, ↓x4_3r, ↓x0, ↓x4_4n, ↓x4_4i, ↓x4_4r, ↓x4_5n, ↓x4_5i, ↓x4_5r, ↓x1_5, ↓x32_3, ↓x2_0, ↓f8_7, ↓x1_3, ↓x1_2, ↓x32_1, ↓x8, ↓x48_0, ↓x1_4, ↓x16, ↓x14, ↓lf_X8_rowOf, ↓v5_1, ↓x4_6n, ↓x4_6i, ↓x4_6r, ↓x1_6, ↓x32_0, ↓lf_X8_isIn, ↓x31_0, ↓x31b0, ↓x7_5n, ↓x7_5i, ↓x7_5r, ↓x33, ↓l_2, ↓s_2, ↓l_3, ↓s_3, ↓l_4, ↓s_4, ↓l_5, ↓s_5, ↓l_6, ↓s_6, ↓l_7, ↓l_9, ↓s_9, ↓l_10, ↓s_10, ↓l_11, ↓s_11, ↓l_12, ↓l_13, ↓l_15, ↓s_15, ↓l_16, ↓s_16, ↓l_r1, ↓s_r1, ↓l_r2, ↓s_r2, ↓l_w1, ↓s_w1, ↓l_w2, ↓s_w2, and_self, and_true, true_and, implies_true, true_implies, Int.reduceEq, Int.reduceLE, Int.reduceLT, not_true_eq_false, not_false_eq_true, false_implies, RTf_eq, u, ← er, ← es]
          refine ⟨fun q => by omega, fun _ => ⟨fun _ => ?_, fun q => absurd c1 q⟩⟩
          refine ck_r cG (by omega) (by simp) ?_
          simp +contextual (disch := first | omega | exact Nat.le_of_ble_eq_true rfl | assumption) only [↓r_X8_followLearnt_0, ↓r_X8_followLearnt_1, ↓r_X8_followLearnt_2, ↓r_X8_followLearnt_3, ↓r_X8_followLearnt_5, ↓r_X8_followLearnt_6, ↓r_X8_followLearnt_8, ↓r_X8_followLearnt_10, ↓r_X8_followLearnt_12, ↓r_X8_followLearnt_15, ↓r_X8_followLearnt_16, ↓r_X8_followLearnt_19, ↓r_X8_followLearnt_21, ↓r_X8_followLearnt_22, ↓r_X8_followLearnt_23, ↓r_X8_followLearnt_24, ↓r_X8_followLearnt_25, ↓r_X8_followLearnt_28, ↓r_X8_followLearnt_30, ↓r_X8_followLearnt_31, ↓r_X8_followLearnt_32, ↓r_X8_followLearnt_33, ↓r_X8_followLearnt_35, ↓r_X8_followLearnt_36, ↓r_X8_followLearnt_37, ↓r_X8_followLearnt_38, ↓r_X8_followLearnt_39, ↓r_X8_followLearnt_41, ↓r_X8_followLearnt_42, ↓r_X8_followLearnt_43, ↓r_X8_followLearnt_44, ↓r_X8_followLearnt_47, ↓r_X8_followLearnt_50, ↓r_X8_followLearnt_52, ↓r_X8_followLearnt_54, ↓r_X8_followLearnt_56, ↓r_X8_followLearnt_59, ↓r_X8_followLearnt_61, ↓r_X8_followLearnt_63, ↓r_X8_followLearnt_66, ↓r_X8_followLearnt_69, ↓r_X8_followLearnt_70, ↓r_X8_followLearnt_71, ↓r_X8_followLearnt_73, ↓r_X8_followLearnt_74, ↓r_X8_followLearnt_77, ↓r_X8_followLearnt_80, ↓r_X8_followLearnt_81, ↓x1_1, ↓x4_3n, ↓x4_3i, ↓x4_3r, ↓x0, ↓x4_4n, ↓x4_4i, ↓x4_4r, ↓x4_5n, ↓x4_5i, ↓x4_5r, ↓x1_5, ↓x32_3, ↓x2_0, ↓f8_7, ↓x1_3, ↓x1_2, ↓x32_1, ↓x8, ↓x48_0, ↓x1_4, ↓x16, ↓x14, ↓lf_X8_rowOf, ↓v5_1, ↓x4_6n, ↓x4_6i, ↓x4_6r, ↓x1_6, ↓x32_0, ↓lf_X8_isIn, ↓x31_0, ↓x31b0, ↓x7_5n, ↓x7_5i, ↓x7_5r, ↓x33, ↓l_2, ↓s_2, ↓l_3, ↓s_3, ↓l_4, ↓s_4, ↓l_5, ↓s_5, ↓l_6, ↓s_6, ↓l_7, ↓l_9, ↓s_9, ↓l_10, ↓s_10, ↓l_11, ↓s_11, ↓l_12, ↓l_13, ↓l_15, ↓s_15, ↓l_16, ↓s_16, ↓l_r1, ↓s_r1, ↓l_r2, ↓s_r2, ↓l_w1, ↓s_w1, ↓l_w2, ↓s_w2, and_self, and_true, true_and, implies_true, true_implies, Int.reduceEq, Int.reduceLE, Int.reduceLT, not_true_eq_false, not_false_eq_true, false_implies, RTf_eq, a3]
          exact ⟨fun f => absurd f c2, fun _ => i3⟩
end
