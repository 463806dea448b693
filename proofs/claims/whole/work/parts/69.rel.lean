/-! ===== the two halves hold the same: A the class's, B the model's ===== -/
def RN (A B : Mem) : Prop :=
  (∀ l, 0 ≤ l → l < 16 → (0 ≤ A 4 l ∧ A 4 l ≤ 60) ∧ (0 ≤ A 2 l ∧ A 2 l ≤ 7) ∧ (0 ≤ A 3 l ∧ A 3 l ≤ 7) ∧ (0 < A 4 l → A 2 l < A 3 l)) ∧
  (∀ l, 0 ≤ l → l < 16 → B 249 l = (if 0 < A 4 l then 1 else 0) ∧ B 250 l = A 2 l ∧ B 251 l = A 3 l ∧ (0 < A 4 l → B 252 l = A 4 l)) ∧
  (∀ l l', 0 ≤ l → l < 16 → 0 ≤ l' → l' < 16 → 0 < A 4 l → 0 < A 4 l' → A 2 l = A 2 l' → A 3 l = A 3 l' → l = l') ∧
  (∀ i k, 0 ≤ i → i < 8 → 0 ≤ k → k < 8 → B 253 (8 * i + k) = lk8 A i k) ∧
  (∀ i, 0 ≤ i → i < 8 → 0 ≤ A 5 i ∧ A 5 i < 256) ∧
  (∀ i k, 0 ≤ i → i < 8 → 0 ≤ k → k < 8 → bs (A 5 i) k = decide (¬ lk8 A i k = -9)) ∧
  A 1 5 = cnt (fun l => decide (0 < A 4 l)) 16
def RR (A B : Mem) : Prop := ∀ r, 0 ≤ r → r < 64 → A (17 + 3 * r) 2 = A 5 (r / 8) ∧ RV (bs (A 5 (r / 8))) (A (18 + 3 * r)) ∧ ∀ k, 0 ≤ k → k < 8 → (0 ≤ A (18 + 3 * r) k ∧ A (18 + 3 * r) k ≤ 1000) ∧ (0 ≤ B 254 (8 * r + k) ∧ B 254 (8 * r + k) ≤ 1000) ∧ (bs (A 5 (r / 8)) k = true → A (18 + 3 * r) k = B 254 (8 * r + k))
def RO (A B : Mem) : Prop := ∀ r, 0 ≤ r → r < 64 → ringed (A (17 + 3 * r) 3) (A (17 + 3 * r) 4) (A (19 + 3 * r)) (getv B 272 (8 * r)) ∧ B 271 r = A (17 + 3 * r) 3 ∧ ∀ j, 0 ≤ j → j < 8 → (0 ≤ A (19 + 3 * r) j ∧ A (19 + 3 * r) j ≤ 2000000) ∧ (0 ≤ B 272 (8 * r + j) ∧ B 272 (8 * r + j) ≤ 2000000)
def RS (T : Int) (A B : Mem) : Prop := (A 0 8 = B 248 6 ∧ 0 ≤ A 0 8 ∧ A 0 8 ≤ 100) ∧ (A 0 9 = B 248 7 ∧ 0 ≤ A 0 9 ∧ A 0 9 ≤ 1000) ∧ (A 0 10 = B 248 12 ∧ 0 ≤ A 0 10 ∧ A 0 10 ≤ T) ∧ A 0 11 = B 248 14 ∧ A 0 12 = B 248 15 ∧ A 0 13 = B 248 16 ∧ A 14 0 = B 248 11 ∧ A 14 1 = B 248 13
def WC (A : Mem) (w : Int) : Prop := (A (209 + 3 * w) 3 = 0 ∨ A (209 + 3 * w) 3 = 1) ∧ (A (209 + 3 * w) 4 = 0 ∨ A (209 + 3 * w) 4 = 1) ∧ rg (A (209 + 3 * w) 8) ∧ (0 ≤ A (209 + 3 * w) 2 ∧ A (209 + 3 * w) 2 ≤ 8) ∧ (∀ j, 0 ≤ j → j < 8 → 0 ≤ A (210 + 3 * w) j ∧ A (210 + 3 * w) j ≤ 7) ∧ (0 ≤ A (209 + 3 * w) 5 ∧ A (209 + 3 * w) 5 ≤ 2) ∧ (0 ≤ A (209 + 3 * w) 7 ∧ A (209 + 3 * w) 7 ≤ 7)
def WD (B : Mem) (w : Int) : Prop := (B 258 w = 0 ∨ B 258 w = 1) ∧ (B 262 w = 0 ∨ B 262 w = 1) ∧ rg (B 263 w) ∧ (0 ≤ B 267 w ∧ B 267 w ≤ 8) ∧ (∀ j, 0 ≤ j → j < 8 → 0 ≤ B 268 (8 * w + j) ∧ B 268 (8 * w + j) ≤ 7) ∧ (0 ≤ B 259 w ∧ B 259 w ≤ 2) ∧ (0 ≤ B 261 w ∧ B 261 w ≤ 7)
/-- what both know of a walker that walks, whether it is on a link or not -/
def WB (A B : Mem) (w : Int) : Prop := (A (209 + 3 * w) 5 = B 259 w ∧ A (209 + 3 * w) 6 = B 260 w ∧ A (209 + 3 * w) 7 = B 261 w ∧ A (209 + 3 * w) 4 = B 262 w ∧ A (209 + 3 * w) 8 = B 263 w ∧ A (209 + 3 * w) 11 = B 266 w ∧ A (209 + 3 * w) 2 = B 267 w) ∧ (0 ≤ A (209 + 3 * w) 11 ∧ A (209 + 3 * w) 11 ≤ 24) ∧ 1 ≤ A (209 + 3 * w) 2 ∧ (∀ j, 0 ≤ j → j < A (209 + 3 * w) 2 → A (210 + 3 * w) j = B 268 (8 * w + j) ∧ A (211 + 3 * w) j = B 269 (8 * w + j) ∧ 0 ≤ A (211 + 3 * w) j ∧ A (211 + 3 * w) j ≤ A 0 10) ∧ (∀ j j', 0 ≤ j → j < j' → j' < A (209 + 3 * w) 2 → ¬ A (210 + 3 * w) j = A (210 + 3 * w) j' ∧ A (211 + 3 * w) j < A (211 + 3 * w) j')
def WE (A B : Mem) (w : Int) : Prop := (A (209 + 3 * w) 9 = B 264 w ∧ A (209 + 3 * w) 10 = B 265 w) ∧ (0 ≤ A (209 + 3 * w) 9 ∧ A (209 + 3 * w) 9 ≤ 7) ∧ (0 ≤ A (209 + 3 * w) 10 ∧ A (209 + 3 * w) 10 ≤ A 0 10 + 100) ∧ (A (209 + 3 * w) 4 = 0 → (∀ j, 0 ≤ j → j < A (209 + 3 * w) 2 → ¬ A (210 + 3 * w) j = A (209 + 3 * w) 7) ∧ A (211 + 3 * w) (A (209 + 3 * w) 2 - 1) < A (209 + 3 * w) 10) ∧ (A (209 + 3 * w) 4 = 1 → 0 ≤ A (209 + 3 * w) 12 ∧ A (209 + 3 * w) 12 + 1 < A (209 + 3 * w) 2 ∧ B 270 w = A (209 + 3 * w) 12 + 1 ∧ A (209 + 3 * w) 9 = A (210 + 3 * w) (A (209 + 3 * w) 12) ∧ lk8 A (A (210 + 3 * w) (A (209 + 3 * w) 12 + 1)) (A (210 + 3 * w) (A (209 + 3 * w) 12)) = A (209 + 3 * w) 8 ∧ ¬ A (209 + 3 * w) 8 = -9)
def WR (A B : Mem) (w : Int) : Prop := WC A w ∧ WD B w ∧ B 258 w = A (209 + 3 * w) 3 ∧ (A (209 + 3 * w) 3 = 0 → A (209 + 3 * w) 8 = -9) ∧ (A (209 + 3 * w) 3 = 1 → WB A B w ∧ WE A B w)
/-- all but one walker -/
def RX (T : Int) (A B : Mem) (w : Int) : Prop := RN A B ∧ RR A B ∧ RO A B ∧ RS T A B ∧ ∀ u, 0 ≤ u → u < 12 → ¬ u = w → WR A B u
def Rel (T : Int) (A B : Mem) : Prop := RN A B ∧ RR A B ∧ RO A B ∧ RS T A B ∧ ∀ u, 0 ≤ u → u < 12 → WR A B u
section
variable {A B A' B' : Mem} {T w : Int}
theorem lk8_spec {i k l : Int} (h : lk8 A i k = l) (hl : ¬ l = -9) : (0 ≤ l ∧ l < 16) ∧ 0 < A 4 l ∧ A 2 l = min i k ∧ A 3 l = max i k := by
  have r := fi_rng (p := btB A (min i k) (max i k)) 16 0 (by omega)
  rw [show fi (btB A (min i k) (max i k)) 0 16 = l from h] at r
  rcases r with q | q
  · exact absurd q hl
  · have := of_decide_eq_true q.2.2
    exact ⟨⟨q.1, by have := q.2.1; omega⟩, this⟩
theorem lk8_rng {i k : Int} : lk8 A i k = -9 ∨ (0 ≤ lk8 A i k ∧ lk8 A i k < 16) := by
  by_cases q : lk8 A i k = -9
  · exact Or.inl q
  · exact Or.inr (lk8_spec rfl q).1
theorem lk8_some {i k l : Int} (hl : 0 ≤ l ∧ l < 16) (h4 : 0 < A 4 l) (h2 : A 2 l = min i k) (h3 : A 3 l = max i k) : ¬ lk8 A i k = -9 := by
  intro q
  have := fi_none 16 0 (by omega) q l hl.1 (by omega)
  have := of_decide_eq_false this
  exact this ⟨h4, h2, h3⟩
theorem lk8_comm {i k : Int} : lk8 A i k = lk8 A k i := by
  unfold lk8
  rw [show min i k = min k i by omega, show max i k = max k i by omega]
theorem lk8_self {i : Int} (hN : RN A B) : lk8 A i i = -9 := by
  by_cases q : lk8 A i i = -9
  · exact q
  · have h := lk8_spec rfl q
    have := (hN.1 _ h.1.1 h.1.2).2.2.2 h.2.1
    omega
theorem lk8_is {i k l : Int} (hN : RN A B) (hl : 0 ≤ l ∧ l < 16) (h4 : 0 < A 4 l) (h2 : A 2 l = min i k) (h3 : A 3 l = max i k) : lk8 A i k = l := by
  have h := lk8_spec rfl (lk8_some hl h4 h2 h3)
  exact hN.2.2.1 _ _ h.1.1 h.1.2 hl.1 hl.2 h.2.1 h4 (by rw [h.2.2.1, h2]) (by rw [h.2.2.2, h3])
theorem RN_nb (hN : RN A B) {i k : Int} (hi : 0 ≤ i ∧ i < 8) (hk : 0 ≤ k ∧ k < 8) : nbm B i k = bs (A 5 i) k := by
  unfold nbm
  rw [hN.2.2.2.1 i k hi.1 hi.2 hk.1 hk.2, hN.2.2.2.2.2.1 i k hi.1 hi.2 hk.1 hk.2]
theorem RN_L (hN : RN A B) : ∀ z, 0 ≤ z → z < 64 → B 253 z = -9 ∨ (0 ≤ B 253 z ∧ B 253 z < 16) := by
  intro z a b
  have := hN.2.2.2.1 (z / 8) (z % 8) (by omega) (by omega) (by omega) (by omega)
  rw [show 8 * (z / 8) + z % 8 = z by omega] at this
  rw [this]
  exact lk8_rng
theorem RN_LO (hN : RN A B) : LO A := ⟨fun l a b => (hN.1 l a b).1, fun l a b => by have := (hN.1 l a b).2.1; omega, fun l a b => by have := (hN.1 l a b).2.2.1; omega⟩
theorem CW_WC {A : Mem} (hN : RN A B) (hR : RR A B) (hW : ∀ u, 0 ≤ u → u < 12 → WC A u) : CW A :=
  ⟨fun k a b => (hW k a b).1, fun k a b => (hW k a b).2.1, fun k a b => (hW k a b).2.2.1, fun l a b => (hN.1 l a b).1, fun l a b => (hN.1 l a b).2.1, fun l a b => (hN.1 l a b).2.2.1, hN.2.2.2.2.1, fun r k a b c d => ((hR r a b).2.2 k c d).1, fun k a b => (hW k a b).2.2.2.1, fun k j a b c d => (hW k a b).2.2.2.2.1 j c d, fun k a b => (hW k a b).2.2.2.2.2.1, fun k a b => (hW k a b).2.2.2.2.2.2⟩
theorem MW_WD {B : Mem} (hN : RN A B) (hR : RR A B) (hW : ∀ u, 0 ≤ u → u < 12 → WD B u) : MW B :=
  ⟨fun k a b => (hW k a b).1, fun k a b => (hW k a b).2.1, fun k a b => (hW k a b).2.2.1, RN_L hN, fun z a b => by
    have := ((hR (z / 8) (by omega) (by omega)).2.2 (z % 8) (by omega) (by omega)).2.1
    rw [show 8 * (z / 8) + z % 8 = z by omega] at this
    exact this, fun k a b => (hW k a b).2.2.2.1, fun z a b => by
    have := (hW (z / 8) (by omega) (by omega)).2.2.2.2.1 (z % 8) (by omega) (by omega)
    rw [show 8 * (z / 8) + z % 8 = z by omega] at this
    exact this, fun k a b => (hW k a b).2.2.2.2.2.1, fun k a b => (hW k a b).2.2.2.2.2.2⟩
theorem Rel_CW (h : Rel T A B) : CW A := CW_WC h.1 h.2.1 (fun u a b => (h.2.2.2.2 u a b).1)
theorem Rel_MW (h : Rel T A B) : MW B := MW_WD h.1 h.2.1 (fun u a b => (h.2.2.2.2 u a b).2.1)
/-! what does not touch a group leaves it -/
theorem RN_congr (h : RN A B) (h2 : A' 2 = A 2) (h3 : A' 3 = A 3) (h4 : A' 4 = A 4) (h5 : A' 5 = A 5) (h1 : A' 1 5 = A 1 5) (hB : ∀ c, 249 ≤ c → c ≤ 253 → B' c = B c) : RN A' B' := by
  have e : ∀ i k, lk8 A' i k = lk8 A i k := fun i k => lk8_congr (fun z => by rw [h2]) (fun z => by rw [h3]) (fun z => by rw [h4])
  unfold RN
  simp only [e, h2, h3, h4, h5, h1, hB 249 (by omega) (by omega), hB 250 (by omega) (by omega), hB 251 (by omega) (by omega), hB 252 (by omega) (by omega), hB 253 (by omega) (by omega)]
  exact h
theorem RR_congr (h : RR A B) (h5 : A' 5 = A 5) (hA : ∀ r, 0 ≤ r → r < 64 → A' (17 + 3 * r) 2 = A (17 + 3 * r) 2 ∧ A' (18 + 3 * r) = A (18 + 3 * r)) (hB : B' 254 = B 254) : RR A' B' := by
  intro r a b
  rw [(hA r a b).1, (hA r a b).2, h5, hB]
  exact h r a b
theorem RO_congr (h : RO A B) (hA : ∀ r, 0 ≤ r → r < 64 → A' (17 + 3 * r) 3 = A (17 + 3 * r) 3 ∧ A' (17 + 3 * r) 4 = A (17 + 3 * r) 4 ∧ A' (19 + 3 * r) = A (19 + 3 * r)) (hB : B' 271 = B 271) (hB2 : B' 272 = B 272) : RO A' B' := by
  intro r a b
  rw [(hA r a b).1, (hA r a b).2.1, (hA r a b).2.2, hB, hB2, show getv B' 272 (8 * r) = getv B 272 (8 * r) by unfold getv; rw [hB2]]
  exact h r a b
theorem WR_congr {u : Int} (h : WR A B u) (hA : A' (209 + 3 * u) = A (209 + 3 * u)) (hA1 : A' (210 + 3 * u) = A (210 + 3 * u)) (hA2 : A' (211 + 3 * u) = A (211 + 3 * u)) (ht : A' 0 10 = A 0 10) (hl : ∀ i k, lk8 A' i k = lk8 A i k) (hB : ∀ c, 258 ≤ c → c ≤ 267 → B' c u = B c u) (hB8 : ∀ j, 0 ≤ j → j < 8 → B' 268 (8 * u + j) = B 268 (8 * u + j) ∧ B' 269 (8 * u + j) = B 269 (8 * u + j)) (hB0 : B' 270 u = B 270 u) : WR A' B' u := by
  obtain ⟨hc, hd, h1, h2, h3⟩ := h
  unfold WR WC WD WB WE
  simp only [hA, hA1, hA2, ht, hl, hB 258 (by omega) (by omega), hB 259 (by omega) (by omega), hB 260 (by omega) (by omega), hB 261 (by omega) (by omega), hB 262 (by omega) (by omega), hB 263 (by omega) (by omega), hB 264 (by omega) (by omega), hB 265 (by omega) (by omega), hB 266 (by omega) (by omega), hB 267 (by omega) (by omega), hB0]
  refine ⟨hc, ⟨hd.1, hd.2.1, hd.2.2.1, hd.2.2.2.1, fun j a b => by rw [(hB8 j a b).1]; exact hd.2.2.2.2.1 j a b, hd.2.2.2.2.2⟩, h1, h2, fun q => ?_⟩
  obtain ⟨b, e⟩ := h3 q
  refine ⟨⟨b.1, b.2.1, b.2.2.1, fun j x y => ?_, b.2.2.2.2⟩, e⟩
  have n8 := hc.2.2.2.1
  rw [(hB8 j x (by omega)).1, (hB8 j x (by omega)).2]
  exact b.2.2.2.1 j x y
end
