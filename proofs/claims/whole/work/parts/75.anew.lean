/-! ===== rows begun anew on both sides ===== -/
section
variable {M A B A1 B1 A' B' : Mem} {T T' w : Int} {E : ET} {S : SCR}
theorem anM_ot {r s c z : Int} (h : ¬ (c = 17 + 3 * r ∧ (z = 2 ∨ z = 3 ∨ z = 4)) ∧ ¬ (c = 18 + 3 * r ∧ 0 ≤ z ∧ z < 8)) : anM M r s c z = M c z := by
  unfold anM
  by_cases q : c = 18 + 3 * r
  · rw [q, putv_out (by omega), up2_other (by omega), up2_other (by omega), up2_other (by omega)]
  · rw [putv_ne q, up2_other (by omega), up2_other (by omega), up2_other (by omega)]
theorem anM_at {r s : Int} : anM M r s (17 + 3 * r) 2 = s ∧ anM M r s (17 + 3 * r) 3 = 0 ∧ anM M r s (17 + 3 * r) 4 = 0 ∧ ∀ z, 0 ≤ z → z < 8 → anM M r s (18 + 3 * r) z = evF 1000 (bs s) (M (18 + 3 * r)) z := by
  unfold anM
  refine ⟨by rw [putv_ne (by omega), up2_other (by omega), up2_other (by omega), up2_same], by rw [putv_ne (by omega), up2_other (by omega), up2_same], by rw [putv_ne (by omega), up2_same], fun z a b => ?_⟩
  rw [putv_at0 a b]
  have e : getv M (18 + 3 * r) 0 = M (18 + 3 * r) := by funext k; unfold getv; rw [Int.zero_add]
  rw [e]
theorem srM_ot {i s : Int} (hi : 0 ≤ i ∧ i < 8) : ∀ (k : Nat) (c z : Int), k ≤ 8 → ¬ (∃ r, (8 * i ≤ r ∧ r < 8 * i + (k : Int)) ∧ ((c = 17 + 3 * r ∧ (z = 2 ∨ z = 3 ∨ z = 4)) ∨ (c = 18 + 3 * r ∧ 0 ≤ z ∧ z < 8))) → srM M i s k c z = M c z := by
  intro k
  induction k with
  | zero => intro c z _ _; rfl
  | succ k ih =>
    intro c z hk h
    show anM (srM M i s k) (i * 8 + (k : Int)) s c z = M c z
    rw [anM_ot ⟨fun q => h ⟨i * 8 + (k : Int), by omega, Or.inl q⟩, fun q => h ⟨i * 8 + (k : Int), by omega, Or.inr q⟩⟩]
    exact ih c z (by omega) (fun ⟨r, h1, h2⟩ => h ⟨r, by omega, h2⟩)
theorem srM_at {i s : Int} (hi : 0 ≤ i ∧ i < 8) : ∀ (k : Nat) (r : Int), k ≤ 8 → 8 * i ≤ r → r < 8 * i + (k : Int) → srM M i s k (17 + 3 * r) 2 = s ∧ srM M i s k (17 + 3 * r) 3 = 0 ∧ srM M i s k (17 + 3 * r) 4 = 0 ∧ ∀ z, 0 ≤ z → z < 8 → srM M i s k (18 + 3 * r) z = evF 1000 (bs s) (M (18 + 3 * r)) z := by
  intro k
  induction k with
  | zero => intro r _ h1 h2; omega
  | succ k ih =>
    intro r hk h1 h2
    have e : srM M i s (k + 1) = anM (srM M i s k) (i * 8 + (k : Int)) s := rfl
    by_cases q : r = i * 8 + (k : Int)
    · rw [e, ← q]
      have a := anM_at (M := srM M i s k) (r := r) (s := s)
      refine ⟨a.1, a.2.1, a.2.2.1, fun z z1 z2 => ?_⟩
      rw [a.2.2.2 z z1 z2]
      rw [show srM M i s k (18 + 3 * r) = M (18 + 3 * r) from funext fun y => srM_ot hi k _ _ (by omega) (fun ⟨r', h3, h4⟩ => by omega)]
    · obtain ⟨i1, i2, i3, i4⟩ := ih r (by omega) h1 (by omega)
      rw [e]
      refine ⟨by rw [anM_ot (by omega)]; exact i1, by rw [anM_ot (by omega)]; exact i2, by rw [anM_ot (by omega)]; exact i3, fun z z1 z2 => by rw [anM_ot (by omega)]; exact i4 z z1 z2⟩
theorem fgM_row {i r k : Int} (hr : 0 ≤ r) (hk : 0 ≤ k ∧ k < 8) : fgM M i 8 254 (8 * r + k) = if r / 8 = i then ev0 (nbm M i) k else M 254 (8 * r + k) := by
  unfold fgM
  by_cases q : r / 8 = i
  · rw [if_pos ⟨rfl, by omega, by omega⟩, if_pos q, show (8 * r + k) % 8 = k by omega]
  · rw [if_neg (by omega), if_neg (by omega), if_neg q]
theorem fgM_cnt {i r : Int} (hr : 0 ≤ r) : fgM M i 8 271 r = if r / 8 = i then 0 else M 271 r := by
  unfold fgM
  by_cases q : r / 8 = i
  · rw [if_neg (by omega), if_pos ⟨rfl, by omega, by omega⟩, if_pos q]
  · rw [if_neg (by omega), if_neg (by omega), if_neg q]
theorem Rel_new {a b : Int} (ha : 0 ≤ a ∧ a < 8) (hb : 0 ≤ b ∧ b < 8) (hab : ¬ a = b) (hN : RN A1 B1) (hS : RS T A1 B1) (hW : ∀ u, 0 ≤ u → u < 12 → WR A1 B1 u)
    (hv : ∀ r k, 0 ≤ r → r < 64 → 0 ≤ k → k < 8 → 0 ≤ A1 (18 + 3 * r) k ∧ A1 (18 + 3 * r) k ≤ 1000)
    (hn : ∀ r j, 0 ≤ r → r < 64 → 0 ≤ j → j < 8 → (0 ≤ A1 (19 + 3 * r) j ∧ A1 (19 + 3 * r) j ≤ 2000000) ∧ (0 ≤ B1 272 (8 * r + j) ∧ B1 272 (8 * r + j) ≤ 2000000))
    (hR : ∀ r, 0 ≤ r → r < 64 → ¬ r / 8 = a → ¬ r / 8 = b → (A1 (17 + 3 * r) 2 = A1 5 (r / 8) ∧ RV (bs (A1 5 (r / 8))) (A1 (18 + 3 * r)) ∧ ∀ k, 0 ≤ k → k < 8 → (0 ≤ B1 254 (8 * r + k) ∧ B1 254 (8 * r + k) ≤ 1000) ∧ (bs (A1 5 (r / 8)) k = true → A1 (18 + 3 * r) k = B1 254 (8 * r + k))) ∧ ringed (A1 (17 + 3 * r) 3) (A1 (17 + 3 * r) 4) (A1 (19 + 3 * r)) (getv B1 272 (8 * r)) ∧ B1 271 r = A1 (17 + 3 * r) 3) :
    Rel T (srM (srM A1 a (A1 5 a) 8) b (A1 5 b) 8) (fgM (fgM B1 a 8) b 8) := by
  obtain ⟨X, eX⟩ : ∃ X, X = srM A1 a (A1 5 a) 8 := ⟨_, rfl⟩
  obtain ⟨A2, eA⟩ : ∃ A2, A2 = srM X b (A1 5 b) 8 := ⟨_, rfl⟩
  obtain ⟨Y, eY⟩ : ∃ Y, Y = fgM B1 a 8 := ⟨_, rfl⟩
  obtain ⟨B2, eB⟩ : ∃ B2, B2 = fgM Y b 8 := ⟨_, rfl⟩
  rw [← eX, ← eA, ← eY, ← eB]
  -- cells that stay
  have oA : ∀ c z, ¬ (17 ≤ c ∧ c < 209) → A2 c z = A1 c z := fun c z h => by
    rw [eA, srM_ot hb 8 c z (by omega) (fun ⟨r, h1, h2⟩ => by omega), eX, srM_ot ha 8 c z (by omega) (fun ⟨r, h1, h2⟩ => by omega)]
  have oB : ∀ c z, ¬ c = 254 → ¬ c = 271 → B2 c z = B1 c z := fun c z h1 h2 => by
    rw [eB, fgM_c h1 h2, eY, fgM_c h1 h2]
  have o19 : ∀ r z, 0 ≤ r → r < 64 → A2 (19 + 3 * r) z = A1 (19 + 3 * r) z := fun r z h1 h2 => by
    rw [eA, srM_ot hb 8 _ z (by omega) (fun ⟨r, h1, h2⟩ => by omega), eX, srM_ot ha 8 _ z (by omega) (fun ⟨r, h1, h2⟩ => by omega)]
  have nbY : nbm Y b = nbm B1 b := nbm_congr (fun z => by rw [eY, fgM_c (by omega) (by omega)])
  -- a row of the class
  have rowA : ∀ r, 0 ≤ r → r < 64 → (r / 8 = a ∨ r / 8 = b → A2 (17 + 3 * r) 2 = A1 5 (r / 8) ∧ A2 (17 + 3 * r) 3 = 0 ∧ A2 (17 + 3 * r) 4 = 0 ∧ ∀ z, 0 ≤ z → z < 8 → A2 (18 + 3 * r) z = evF 1000 (bs (A1 5 (r / 8))) (A1 (18 + 3 * r)) z) ∧ (¬ r / 8 = a → ¬ r / 8 = b → A2 (17 + 3 * r) = A1 (17 + 3 * r) ∧ A2 (18 + 3 * r) = A1 (18 + 3 * r)) := by
    intro r h1 h2
    refine ⟨fun h => ?_, fun h3 h4 => ⟨funext fun z => ?_, funext fun z => ?_⟩⟩
    · by_cases q : r / 8 = b
      · obtain ⟨s1, s2, s3, s4⟩ := srM_at (M := X) (s := A1 5 b) hb 8 r (by omega) (by omega) (by omega)
        rw [eA, q]
        refine ⟨s1, s2, s3, fun z z1 z2 => ?_⟩
        rw [s4 z z1 z2]
        rw [show X (18 + 3 * r) = A1 (18 + 3 * r) from funext fun y => by rw [eX]; exact srM_ot ha 8 _ _ (by omega) (fun ⟨r', h3, h4⟩ => by omega)]
      · have qa : r / 8 = a := h.resolve_right q
        obtain ⟨s1, s2, s3, s4⟩ := srM_at (M := A1) (s := A1 5 a) ha 8 r (by omega) (by omega) (by omega)
        have oX : ∀ c z, (c = 17 + 3 * r ∨ c = 18 + 3 * r) → A2 c z = X c z := fun c z hc => by
          rw [eA]; exact srM_ot hb 8 _ _ (by omega) (fun ⟨r', h3, h4⟩ => by omega)
        rw [qa]
        refine ⟨by rw [oX _ _ (Or.inl rfl), eX]; exact s1, by rw [oX _ _ (Or.inl rfl), eX]; exact s2, by rw [oX _ _ (Or.inl rfl), eX]; exact s3, fun z z1 z2 => by rw [oX _ _ (Or.inr rfl), eX]; exact s4 z z1 z2⟩
    · rw [eA, srM_ot hb 8 _ _ (by omega) (fun ⟨r', h5, h6⟩ => by omega), eX, srM_ot ha 8 _ _ (by omega) (fun ⟨r', h5, h6⟩ => by omega)]
    · rw [eA, srM_ot hb 8 _ _ (by omega) (fun ⟨r', h5, h6⟩ => by omega), eX, srM_ot ha 8 _ _ (by omega) (fun ⟨r', h5, h6⟩ => by omega)]
  have rowB : ∀ r k, 0 ≤ r → 0 ≤ k → k < 8 → B2 254 (8 * r + k) = if r / 8 = a ∨ r / 8 = b then ev0 (nbm B1 (r / 8)) k else B1 254 (8 * r + k) := fun r k h1 h2 h3 => by
    rw [eB, fgM_row h1 ⟨h2, h3⟩, nbY]
    by_cases q : r / 8 = b
    · rw [if_pos q, if_pos (Or.inr q), q]
    · rw [if_neg q, eY, fgM_row h1 ⟨h2, h3⟩]
      by_cases q2 : r / 8 = a
      · rw [if_pos q2, if_pos (Or.inl q2), q2]
      · rw [if_neg q2, if_neg (by omega)]
  have cntB : ∀ r, 0 ≤ r → B2 271 r = if r / 8 = a ∨ r / 8 = b then 0 else B1 271 r := fun r h1 => by
    rw [eB, fgM_cnt h1]
    by_cases q : r / 8 = b
    · rw [if_pos q, if_pos (Or.inr q)]
    · rw [if_neg q, eY, fgM_cnt h1]
      by_cases q2 : r / 8 = a
      · rw [if_pos q2, if_pos (Or.inl q2)]
      · rw [if_neg q2, if_neg (by omega)]
  have f2 : A2 2 = A1 2 := funext fun z => oA 2 z (by omega)
  have f3 : A2 3 = A1 3 := funext fun z => oA 3 z (by omega)
  have f4 : A2 4 = A1 4 := funext fun z => oA 4 z (by omega)
  have f5 : A2 5 = A1 5 := funext fun z => oA 5 z (by omega)
  have el : ∀ i k, lk8 A2 i k = lk8 A1 i k := fun i k => lk8_congr (fun z => by rw [f2]) (fun z => by rw [f3]) (fun z => by rw [f4])
  refine ⟨RN_congr hN f2 f3 f4 f5 (oA 1 5 (by omega)) (fun c h1 h2 => funext fun z => oB c z (by omega) (by omega)), fun r h1 h2 => ?_, fun r h1 h2 => ?_, ?_, fun u h1 h2 => ?_⟩
  · rw [f5]
    by_cases q : r / 8 = a ∨ r / 8 = b
    · obtain ⟨s1, s2, s3, s4⟩ := (rowA r h1 h2).1 q
      have g1 := ev_rng (m := bs (A1 5 (r / 8))) (v := A1 (18 + 3 * r)) (fun k a b => hv r k h1 h2 a b)
      have g2 := ev_rng (m := nbm B1 (r / 8)) (v := fun _ => 0) (fun k a b => by omega)
      refine ⟨s1, RV_congr (fun _ _ _ => rfl) (fun k a b _ => (s4 k a b).symm) g1.1, fun k k1 k2 => ?_⟩
      rw [s4 k k1 k2, rowB r k h1 k1 k2, if_pos q]
      exact ⟨g1.2 k k1 k2, g2.2 k k1 k2, fun d => evF_eqv (fun k a b => (RN_nb hN (by omega) ⟨a, b⟩).symm) k k1 k2 d⟩
    · have q1 : ¬ r / 8 = a := fun z => q (Or.inl z)
      have q2 : ¬ r / 8 = b := fun z => q (Or.inr z)
      obtain ⟨s1, s2⟩ := (rowA r h1 h2).2 q1 q2
      obtain ⟨r1, r2⟩ := hR r h1 h2 q1 q2
      rw [s1, s2]
      refine ⟨r1.1, r1.2.1, fun k k1 k2 => ?_⟩
      rw [rowB r k h1 k1 k2, if_neg q]
      exact ⟨hv r k h1 h2 k1 k2, r1.2.2 k k1 k2⟩
  · have e19 : A2 (19 + 3 * r) = A1 (19 + 3 * r) := funext fun z => o19 r z h1 h2
    have e272 : getv B2 272 (8 * r) = getv B1 272 (8 * r) := funext fun z => by unfold getv; exact oB 272 _ (by omega) (by omega)
    rw [e19, e272, cntB r h1]
    refine ⟨?_, ?_, fun j j1 j2 => by rw [oB 272 _ (by omega) (by omega)]; exact hn r j h1 h2 j1 j2⟩
    · by_cases q : r / 8 = a ∨ r / 8 = b
      · obtain ⟨s1, s2, s3, s4⟩ := (rowA r h1 h2).1 q
        rw [s2, s3]
        exact ⟨by omega, fun _ => rfl, fun j j1 j2 => by omega⟩
      · have q1 : ¬ r / 8 = a := fun z => q (Or.inl z)
        have q2 : ¬ r / 8 = b := fun z => q (Or.inr z)
        rw [((rowA r h1 h2).2 q1 q2).1]
        exact (hR r h1 h2 q1 q2).2.1
    · by_cases q : r / 8 = a ∨ r / 8 = b
      · rw [if_pos q, ((rowA r h1 h2).1 q).2.1]
      · have q1 : ¬ r / 8 = a := fun z => q (Or.inl z)
        have q2 : ¬ r / 8 = b := fun z => q (Or.inr z)
        rw [if_neg q, ((rowA r h1 h2).2 q1 q2).1]
        exact (hR r h1 h2 q1 q2).2.2
  · unfold RS
    rw [show A2 0 = A1 0 from funext fun z => oA _ _ (by omega), show A2 14 = A1 14 from funext fun z => oA _ _ (by omega), show B2 248 = B1 248 from funext fun z => oB _ _ (by omega) (by omega)]
    exact hS
  · exact WR_congr (hW u h1 h2) (funext fun z => oA _ _ (by omega)) (funext fun z => oA _ _ (by omega)) (funext fun z => oA _ _ (by omega)) (oA _ _ (by omega)) el (fun c _ _ => oB _ _ (by omega) (by omega)) (fun j _ _ => ⟨oB _ _ (by omega) (by omega), oB _ _ (by omega) (by omega)⟩) (oB _ _ (by omega) (by omega))
theorem WR_congr2 {u : Int} (h : WR A B u) (hA : A' (209 + 3 * u) = A (209 + 3 * u)) (hA1 : A' (210 + 3 * u) = A (210 + 3 * u)) (hA2 : A' (211 + 3 * u) = A (211 + 3 * u)) (ht : A' 0 10 = A 0 10) (hl : ∀ i k, lk8 A i k = A (209 + 3 * u) 8 → ¬ A (209 + 3 * u) 8 = -9 → 0 ≤ i → i < 8 → 0 ≤ k → k < 8 → A (209 + 3 * u) 3 = 1 → lk8 A' i k = lk8 A i k) (hB : ∀ c, 258 ≤ c → c ≤ 267 → B' c u = B c u) (hB8 : ∀ j, 0 ≤ j → j < 8 → B' 268 (8 * u + j) = B 268 (8 * u + j) ∧ B' 269 (8 * u + j) = B 269 (8 * u + j)) (hB0 : B' 270 u = B 270 u) : WR A' B' u := by
  obtain ⟨hc, hd, h1, h2, h3⟩ := h
  unfold WR WC WD WB WE
  simp only [hA, hA1, hA2, ht, hB 258 (by omega) (by omega), hB 259 (by omega) (by omega), hB 260 (by omega) (by omega), hB 261 (by omega) (by omega), hB 262 (by omega) (by omega), hB 263 (by omega) (by omega), hB 264 (by omega) (by omega), hB 265 (by omega) (by omega), hB 266 (by omega) (by omega), hB 267 (by omega) (by omega), hB0]
  refine ⟨hc, ⟨hd.1, hd.2.1, hd.2.2.1, hd.2.2.2.1, fun j a b => by rw [(hB8 j a b).1]; exact hd.2.2.2.2.1 j a b, hd.2.2.2.2.2⟩, h1, h2, fun q => ?_⟩
  obtain ⟨b, e⟩ := h3 q
  have n8 := hc.2.2.2.1
  refine ⟨⟨b.1, b.2.1, b.2.2.1, fun j x y => ?_, b.2.2.2.2⟩, ⟨e.1, e.2.1, e.2.2.1, e.2.2.2.1, fun z => ?_⟩⟩
  · rw [(hB8 j x (by omega)).1, (hB8 j x (by omega)).2]
    exact b.2.2.2.1 j x y
  · obtain ⟨e1, e2, e3, e4, e5, e6⟩ := e.2.2.2.2 z
    have v1 := hc.2.2.2.2.1 (A (209 + 3 * u) 12 + 1) (by omega) (by omega)
    have v2 := hc.2.2.2.2.1 (A (209 + 3 * u) 12) (by omega) (by omega)
    refine ⟨e1, e2, e3, e4, ?_, e6⟩
    rw [hl _ _ e5 e6 (by omega) (by omega) (by omega) (by omega) q]
    exact e5
end
