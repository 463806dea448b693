/-! ===== calls side by side: numbers, rows ===== -/
section
variable {A B A' B' : Mem} {T T' w : Int} {E : ET} {S : SCR}
theorem RX_step (h : RX T A B w) (hw : 0 ≤ w ∧ w ≤ 12) (hA : ∀ c z, c < 248 → ¬ c = 0 → ¬ c = 6 → ¬ c = 9 → ¬ c = 10 → ¬ c = 11 → ¬ c = 14 → ¬ c = 15 → ¬ c = 16 → ¬ (209 + 3 * w ≤ c ∧ c ≤ 211 + 3 * w) → A' c z = A c z) (h10 : A' 0 10 = A 0 10) (hB : ∀ c z, 249 ≤ c → ¬ (z = w ∧ 258 ≤ c ∧ c ≤ 267) → ¬ ((c = 268 ∨ c = 269) ∧ 8 * w ≤ z ∧ z < 8 * w + 8) → ¬ (c = 270 ∧ z = w) → ¬ c = 255 → ¬ c = 256 → ¬ c = 257 → ¬ c = 273 → ¬ c = 274 → B' c z = B c z) (hS : RS T' A' B') : RX T' A' B' w := by
  obtain ⟨hN, hR, hO, _, hW⟩ := h
  have fA : ∀ c, c < 248 → ¬ c = 0 → ¬ c = 6 → ¬ c = 9 → ¬ c = 10 → ¬ c = 11 → ¬ c = 14 → ¬ c = 15 → ¬ c = 16 → ¬ (209 + 3 * w ≤ c ∧ c ≤ 211 + 3 * w) → A' c = A c := fun c a1 a2 a3 a4 a5 a6 a7 a8 a9 a0 => funext fun z => hA c z a1 a2 a3 a4 a5 a6 a7 a8 a9 a0
  have e2 := fA 2 (by omega) (by omega) (by omega) (by omega) (by omega) (by omega) (by omega) (by omega) (by omega) (by omega)
  have e3 := fA 3 (by omega) (by omega) (by omega) (by omega) (by omega) (by omega) (by omega) (by omega) (by omega) (by omega)
  have e4 := fA 4 (by omega) (by omega) (by omega) (by omega) (by omega) (by omega) (by omega) (by omega) (by omega) (by omega)
  have e5 := fA 5 (by omega) (by omega) (by omega) (by omega) (by omega) (by omega) (by omega) (by omega) (by omega) (by omega)
  have el : ∀ i k, lk8 A' i k = lk8 A i k := fun i k => lk8_congr (fun z => by rw [e2]) (fun z => by rw [e3]) (fun z => by rw [e4])
  have fB : ∀ c, 249 ≤ c → ¬ (258 ≤ c ∧ c ≤ 270) → ¬ c = 255 → ¬ c = 256 → ¬ c = 257 → ¬ c = 273 → ¬ c = 274 → B' c = B c := fun c a1 a2 a3 a4 a5 a6 a7 => funext fun z => hB c z a1 (by omega) (by omega) (by omega) a3 a4 a5 a6 a7
  refine ⟨RN_congr hN e2 e3 e4 e5 (hA 1 5 (by omega) (by omega) (by omega) (by omega) (by omega) (by omega) (by omega) (by omega) (by omega) (by omega)) (fun c a b => fB c (by omega) (by omega) (by omega) (by omega) (by omega) (by omega) (by omega)), RR_congr hR e5 (fun r a b => ⟨hA _ _ (by omega) (by omega) (by omega) (by omega) (by omega) (by omega) (by omega) (by omega) (by omega) (by omega), fA _ (by omega) (by omega) (by omega) (by omega) (by omega) (by omega) (by omega) (by omega) (by omega) (by omega)⟩) (fB _ (by omega) (by omega) (by omega) (by omega) (by omega) (by omega) (by omega)), RO_congr hO (fun r a b => ⟨hA _ _ (by omega) (by omega) (by omega) (by omega) (by omega) (by omega) (by omega) (by omega) (by omega) (by omega), hA _ _ (by omega) (by omega) (by omega) (by omega) (by omega) (by omega) (by omega) (by omega) (by omega) (by omega), fA _ (by omega) (by omega) (by omega) (by omega) (by omega) (by omega) (by omega) (by omega) (by omega) (by omega)⟩) (fB _ (by omega) (by omega) (by omega) (by omega) (by omega) (by omega) (by omega)) (fB _ (by omega) (by omega) (by omega) (by omega) (by omega) (by omega) (by omega)), hS, fun u a b q => ?_⟩
  exact WR_congr (hW u a b q) (fA _ (by omega) (by omega) (by omega) (by omega) (by omega) (by omega) (by omega) (by omega) (by omega) (by omega)) (fA _ (by omega) (by omega) (by omega) (by omega) (by omega) (by omega) (by omega) (by omega) (by omega) (by omega)) (fA _ (by omega) (by omega) (by omega) (by omega) (by omega) (by omega) (by omega) (by omega) (by omega) (by omega)) h10 el (fun c a b => hB _ _ (by omega) (by omega) (by omega) (by omega) (by omega) (by omega) (by omega) (by omega) (by omega)) (fun j a b => ⟨hB _ _ (by omega) (by omega) (by omega) (by omega) (by omega) (by omega) (by omega) (by omega) (by omega), hB _ _ (by omega) (by omega) (by omega) (by omega) (by omega) (by omega) (by omega) (by omega) (by omega)⟩) (hB _ _ (by omega) (by omega) (by omega) (by omega) (by omega) (by omega) (by omega) (by omega) (by omega))
theorem Rel_RX (h : Rel T A B) : RX T A B 12 := ⟨h.1, h.2.1, h.2.2.1, h.2.2.2.1, fun u a b _ => h.2.2.2.2 u a b⟩
theorem RX_Rel (h : RX T A B 12) : Rel T A B := ⟨h.1, h.2.1, h.2.2.1, h.2.2.2.1, fun u a b => h.2.2.2.2 u a b (by omega)⟩
theorem Rel_w (h : Rel T A B) : RX T A B w := ⟨h.1, h.2.1, h.2.2.1, h.2.2.2.1, fun u a b _ => h.2.2.2.2 u a b⟩
theorem Rel_of (h : RX T A B w) (hw : WR A B w) : Rel T A B := ⟨h.1, h.2.1, h.2.2.1, h.2.2.2.1, fun u a b => by
  by_cases q : u = w
  · rw [q]; exact hw
  · exact h.2.2.2.2 u a b q⟩
theorem Rel_sc (h : Rel T A B) (hA : ∀ c z, ¬ c = 0 → ¬ c = 14 → A' c z = A c z) (h10 : A' 0 10 = A 0 10) (hB : ∀ c z, ¬ c = 248 → B' c z = B c z) (hS : RS T' A' B') : Rel T' A' B' :=
  RX_Rel (RX_step (Rel_RX h) (by omega) (fun c z _ a1 _ _ _ _ a2 _ _ _ => hA c z a1 a2) h10 (fun c z a _ _ _ _ _ _ _ _ => hB c z (by omega)) hS)
theorem sim_seed {v : Int} : SIM E S 55 118 [vi v] T T := by
  intro A B0 h0
  refine ⟨A 14 0, up2 A 14 0 v, 2, by omega, c_seed8, fun c z q => up2_other (by omega), fun B h => ⟨up2 B 248 11 v, 2, by omega, ?_, fun c z q => up2_other (by omega), ?_⟩⟩
  · rw [h.2.2.2.1.2.2.2.2.2.2.1]; exact c_seed9
  · refine Rel_sc h (fun c z _ q => up2_other (by omega)) (up2_other (by omega)) (fun c z q => up2_other (by omega)) ?_
    obtain ⟨s1, s2, s3, s4, s5, s6, s7, s8⟩ := h.2.2.2.1
    unfold RS
    rw [up2_same, up2_same]
    simp only [up2]
    simp
    exact ⟨s1, s2, s3, s4, s5, s6, s8⟩
theorem sim_floor {v : Int} (hv : rg v) : SIM E S 50 107 [vi v] T T := by
  intro A B0 h0
  refine ⟨if 0 ≤ v ∧ v ≤ 100 then A 0 8 else -2, if 0 ≤ v ∧ v ≤ 100 then up2 A 0 8 v else A, 2, by omega, c_floor8 hv, fun c z q => by split; exact up2_other (by omega); rfl, fun B h => ⟨if 0 ≤ v ∧ v ≤ 100 then up2 B 248 6 v else B, 2, by omega, ?_, fun c z q => by split; exact up2_other (by omega); rfl, ?_⟩⟩
  · rw [h.2.2.2.1.1.1]; exact c_floor9 hv
  · by_cases c : 0 ≤ v ∧ v ≤ 100
    · rw [if_pos c, if_pos c]
      refine Rel_sc h (fun c z q _ => up2_other (by omega)) (up2_other (by omega)) (fun c z q => up2_other (by omega)) ?_
      obtain ⟨s1, s2, s3, s4, s5, s6, s7, s8⟩ := h.2.2.2.1
      unfold RS
      rw [up2_same, up2_same]
      simp only [up2]
      simp
      exact ⟨c, s2, s3, s4, s5, s6, s7, s8⟩
    · rw [if_neg c, if_neg c]; exact h
theorem sim_gain {v : Int} (hv : rg v) : SIM E S 51 108 [vi v] T T := by
  intro A B0 h0
  refine ⟨if 0 ≤ v ∧ v ≤ 1000 then A 0 9 else -2, if 0 ≤ v ∧ v ≤ 1000 then up2 A 0 9 v else A, 2, by omega, c_gain8 hv, fun c z q => by split; exact up2_other (by omega); rfl, fun B h => ⟨if 0 ≤ v ∧ v ≤ 1000 then up2 B 248 7 v else B, 2, by omega, ?_, fun c z q => by split; exact up2_other (by omega); rfl, ?_⟩⟩
  · rw [h.2.2.2.1.2.1.1]; exact c_gain9 hv
  · by_cases c : 0 ≤ v ∧ v ≤ 1000
    · rw [if_pos c, if_pos c]
      refine Rel_sc h (fun c z q _ => up2_other (by omega)) (up2_other (by omega)) (fun c z q => up2_other (by omega)) ?_
      obtain ⟨s1, s2, s3, s4, s5, s6, s7, s8⟩ := h.2.2.2.1
      unfold RS
      rw [up2_same, up2_same]
      simp only [up2]
      simp
      exact ⟨s1, c, s3, s4, s5, s6, s7, s8⟩
    · rw [if_neg c, if_neg c]; exact h
/-- new rows on both sides -/
theorem Rel_rows (h : Rel T A B) (hA : ∀ c z, c < 248 → ¬ c = 9 → ¬ c = 10 → ¬ c = 11 → ¬ (17 ≤ c ∧ c < 209 ∧ c % 3 = 0) → A' c z = A c z) (hB : ∀ c z, 248 ≤ c → ¬ c = 254 → ¬ c = 255 → ¬ c = 256 → ¬ c = 257 → B' c z = B c z)
    (hR : ∀ r, 0 ≤ r → r < 64 → RV (bs (A 5 (r / 8))) (A' (18 + 3 * r)) ∧ ∀ k, 0 ≤ k → k < 8 → (0 ≤ A' (18 + 3 * r) k ∧ A' (18 + 3 * r) k ≤ 1000) ∧ (0 ≤ B' 254 (8 * r + k) ∧ B' 254 (8 * r + k) ≤ 1000) ∧ (bs (A 5 (r / 8)) k = true → A' (18 + 3 * r) k = B' 254 (8 * r + k))) : Rel T A' B' := by
  obtain ⟨hN, hR0, hO, hS, hW⟩ := h
  have fA : ∀ c, c < 248 → ¬ c = 9 → ¬ c = 10 → ¬ c = 11 → ¬ (17 ≤ c ∧ c < 209 ∧ c % 3 = 0) → A' c = A c := fun c a1 a2 a3 a4 a5 => funext fun z => hA c z a1 a2 a3 a4 a5
  have fB : ∀ c, 248 ≤ c → ¬ c = 254 → ¬ c = 255 → ¬ c = 256 → ¬ c = 257 → B' c = B c := fun c a1 a2 a3 a4 a5 => funext fun z => hB c z a1 a2 a3 a4 a5
  have e2 := fA 2 (by omega) (by omega) (by omega) (by omega) (by omega)
  have e3 := fA 3 (by omega) (by omega) (by omega) (by omega) (by omega)
  have e4 := fA 4 (by omega) (by omega) (by omega) (by omega) (by omega)
  have e5 := fA 5 (by omega) (by omega) (by omega) (by omega) (by omega)
  have e0 := fA 0 (by omega) (by omega) (by omega) (by omega) (by omega)
  have e14 := fA 14 (by omega) (by omega) (by omega) (by omega) (by omega)
  have el : ∀ i k, lk8 A' i k = lk8 A i k := fun i k => lk8_congr (fun z => by rw [e2]) (fun z => by rw [e3]) (fun z => by rw [e4])
  refine ⟨RN_congr hN e2 e3 e4 e5 (hA 1 5 (by omega) (by omega) (by omega) (by omega) (by omega)) (fun c a b => fB c (by omega) (by omega) (by omega) (by omega) (by omega)), fun r a b => ?_, RO_congr hO (fun r a b => ⟨hA _ _ (by omega) (by omega) (by omega) (by omega) (by omega), hA _ _ (by omega) (by omega) (by omega) (by omega) (by omega), fA _ (by omega) (by omega) (by omega) (by omega) (by omega)⟩) (fB _ (by omega) (by omega) (by omega) (by omega) (by omega)) (fB _ (by omega) (by omega) (by omega) (by omega) (by omega)), ?_, fun u a b => ?_⟩
  · rw [hA (17 + 3 * r) 2 (by omega) (by omega) (by omega) (by omega) (by omega), e5]
    exact ⟨(hR0 r a b).1, hR r a b⟩
  · unfold RS
    rw [e0, e14, fB 248 (by omega) (by omega) (by omega) (by omega) (by omega)]
    exact hS
  · exact WR_congr (hW u a b) (fA _ (by omega) (by omega) (by omega) (by omega) (by omega)) (fA _ (by omega) (by omega) (by omega) (by omega) (by omega)) (fA _ (by omega) (by omega) (by omega) (by omega) (by omega)) (by rw [e0]) el (fun c a b => hB _ _ (by omega) (by omega) (by omega) (by omega) (by omega)) (fun j a b => ⟨hB _ _ (by omega) (by omega) (by omega) (by omega) (by omega), hB _ _ (by omega) (by omega) (by omega) (by omega) (by omega)⟩) (hB _ _ (by omega) (by omega) (by omega) (by omega) (by omega))
theorem ev_rng {m : Set8} {v : Vec} (hv : ∀ k, 0 ≤ k → k < 8 → 0 ≤ v k ∧ v k ≤ 1000) : RV m (evF 1000 m v) ∧ ∀ k, 0 ≤ k → k < 8 → 0 ≤ evF 1000 m v k ∧ evF 1000 m v k ≤ 1000 := by
  by_cases c : 0 < cntb m 8
  · obtain ⟨h1, h2, h3⟩ := evF_ok (R := 1000) (m := m) (v := v) (by omega) c
    have h4 : ∀ k, 0 ≤ k → k < 8 → m k = true → 0 ≤ evF 1000 m v k ∧ evF 1000 m v k ≤ 1000 := fun k a b d => by
      refine ⟨h1 k a b d, ?_⟩
      have := smv_ge (m := m) (v := evF 1000 m v) 8 (fun k a b d => h1 k a b d) k a b d
      omega
    refine ⟨⟨h4, fun _ => h2⟩, fun k a b => ?_⟩
    by_cases d : m k = true
    · exact h4 k a b d
    · rw [h3 k (by simpa using d)]; exact hv k a b
  · have h5 : ∀ k, 0 ≤ k → k < 8 → m k = false := fun k a b => by
      by_cases d : m k = true
      · exact absurd (cntb_pos a d 8 b) c
      · simpa using d
    have h6 : ∀ k, 0 ≤ k → k < 8 → evF 1000 m v k = v k := fun k a b => by unfold evF; rw [h5 k a b]; simp
    refine ⟨⟨fun k a b d => absurd d (by rw [h5 k a b]; simp), fun q => absurd q c⟩, fun k a b => ?_⟩
    rw [h6 k a b]; exact hv k a b
theorem sim_even {i t : Int} (hi : rg i) (ht : rg t) : SIM E S 54 117 [vi i, vi t] T T := by
  intro A B0 h0
  have n5 := h0.1.2.2.2.2.1
  refine ⟨_, _, 5, by omega, c_even8 hi ht n5 (fun r a b => by rw [(h0.2.1 r a b).1]; exact n5 _ (by omega) (by omega)), fun c z q => by split; exact putv_ne (by omega); rfl, fun B h => ⟨if ((0 ≤ i ∧ i ≤ 7) ∧ (0 ≤ t ∧ t ≤ 7)) ∧ ¬ i = t then putv B 254 (8 * (8 * i + t)) (ev0 (nbm B i)) else B, 5, by omega, ?_, ?_, ?_⟩⟩
  · have e : (if (0 ≤ i ∧ i ≤ 7) ∧ (0 ≤ t ∧ t ≤ 7) then (if i = t then -3 else (pop8 (A 5 i).toNat : Int)) else -1) = (if (0 ≤ i ∧ i ≤ 7) ∧ (0 ≤ t ∧ t ≤ 7) then (if i = t then -3 else cntb (nbm B i) 8) else -1) := by
      by_cases c : (0 ≤ i ∧ i ≤ 7) ∧ (0 ≤ t ∧ t ≤ 7)
      · rw [if_pos c, if_pos c, pop_cnt (n5 i (by omega) (by omega)).1 (n5 i (by omega) (by omega)).2, cntb_congr (m := bs (A 5 i)) (m' := nbm B i) 8 (fun k a b => (RN_nb h.1 (by omega) ⟨a, b⟩).symm)]
      · rw [if_neg c, if_neg c]
    rw [e]
    exact c_even9 hi ht (fun z a b => L_rg (RN_L h.1 z a b))
  · intro c z q; split
    · exact putv_ne (by omega)
    · rfl
  · by_cases c : ((0 ≤ i ∧ i ≤ 7) ∧ (0 ≤ t ∧ t ≤ 7)) ∧ ¬ i = t
    · rw [if_pos c, if_pos c]
      obtain ⟨r0, er⟩ : ∃ r0, r0 = i * 8 + t := ⟨_, rfl⟩
      rw [show 8 * i + t = r0 by omega, ← er]
      have hr0 := h.2.1 r0 (by omega) (by omega)
      rw [hr0.1, show r0 / 8 = i by omega]
      have g1 := ev_rng (m := bs (A 5 i)) (v := getv A (18 + 3 * r0) 0) (fun k a b => by unfold getv; rw [Int.zero_add]; exact (hr0.2.2 k a b).1)
      have g2 := ev_rng (m := nbm B i) (v := fun _ => 0) (fun k a b => by omega)
      refine Rel_rows h (fun c z _ _ _ _ q => putv_ne (by omega)) (fun c z _ q _ _ _ => putv_ne q) (fun r a b => ?_)
      by_cases q : r = r0
      · rw [q, show r0 / 8 = i by omega]
        refine ⟨RV_congr (fun _ _ _ => rfl) (fun k a b _ => (putv_at0 a b).symm) g1.1, fun k a b => ?_⟩
        rw [putv_at0 a b, putv_at a b]
        exact ⟨g1.2 k a b, g2.2 k a b, fun d => evF_eqv (fun k a b => (RN_nb h.1 (by omega) ⟨a, b⟩).symm) k a b d⟩
      · rw [show putv A (18 + 3 * r0) 0 (evF 1000 (bs (A 5 i)) (getv A (18 + 3 * r0) 0)) (18 + 3 * r) = A (18 + 3 * r) from funext fun z => putv_ne (by omega)]
        refine ⟨(h.2.1 r a b).2.1, fun k a1 b1 => ?_⟩
        rw [putv_out (by omega)]
        exact (h.2.1 r a b).2.2 k a1 b1
    · rw [if_neg c, if_neg c]; exact h
end
