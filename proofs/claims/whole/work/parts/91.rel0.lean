/-! ===== at the start both halves hold the same ===== -/
theorem M0_z {c z : Int} (h : (1 ≤ c ∧ c < 209 ∧ ¬ c = 14) ∨ (254 ≤ c) ∨ (249 ≤ c ∧ c < 253)) : M0 c z = 0 := M0_low (by omega) (by omega) (by omega) (by omega) (by omega)
theorem M0_w {u z : Int} (hu : 0 ≤ u ∧ u < 12) : M0 (209 + 3 * u) z = (if z = 8 then -9 else 0) ∧ M0 (210 + 3 * u) z = 0 ∧ M0 (211 + 3 * u) z = 0 := by
  refine ⟨?_, M0_low (by omega) (by omega) (by omega) (by omega) (by omega), M0_low (by omega) (by omega) (by omega) (by omega) (by omega)⟩
  by_cases q : z = 8
  · unfold M0; rw [if_neg (by omega), if_neg (by omega), if_neg (by omega), if_neg (by omega), if_pos (by omega), if_pos q]
  · rw [M0_low (by omega) (by omega) (by omega) (by omega) (by omega), if_neg q]
theorem lk8_0 {i k : Int} : lk8 M0 i k = -9 := by
  by_cases q : lk8 M0 i k = -9
  · exact q
  · have := (lk8_spec rfl q).2.1
    rw [M0_z (Or.inl (by omega))] at this
    omega
theorem cnt_ff : ∀ n : Nat, cnt (fun _ => false) n = 0 := by
  intro n
  induction n with
  | zero => rfl
  | succ n ih => unfold cnt; rw [if_neg Bool.false_ne_true]; exact ih
theorem Rel_0 : Rel 0 M0 M0 := by
  have c0 : cntb (bs 0) 8 = 0 := by decide
  refine ⟨⟨fun l a b => ?_, fun l a b => ?_, fun l l' a b c d e f => ?_, fun i k a b c d => ?_, fun i a b => ?_, fun i k a b c d => ?_, ?_⟩, fun r a b => ?_, fun r a b => ?_, ?_, fun u a b => ?_⟩
  · rw [M0_z (c := 4) (Or.inl (by omega)), M0_z (c := 2) (Or.inl (by omega)), M0_z (c := 3) (Or.inl (by omega))]; omega
  · rw [M0_z (c := 4) (Or.inl (by omega)), M0_z (c := 2) (Or.inl (by omega)), M0_z (c := 3) (Or.inl (by omega)), M0_z (c := 249) (by omega), M0_z (c := 250) (by omega), M0_z (c := 251) (by omega), if_neg (by omega)]
    exact ⟨rfl, rfl, rfl, fun h => by omega⟩
  · rw [M0_z (c := 4) (Or.inl (by omega))] at e; omega
  · rw [lk8_0]; rfl
  · rw [M0_z (c := 5) (Or.inl (by omega))]; omega
  · rw [M0_z (c := 5) (Or.inl (by omega)), lk8_0, bs_0 ⟨c, d⟩]; rfl
  · rw [M0_z (c := 1) (Or.inl (by omega)), cnt_congr (q := fun _ => false) 16 (fun l _ _ => by rw [M0_z (c := 4) (Or.inl (by omega))]; rfl), cnt_ff]
  · rw [M0_z (c := 17 + 3 * r) (by omega), M0_z (c := 5) (Or.inl (by omega))]
    refine ⟨rfl, ⟨fun k k1 k2 h => ?_, fun h => by rw [c0] at h; omega⟩, fun k k1 k2 => ?_⟩
    · rw [bs_0 ⟨k1, k2⟩] at h; cases h
    · rw [M0_z (c := 18 + 3 * r) (by omega), M0_z (c := 254) (by omega)]
      exact ⟨by omega, by omega, fun _ => rfl⟩
  · rw [M0_z (c := 17 + 3 * r) (by omega), M0_z (c := 17 + 3 * r) (by omega), M0_z (c := 271) (by omega)]
    refine ⟨⟨by omega, fun _ => rfl, fun j j1 j2 => by omega⟩, rfl, fun j j1 j2 => ?_⟩
    rw [M0_z (c := 19 + 3 * r) (by omega), M0_z (c := 272) (by omega)]
    omega
  · refine ⟨⟨rfl, ?_, ?_⟩, ⟨rfl, ?_, ?_⟩, ⟨rfl, ?_, ?_⟩, rfl, rfl, rfl, rfl, rfl⟩ <;> decide
  · have h9 : ∀ z, M0 (209 + 3 * u) z = (if z = 8 then -9 else 0) := fun z => (M0_w ⟨a, b⟩).1
    have e : ∀ z, ¬ z = 8 → M0 (209 + 3 * u) z = 0 := fun z hz => by rw [h9, if_neg hz]
    have e8 : M0 (209 + 3 * u) 8 = -9 := by rw [h9, if_pos rfl]
    refine ⟨⟨Or.inl (e 3 (by omega)), Or.inl (e 4 (by omega)), by rw [e8]; exact ⟨by omega, by omega⟩, by rw [e 2 (by omega)]; omega, fun j j1 j2 => by rw [(M0_w ⟨a, b⟩).2.1]; omega, by rw [e 5 (by omega)]; omega, by rw [e 7 (by omega)]; omega⟩, ⟨Or.inl (M0_z (by omega)), Or.inl (M0_z (by omega)), by rw [M0_z (c := 263) (by omega)]; exact ⟨by omega, by omega⟩, by rw [M0_z (c := 267) (by omega)]; omega, fun j j1 j2 => by rw [M0_z (c := 268) (by omega)]; omega, by rw [M0_z (c := 259) (by omega)]; omega, by rw [M0_z (c := 261) (by omega)]; omega⟩, by rw [e 3 (by omega), M0_z (c := 258) (by omega)], fun _ => e8, fun h => by rw [e 3 (by omega)] at h; omega⟩
