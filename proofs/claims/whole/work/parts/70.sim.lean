/-! ===== calls of both halves side by side ===== -/
section
variable {A B A' B' : Mem} {T w : Int} {E : ET} {S : SCR}
theorem Rel_cong (h : Rel T A B) (hA : ∀ c z, c < 248 → ¬ c = 6 → ¬ c = 9 → ¬ c = 10 → ¬ c = 11 → ¬ c = 15 → ¬ c = 16 → A' c z = A c z) (hB : ∀ c z, 248 ≤ c → ¬ c = 255 → ¬ c = 256 → ¬ c = 257 → ¬ c = 273 → ¬ c = 274 → B' c z = B c z) : Rel T A' B' := by
  obtain ⟨hN, hR, hO, hS, hW⟩ := h
  have fA : ∀ c, c < 248 → ¬ c = 6 → ¬ c = 9 → ¬ c = 10 → ¬ c = 11 → ¬ c = 15 → ¬ c = 16 → A' c = A c := fun c a1 a2 a3 a4 a5 a6 a7 => funext fun z => hA c z a1 a2 a3 a4 a5 a6 a7
  have fB : ∀ c, 248 ≤ c → ¬ c = 255 → ¬ c = 256 → ¬ c = 257 → ¬ c = 273 → ¬ c = 274 → B' c = B c := fun c a1 a2 a3 a4 a5 a6 => funext fun z => hB c z a1 a2 a3 a4 a5 a6
  have e2 := fA 2 (by omega) (by omega) (by omega) (by omega) (by omega) (by omega) (by omega)
  have e3 := fA 3 (by omega) (by omega) (by omega) (by omega) (by omega) (by omega) (by omega)
  have e4 := fA 4 (by omega) (by omega) (by omega) (by omega) (by omega) (by omega) (by omega)
  have e5 := fA 5 (by omega) (by omega) (by omega) (by omega) (by omega) (by omega) (by omega)
  have e0 := fA 0 (by omega) (by omega) (by omega) (by omega) (by omega) (by omega) (by omega)
  have e14 := fA 14 (by omega) (by omega) (by omega) (by omega) (by omega) (by omega) (by omega)
  have el : ∀ i k, lk8 A' i k = lk8 A i k := fun i k => lk8_congr (fun z => by rw [e2]) (fun z => by rw [e3]) (fun z => by rw [e4])
  refine ⟨RN_congr hN e2 e3 e4 e5 (hA 1 5 (by omega) (by omega) (by omega) (by omega) (by omega) (by omega) (by omega)) (fun c a b => fB c (by omega) (by omega) (by omega) (by omega) (by omega) (by omega)), RR_congr hR e5 (fun r a b => ⟨hA _ _ (by omega) (by omega) (by omega) (by omega) (by omega) (by omega) (by omega), fA _ (by omega) (by omega) (by omega) (by omega) (by omega) (by omega) (by omega)⟩) (fB _ (by omega) (by omega) (by omega) (by omega) (by omega) (by omega)), RO_congr hO (fun r a b => ⟨hA _ _ (by omega) (by omega) (by omega) (by omega) (by omega) (by omega) (by omega), hA _ _ (by omega) (by omega) (by omega) (by omega) (by omega) (by omega) (by omega), fA _ (by omega) (by omega) (by omega) (by omega) (by omega) (by omega) (by omega)⟩) (fB _ (by omega) (by omega) (by omega) (by omega) (by omega) (by omega)) (fB _ (by omega) (by omega) (by omega) (by omega) (by omega) (by omega)), ?_, fun u a b => ?_⟩
  · unfold RS
    rw [e0, e14, fB 248 (by omega) (by omega) (by omega) (by omega) (by omega) (by omega)]
    exact hS
  · exact WR_congr (hW u a b) (fA _ (by omega) (by omega) (by omega) (by omega) (by omega) (by omega) (by omega)) (fA _ (by omega) (by omega) (by omega) (by omega) (by omega) (by omega) (by omega)) (fA _ (by omega) (by omega) (by omega) (by omega) (by omega) (by omega) (by omega)) (by rw [e0]) el (fun c a b => hB _ _ (by omega) (by omega) (by omega) (by omega) (by omega) (by omega)) (fun j a b => ⟨hB _ _ (by omega) (by omega) (by omega) (by omega) (by omega) (by omega), hB _ _ (by omega) (by omega) (by omega) (by omega) (by omega) (by omega)⟩) (hB _ _ (by omega) (by omega) (by omega) (by omega) (by omega) (by omega))
theorem Rel_A (h : Rel T A B) (hA : ∀ c z, c < 248 → A' c z = A c z) : Rel T A' B := Rel_cong h (fun c z a _ _ _ _ _ _ => hA c z a) (fun _ _ _ _ _ _ _ _ => rfl)
theorem Rel_B (h : Rel T A B) (hB : ∀ c z, 248 ≤ c → B' c z = B c z) : Rel T A B' := Rel_cong h (fun _ _ _ _ _ _ _ _ _ => rfl) (fun c z a _ _ _ _ _ => hB c z a)
theorem Rel_T {T' : Int} (h : Rel T A B) (hT : T ≤ T') : Rel T' A B := by
  obtain ⟨hN, hR, hO, hS, hW⟩ := h
  obtain ⟨s1, s2, s3, s4⟩ := hS
  exact ⟨hN, hR, hO, ⟨s1, s2, ⟨s3.1, s3.2.1, by omega⟩, s4⟩, hW⟩
/-- both calls answer the same, and hold the same afterwards -/
def SIM (E : ET) (S : SCR) (jC jM : Nat) (as : List AV) (T T' : Int) : Prop := ∀ A B0, Rel T A B0 → ∃ (r : Int) (A' : Mem) (d1 : Nat), d1 ≤ 8 ∧ Ctr E d1 jC (vr 0 :: as) (toAH S A) (some (vi r)) (toAH S A') ∧ (∀ c z, 248 ≤ c → A' c z = A c z) ∧ ∀ B, Rel T A B → ∃ (B' : Mem) (d2 : Nat), d2 ≤ 8 ∧ Ctr E d2 jM (vr 248 :: as) (toAH S B) (some (vi r)) (toAH S B') ∧ (∀ c z, c < 248 → B' c z = B c z) ∧ Rel T' A' B'
theorem SIM_q {jC jM d1 d2 : Nat} {as : List AV} {f g : Mem → Int} {FA FB : Mem → Mem} (h1 : d1 ≤ 8) (h2 : d2 ≤ 8) (hC : ∀ A B, Rel T A B → Ctr E d1 jC (vr 0 :: as) (toAH S A) (some (vi (f A))) (toAH S (FA A))) (hM : ∀ A B, Rel T A B → Ctr E d2 jM (vr 248 :: as) (toAH S B) (some (vi (g B))) (toAH S (FB B))) (hE : ∀ A B, Rel T A B → f A = g B)
    (hA : ∀ A c z, ¬ c = 6 → ¬ c = 9 → ¬ c = 10 → ¬ c = 11 → ¬ c = 15 → ¬ c = 16 → FA A c z = A c z) (hB : ∀ B c z, ¬ c = 255 → ¬ c = 256 → ¬ c = 257 → ¬ c = 273 → ¬ c = 274 → FB B c z = B c z) : SIM E S jC jM as T T := by
  intro A B0 h0
  refine ⟨f A, FA A, d1, h1, hC A B0 h0, fun c z h => hA A c z (by omega) (by omega) (by omega) (by omega) (by omega) (by omega), fun B h => ⟨FB B, d2, h2, ?_, fun c z q => hB B c z (by omega) (by omega) (by omega) (by omega) (by omega), Rel_cong h (fun c z _ a2 a3 a4 a5 a6 a7 => hA A c z a2 a3 a4 a5 a6 a7) (fun c z _ a2 a3 a4 a5 a6 => hB B c z a2 a3 a4 a5 a6)⟩⟩
  rw [hE A B h]
  exact hM A B h
theorem sim_neighbours {i : Int} (hi : rg i) : SIM E S 48 105 [vi i] T T := by
  refine SIM_q (d1 := 2) (d2 := 3) (FA := id) (FB := id) (by omega) (by omega) (fun A B h => c_neighbours8 hi) (fun A B h => c_neighbours9 hi (fun z a b => L_rg (RN_L h.1 z a b))) (fun A B h => ?_) (fun _ _ _ _ _ _ _ _ _ => rfl) (fun _ _ _ _ _ _ _ _ => rfl)
  by_cases c : 0 ≤ i ∧ i ≤ 7
  · rw [if_pos c, if_pos c]
    have n9 := ns9_ok (m := nbm B i) 8 (by omega)
    refine bs_ext (h.1.2.2.2.2.1 i (by omega) (by omega)) n9.1 (fun j a b => ?_)
    rw [n9.2 j a b, decide_eq_true (by omega), Bool.true_and, RN_nb h.1 (by omega) ⟨a, b⟩]
  · rw [if_neg c, if_neg c]
theorem sim_share {i t k : Int} (hi : rg i) (ht : rg t) (hk : rg k) : SIM E S 49 106 [vi i, vi t, vi k] T T := by
  refine SIM_q (d1 := 2) (d2 := 2) (FA := id) (FB := id) (by omega) (by omega) (fun A B h => c_share8 hi ht hk h.1.2.2.2.2.1) (fun A B h => c_share9 hi ht hk (fun z a b => L_rg (RN_L h.1 z a b))) (fun A B h => ?_) (fun _ _ _ _ _ _ _ _ _ => rfl) (fun _ _ _ _ _ _ _ _ => rfl)
  by_cases c : (0 ≤ i ∧ i ≤ 7) ∧ (0 ≤ t ∧ t ≤ 7) ∧ (0 ≤ k ∧ k ≤ 7)
  · rw [if_pos c, if_pos c]
    by_cases c2 : i = t
    · rw [if_pos c2, if_pos c2]
    · rw [if_neg c2, if_neg c2]
      have e1 := h.1.2.2.2.1 i k (by omega) (by omega) (by omega) (by omega)
      have e2 := h.1.2.2.2.2.2.1 i k (by omega) (by omega) (by omega) (by omega)
      have e3 := ((h.2.1 (i * 8 + t) (by omega) (by omega)).2.2 k (by omega) (by omega)).2.2
      rw [show (i * 8 + t) / 8 = i by omega] at e3
      by_cases c3 : lk8 A i k = -9
      · rw [e1, if_pos c3, if_neg (by rw [e2]; simp [c3])]
      · rw [e1, if_neg c3, if_pos (by rw [e2]; simp [c3]), e3 (by rw [e2]; simp [c3]), show i * 8 + t = 8 * i + t by omega]
  · rw [if_neg c, if_neg c]
theorem on_eq (h : Rel T A B) {l z : Int} (hl : ¬ l = -9) (hz : z = 0 ∨ z = 1) : cnt (onB A l z) 12 = cnt (onB9 B l z) 12 := by
  refine cnt_congr 12 (fun u a b => ?_)
  obtain ⟨hc, hd, h1, h2, h3⟩ := h.2.2.2.2 u a b
  unfold onB onB9
  rcases hc.1 with q | q
  · have := h2 q
    rw [decide_eq_false (by omega), decide_eq_false (by omega)]
  · obtain ⟨wb, _⟩ := h3 q
    rw [h1, q, wb.1.2.2.2.1, wb.1.2.2.2.2.1]
    simp
theorem wk_eq (h : Rel T A B) : cnt (wkB A 0) 12 + cnt (wkB A 1) 12 = cnt (wkB9 B 0) 12 ∧ cnt (wkB A 0) 12 = cnt (wkB9 B 1) 12 := by
  have key : ∀ n : Nat, n ≤ 12 → cnt (wkB A 0) n + cnt (wkB A 1) n = cnt (wkB9 B 0) n ∧ cnt (wkB A 0) n = cnt (wkB9 B 1) n := by
    intro n
    induction n with
    | zero => intro _; exact ⟨rfl, rfl⟩
    | succ n ih =>
      intro hn
      have i1 := ih (by omega)
      obtain ⟨hc, hd, h1, h2, h3⟩ := h.2.2.2.2 n (by omega) (by omega)
      have e : ∀ p : Int → Bool, cnt p (n + 1) = if p (n : Int) = true then cnt p n + 1 else cnt p n := fun p => rfl
      rw [e, e, e, e]
      unfold wkB wkB9
      rcases hc.1 with q | q
      · rw [if_neg (by simp; omega), if_neg (by simp; omega), if_neg (by simp; omega), if_neg (by simp; omega)]
        exact i1
      · have w := (h3 q).1.1.2.2.2.1
        rcases hc.2.1 with z | z
        · rw [if_pos (by simp; omega), if_neg (by simp; omega), if_pos (by simp; omega), if_pos (by simp; omega)]
          unfold wkB wkB9 at i1
          omega
        · rw [if_neg (by simp; omega), if_pos (by simp; omega), if_pos (by simp; omega), if_neg (by simp; omega)]
          unfold wkB wkB9 at i1
          omega
  exact key 12 (by omega)
theorem sim_ofLink {l w : Int} (hl : rg l) (hw : rg w) : SIM E S 47 104 [vi l, vi w] T T := by
  refine SIM_q (d1 := 3) (d2 := 3) (FA := id) (FB := id) (by omega) (by omega) (fun A B h => c_ofLink8 hl hw (fun a b => by have := (h.1.1 l a (by omega)).1; exact ⟨by omega, by omega⟩) (Rel_CW h).2.2.1 (Rel_CW h).2.1) (fun A B h => c_ofLink9 hl hw (fun a b => by rw [(h.1.2.1 l a (by omega)).1]; split <;> omega) (Rel_MW h).1 (Rel_MW h).2.2.1 (Rel_MW h).2.1) (fun A B h => ?_) (fun _ _ _ _ _ _ _ _ _ => rfl) (fun _ _ _ _ _ _ _ _ => rfl)
  by_cases c : 0 ≤ l ∧ l ≤ 15
  · have e1 := h.1.2.1 l (by omega) (by omega)
    by_cases c2 : 0 < A 4 l
    · rw [if_pos c2] at e1
      have p2 : (0 ≤ l ∧ l ≤ 15) ∧ B 249 l = 1 := ⟨c, e1.1⟩
      rw [if_pos ⟨c, c2⟩, if_pos p2, e1.2.1, e1.2.2.1, e1.2.2.2 c2, on_eq h (by omega) (Or.inl rfl), on_eq h (by omega) (Or.inr rfl)]
    · rw [if_neg c2] at e1
      have p1 : ¬ ((0 ≤ l ∧ l ≤ 15) ∧ 0 < A 4 l) := fun q => c2 q.2
      have p2 : ¬ ((0 ≤ l ∧ l ≤ 15) ∧ B 249 l = 1) := fun q => by have := q.2; omega
      rw [if_neg p1, if_neg p2]
  · rw [if_neg (fun q => c q.1), if_neg (fun q => c q.1)]
theorem sim_walker {n w : Int} (hn : rg n) (hw : rg w) : SIM E S 58 135 [vi n, vi w] T T := by
  refine SIM_q (d1 := 3) (d2 := 3) (FA := id) (FB := id) (by omega) (by omega) (fun A B h => c_walker8 hn hw (fun a b => (Rel_CW h).1 n a (by omega)) (Rel_CW h).2.1) (fun A B h => c_walker9 hn hw (fun a b => (Rel_MW h).1 n a (by omega)) (Rel_MW h).2.1) (fun A B h => ?_) (fun _ _ _ _ _ _ _ _ _ => rfl) (fun _ _ _ _ _ _ _ _ => rfl)
  by_cases c : 0 ≤ n ∧ n ≤ 11
  · obtain ⟨hc, hd, h1, h2, h3⟩ := h.2.2.2.2 n (by omega) (by omega)
    by_cases c2 : A (209 + 3 * n) 3 = 1
    · obtain ⟨wb, we⟩ := h3 c2
      have p2 : (0 ≤ n ∧ n ≤ 11) ∧ B 258 n = 1 := ⟨c, by rw [h1]; exact c2⟩
      rw [if_pos ⟨c, c2⟩, if_pos p2, wb.1.1, wb.1.2.1, wb.1.2.2.1, wb.1.2.2.2.1, wb.1.2.2.2.2.1, wb.1.2.2.2.2.2.1, wb.1.2.2.2.2.2.2, we.1.1, we.1.2]
    · have p1 : ¬ ((0 ≤ n ∧ n ≤ 11) ∧ A (209 + 3 * n) 3 = 1) := fun q => c2 q.2
      have p2 : ¬ ((0 ≤ n ∧ n ≤ 11) ∧ B 258 n = 1) := fun q => c2 (by rw [← h1]; exact q.2)
      rw [if_neg p1, if_neg p2]
  · rw [if_neg (fun q => c q.1), if_neg (fun q => c q.1)]
theorem sim_memory {n k w : Int} (hn : rg n) (hk : rg k) (hw : rg w) : SIM E S 59 136 [vi n, vi k, vi w] T T := by
  refine SIM_q (d1 := 3) (d2 := 3) (FA := id) (FB := id) (by omega) (by omega) (fun A B h => c_memory8 hn hk hw (fun a b => (Rel_CW h).1 n a (by omega)) (fun a b => by have := (h.2.2.2.2 n a (by omega)).1.2.2.2.1; exact ⟨by omega, by omega⟩)) (fun A B h => c_memory9 hn hk hw (fun a b => (Rel_MW h).1 n a (by omega)) (fun a b => by have := (h.2.2.2.2 n a (by omega)).2.1.2.2.2.1; exact ⟨by omega, by omega⟩)) (fun A B h => ?_) (fun _ _ _ _ _ _ _ _ _ => rfl) (fun _ _ _ _ _ _ _ _ => rfl)
  by_cases c : 0 ≤ n ∧ n ≤ 11
  · obtain ⟨hc, hd, h1, h2, h3⟩ := h.2.2.2.2 n (by omega) (by omega)
    by_cases c2 : A (209 + 3 * n) 3 = 1
    · obtain ⟨wb, we⟩ := h3 c2
      have p2 : (0 ≤ n ∧ n ≤ 11) ∧ B 258 n = 1 := ⟨c, by rw [h1]; exact c2⟩
      rw [if_pos ⟨c, c2⟩, if_pos p2]
      by_cases c3 : (0 ≤ k ∧ k ≤ 7) ∧ (0 ≤ w ∧ w ≤ 1)
      · rw [if_pos c3, if_pos c3, wb.1.2.2.2.2.2.2]
        by_cases c4 : k < B 267 n
        · rw [if_pos c4, if_pos c4]
          have := wb.2.2.2.1 k (by omega) (by rw [wb.1.2.2.2.2.2.2]; exact c4)
          rw [this.1, this.2.1]
        · rw [if_neg c4, if_neg c4]
      · rw [if_neg c3, if_neg c3]
    · have p1 : ¬ ((0 ≤ n ∧ n ≤ 11) ∧ A (209 + 3 * n) 3 = 1) := fun q => c2 q.2
      have p2 : ¬ ((0 ≤ n ∧ n ≤ 11) ∧ B 258 n = 1) := fun q => c2 (by rw [← h1]; exact q.2)
      rw [if_neg p1, if_neg p2]
  · rw [if_neg (fun q => c q.1), if_neg (fun q => c q.1)]
theorem sim_many {w : Int} (hw : rg w) : SIM E S 64 144 [vi w] T T := by
  refine SIM_q (d1 := 3) (d2 := 3) (FA := id) (FB := id) (by omega) (by omega) (fun A B h => c_many8 hw (Rel_CW h).1 (Rel_CW h).2.1) (fun A B h => c_many9 hw (fun z a b => by rw [(h.1.2.1 z a b).1]; split <;> omega) (Rel_MW h).1 (Rel_MW h).2.1) (fun A B h => ?_) (fun _ _ _ _ _ _ _ _ _ => rfl) (fun _ _ _ _ _ _ _ _ => rfl)
  obtain ⟨s1, s2, s3, s4, s5, s6, s7, s8⟩ := h.2.2.2.1
  have e0 : A 1 5 = cnt (fun l => decide (B 249 l = 1)) 16 := by
    rw [h.1.2.2.2.2.2.2]
    refine cnt_congr 16 (fun l a b => ?_)
    have := (h.1.2.1 l a b).1
    by_cases q : 0 < A 4 l
    · rw [if_pos q] at this; rw [decide_eq_true q, decide_eq_true this]
    · rw [if_neg q] at this; rw [decide_eq_false q, decide_eq_false (by omega)]
  rw [e0, (wk_eq h).1, (wk_eq h).2, s4, s5, s3.1, s6, s8]
end
