/-! ===== calls side by side: raise, fade, noted, learnt, shortest, right, delay ===== -/
section
variable {A B A' B' : Mem} {T T' w : Int} {E : ET} {S : SCR}
theorem RR_model (h : Rel T A B) {r : Int} (hr : 0 ≤ r ∧ r < 64) : RV (nbm B (r / 8)) (getv B 254 (8 * r)) ∧ eqv (bs (A 5 (r / 8))) (A (18 + 3 * r)) (getv B 254 (8 * r)) ∧ ∀ k, 0 ≤ k → k < 8 → bs (A 5 (r / 8)) k = nbm B (r / 8) k := by
  have h1 := h.2.1 r hr.1 hr.2
  have e1 : ∀ k, 0 ≤ k → k < 8 → bs (A 5 (r / 8)) k = nbm B (r / 8) k := fun k a b => (RN_nb h.1 (by omega) ⟨a, b⟩).symm
  have e2 : eqv (bs (A 5 (r / 8))) (A (18 + 3 * r)) (getv B 254 (8 * r)) := fun k a b c => (h1.2.2 k a b).2.2 c
  exact ⟨RV_congr e1 e2 h1.2.1, e2, e1⟩
theorem sim_raise {i t k rr : Int} (hi : rg i) (ht : rg t) (hk : rg k) (hr : rg rr) : SIM E S 53 116 [vi i, vi t, vi k, vi rr] T T := by
  intro A B0 h0
  have n5 := h0.1.2.2.2.2.1
  by_cases c : raR i t k rr (bs (A 5 i) k) = 0
  · obtain ⟨c1, c2, c3, c4⟩ := raR_0 c
    obtain ⟨r0, er⟩ : ∃ r0, r0 = i * 8 + t := ⟨_, rfl⟩
    have e8 : r0 / 8 = i := by omega
    have hr0 := h0.2.1 r0 (by omega) (by omega)
    rw [e8] at hr0
    have fl := h0.2.2.2.1.1.2
    obtain ⟨p', w', cA⟩ := c_raise8y (E := E) (S := S) (M := A) (i := i) (t := t) (k := k) (rr := rr) (m := bs (A 5 i)) (v := A (18 + 3 * r0)) (by rw [← er, hr0.1]) (by rw [← er]) c n5 (by rw [← er]; exact hr0.1) fl (fun j a b => (hr0.2.2 j a b).1) hr0.2.1
    rw [← er] at cA
    have ro := rsF_ok (fl := A 0 8) (m := bs (A 5 i)) (k0 := k) (r := rr) (v := A (18 + 3 * r0)) fl (by omega) c4 c2 hr0.2.1
    refine ⟨_, _, 5, by omega, cA, fun c z q => by rw [putv_ne (by omega), putv_ne (by omega), putv_ne (by omega)], fun B h => ?_⟩
    obtain ⟨m1, m2, m3⟩ := RR_model h (r := r0) (by omega)
    rw [e8] at m1 m2 m3
    have fe := h.2.2.2.1.1.1
    have hrB := h.2.1 r0 (by omega) (by omega)
    rw [e8] at hrB
    have nk : nbm B i k = true := by rw [← m3 k (by omega) (by omega)]; exact c4
    obtain ⟨p2, w2, cB⟩ := c_raise9y (E := E) (S := S) (M := B) (i := i) (t := t) (k := k) (rr := rr) (m := nbm B i) (v := getv B 254 (8 * r0)) rfl (by rw [show 8 * i + t = r0 by omega]) (by rw [← m3 k (by omega) (by omega)]; exact c) (fun z a b => L_rg (RN_L h.1 z a b)) (by rw [← fe]; exact fl) (fun j a b => (hrB.2.2 j a b).2.1) m1
    rw [show 8 * i + t = r0 by omega, ← fe] at cB
    have qe := rsF_eqv (fl := A 0 8) (k0 := k) (r := rr) (by omega) c4 m3 m2
    have rB := rsF_ok (fl := A 0 8) (m := nbm B i) (k0 := k) (r := rr) (v := getv B 254 (8 * r0)) fl (by omega) nk c2 m1
    rw [← qe k (by omega) (by omega) c4] at cB
    refine ⟨_, 5, by omega, cB, fun c z q => by rw [putv_ne (by omega), putv_ne (by omega), putv_ne (by omega)], ?_⟩
    refine Rel_rows h (fun c z _ q1 _ q2 q => by rw [putv_ne (by omega), putv_ne q2, putv_ne q1]) (fun c z _ q q1 q2 _ => by rw [putv_ne q, putv_ne q2, putv_ne q1]) (fun r a b => ?_)
    by_cases q : r = r0
    · rw [q, e8]
      refine ⟨RV_congr (fun _ _ _ => rfl) (fun k a b _ => (putv_at0 a b).symm) ro.1, fun j a b => ?_⟩
      rw [putv_at0 a b, putv_at a b]
      refine ⟨?_, ?_, fun d => qe j a b d⟩
      · by_cases d : bs (A 5 i) j = true
        · exact ro.1.1 j a b d
        · rw [ro.2 j a b (by simpa using d)]; exact (hr0.2.2 j a b).1
      · by_cases d : nbm B i j = true
        · exact rB.1.1 j a b d
        · rw [rB.2 j a b (by simpa using d)]; exact (hrB.2.2 j a b).2.1
    · rw [show putv (putv (putv A 9 0 p') 11 0 w') (18 + 3 * r0) 0 (rsF (A 0 8) (bs (A 5 i)) k rr (A (18 + 3 * r0))) (18 + 3 * r) = A (18 + 3 * r) from funext fun z => by rw [putv_ne (by omega), putv_ne (by omega), putv_ne (by omega)]]
      refine ⟨(h.2.1 r a b).2.1, fun k a1 b1 => ?_⟩
      rw [putv_out (by omega), putv_ne (by omega), putv_ne (by omega)]
      exact (h.2.1 r a b).2.2 k a1 b1
  · refine ⟨_, A, 5, by omega, c_raise8n hi ht hk hr n5 c, fun _ _ _ => rfl, fun B h => ⟨B, 5, by omega, ?_, fun _ _ _ => rfl, h⟩⟩
    have e : raR i t k rr (bs (A 5 i) k) = raR i t k rr (nbm B i k) := by
      by_cases q : (0 ≤ i ∧ i ≤ 7) ∧ (0 ≤ t ∧ t ≤ 7) ∧ (0 ≤ k ∧ k ≤ 7)
      · rw [RN_nb h.1 (by omega) (by omega)]
      · unfold raR; rw [if_pos q, if_pos q]
    rw [e] at c ⊢
    exact c_raise9n hi ht hk hr (fun z a b => L_rg (RN_L h.1 z a b)) c
theorem sim_fade {e : Int} (he : rg e) : SIM E S 52 114 [vi e] T T := by
  intro A B0 h0
  have n5 := h0.1.2.2.2.2.1
  have fl := h0.2.2.2.1.1.2
  obtain ⟨A', cA, hA'⟩ := c_fade8 (E := E) (S := S) (M := A) he fl (fun r a b => by rw [(h0.2.1 r a b).1]; exact n5 _ (by omega) (by omega)) (fun r k a b c d => ((h0.2.1 r a b).2.2 k c d).1) (fun r a b => by rw [(h0.2.1 r a b).1]; exact (h0.2.1 r a b).2.1)
  by_cases c : 0 ≤ e ∧ e ≤ 1000
  · rw [if_pos c] at cA hA'
    refine ⟨_, A', 5, by omega, cA, fun c z q => hA'.1 c z (by omega) (by omega) (by omega) (fun r _ _ => by omega), fun B h => ?_⟩
    have fe := h.2.2.2.1.1.1
    obtain ⟨B', cB, hB'⟩ := c_fade9 (E := E) (S := S) (M := B) he (by rw [← fe]; exact fl) (fun z a b => L_rg (RN_L h.1 z a b)) (Rel_MW h).2.2.2.2.1 (fun r a b => (RR_model h ⟨a, b⟩).1)
    rw [if_pos c] at cB hB'
    have row : ∀ r, 0 ≤ r → r < 64 → fdC A e r = fdD B e r ∧ (RV (bs (A 5 (r / 8))) (A' (18 + 3 * r)) ∧ ∀ k, 0 ≤ k → k < 8 → (0 ≤ A' (18 + 3 * r) k ∧ A' (18 + 3 * r) k ≤ 1000) ∧ (0 ≤ B' 254 (8 * r + k) ∧ B' 254 (8 * r + k) ≤ 1000) ∧ (bs (A 5 (r / 8)) k = true → A' (18 + 3 * r) k = B' 254 (8 * r + k))) := by
      intro r a b
      have hr := h.2.1 r a b
      obtain ⟨m1, m2, m3⟩ := RR_model h (r := r) ⟨a, b⟩
      have eA : ∀ k, 0 ≤ k → k < 8 → A' (18 + 3 * r) k = fdT A e r k := fun k a1 b1 => hA'.2 r k a b a1 b1
      have eB : ∀ k, 0 ≤ k → k < 8 → B' 254 (8 * r + k) = fdU B e r k := fun k a1 b1 => hB'.2 r k a b a1 b1
      unfold fdT at eA
      unfold fdU at eB
      unfold fdC fdD
      rw [hr.1] at eA ⊢
      by_cases d : r / 8 = r % 8
      · rw [if_pos d, if_pos (Or.inl d)]
        refine ⟨rfl, RV_congr (fun _ _ _ => rfl) (fun k a1 b1 _ => by rw [eA k a1 b1, if_pos d]) hr.2.1, fun k a1 b1 => ?_⟩
        rw [eA k a1 b1, eB k a1 b1, if_pos d, if_pos (Or.inl d)]
        exact hr.2.2 k a1 b1
      · have ce := cntb_congr (m := bs (A 5 (r / 8))) (m' := nbm B (r / 8)) 8 m3
        have fo := fdF_ok (fl := A 0 8) (m := bs (A 5 (r / 8))) (e := e) (v := A (18 + 3 * r)) fl c hr.2.1
        rw [if_neg d]
        by_cases d2 : cntb (nbm B (r / 8)) 8 ≤ 0
        · have dz : cntb (bs (A 5 (r / 8))) 8 = 0 := by have := cntb_rng (bs (A 5 (r / 8))) 8; omega
          have ez : fdF (A 0 8) (bs (A 5 (r / 8))) e (A (18 + 3 * r)) = A (18 + 3 * r) := by unfold fdF; rw [if_pos dz]
          rw [if_pos (Or.inr d2), ez]
          refine ⟨?_, RV_congr (fun _ _ _ => rfl) (fun k a1 b1 _ => by rw [eA k a1 b1, if_neg d, ez]) hr.2.1, fun k a1 b1 => ?_⟩
          · have := cntb_le (m := dif (bs (A 5 (r / 8))) (A (18 + 3 * r)) (A (18 + 3 * r))) (m' := bs (A 5 (r / 8))) 8 (fun k _ _ q => by unfold dif at q; simp at q)
            have := cntb_rng (dif (bs (A 5 (r / 8))) (A (18 + 3 * r)) (A (18 + 3 * r))) 8
            omega
          · rw [eA k a1 b1, eB k a1 b1, if_neg d, if_pos (Or.inr d2), ez]
            exact hr.2.2 k a1 b1
        · have nd : ¬ (r / 8 = r % 8 ∨ cntb (nbm B (r / 8)) 8 ≤ 0) := fun q => q.elim d d2
          rw [if_neg nd, ← fe]
          have qe := fdF_eqv (fl := A 0 8) (e := e) m3 m2
          have fB := fdF_ok (fl := A 0 8) (m := nbm B (r / 8)) (e := e) (v := getv B 254 (8 * r)) fl c m1
          refine ⟨dif_cnt m3 qe m2, RV_congr (fun _ _ _ => rfl) (fun k a1 b1 _ => by rw [eA k a1 b1, if_neg d]) fo.1, fun k a1 b1 => ?_⟩
          rw [eA k a1 b1, eB k a1 b1, if_neg d, if_neg nd, ← fe]
          refine ⟨?_, ?_, fun q => qe k a1 b1 q⟩
          · by_cases q : bs (A 5 (r / 8)) k = true
            · exact fo.1.1 k a1 b1 q
            · rw [fo.2 k a1 b1 (by simpa using q)]; exact (hr.2.2 k a1 b1).1
          · by_cases q : nbm B (r / 8) k = true
            · exact fB.1.1 k a1 b1 q
            · rw [fB.2 k a1 b1 (by simpa using q)]; exact (hr.2.2 k a1 b1).2.1
    rw [← sm_congr (f := fdC A e) (f' := fdD B e) 64 (fun r a b => (row r a b).1)] at cB
    refine ⟨B', 5, by omega, cB, fun c z q => hB'.1 c z (by omega) (by omega) (by omega) (by omega), ?_⟩
    exact Rel_rows h (fun c z q1 q2 q3 q4 q5 => hA'.1 c z q2 q3 q4 (fun r _ _ => by omega)) (fun c z q1 q2 q3 q4 q5 => hB'.1 c z q3 q4 q5 (by omega)) (fun r a b => (row r a b).2)
  · rw [if_neg c] at cA hA'
    refine ⟨_, A', 5, by omega, cA, fun c z q => by rw [hA'], fun B h => ?_⟩
    have fe := h.2.2.2.1.1.1
    obtain ⟨B', cB, hB'⟩ := c_fade9 (E := E) (S := S) (M := B) he (by rw [← fe]; exact fl) (fun z a b => L_rg (RN_L h.1 z a b)) (Rel_MW h).2.2.2.2.1 (fun r a b => (RR_model h ⟨a, b⟩).1)
    rw [if_neg c] at cB hB'
    refine ⟨B', 5, by omega, cB, fun c z q => by rw [hB'], ?_⟩
    rw [hA', hB']; exact h
end
