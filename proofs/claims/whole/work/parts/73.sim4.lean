/-! ===== calls side by side: noted, learnt, shortest, right ===== -/
theorem ringed_sum {c nx : Int} {n : Nat} {v w : Vec} (h : ringed c nx v w) (hn : c = (n : Int)) : smn v n = smn w n := by
  obtain ⟨h1, h2, h3⟩ := h
  have cong : ∀ k : Nat, (∀ j, 0 ≤ j → j < (k : Int) → v j = w j) → smn v k = smn w k := by
    intro k
    induction k with
    | zero => intro _; rfl
    | succ k ih =>
      intro hh
      unfold smn
      rw [ih (fun j a b => hh j a (by omega)), hh k (by omega) (by omega)]
  by_cases q : c < 8
  · have := h2 q
    refine cong n (fun j a b => ?_)
    rw [h3 j a (by omega)]
    congr 1; omega
  · have n8 : n = 8 := by omega
    subst n8
    have e : ∀ x : Vec, smn x 8 = 0 + x 0 + x 1 + x 2 + x 3 + x 4 + x 5 + x 6 + x 7 := fun x => rfl
    rw [e, e, h3 0 (by omega) (by omega), h3 1 (by omega) (by omega), h3 2 (by omega) (by omega), h3 3 (by omega) (by omega), h3 4 (by omega) (by omega), h3 5 (by omega) (by omega), h3 6 (by omega) (by omega), h3 7 (by omega) (by omega)]
    have c8 : c = 8 := by omega
    have nx8 : nx = 0 ∨ nx = 1 ∨ nx = 2 ∨ nx = 3 ∨ nx = 4 ∨ nx = 5 ∨ nx = 6 ∨ nx = 7 := by omega
    rw [c8]
    rcases nx8 with rfl | rfl | rfl | rfl | rfl | rfl | rfl | rfl <;> simp <;> omega
theorem fi_same {p p' : Int → Bool} : ∀ (n : Nat) (k : Int), (∀ j, k ≤ j → j < k + n → (∀ i, k ≤ i → i < j → p i = false) → p j = p' j) → fi p k n = fi p' k n := by
  intro n
  induction n with
  | zero => intro k _; rfl
  | succ n ih =>
    intro k h
    show (if p k = true then k else fi p (k + 1) n) = (if p' k = true then k else fi p' (k + 1) n)
    have h0 := h k (by omega) (by omega) (fun i a b => by omega)
    rw [← h0]
    by_cases q : p k = true
    · rw [if_pos q, if_pos q]
    · rw [if_neg q, if_neg q]
      refine ih (k + 1) (fun j a b c => h j (by omega) (by omega) (fun i i1 i2 => ?_))
      by_cases z : i = k
      · rw [z]; simpa using q
      · exact c i (by omega) i2
theorem ln_same {nx nx' : Vec} {a t : Int} (hN : NX nx) (ha : 0 ≤ a ∧ a < 8) (he : ∀ x, 0 ≤ x → x < 8 → nx x = nx' x) : lnN nx a t = lnN nx' a t ∧ ∀ j, 0 ≤ j → j ≤ lnN nx a t → pv nx a j = pv nx' a j := by
  have hp : ∀ n : Nat, (∀ j, 0 ≤ j → j < (n : Int) → lpP nx a t j = false) → ∀ j, 0 ≤ j → j ≤ (n : Int) → pv nx a j = pv nx' a j := by
    intro n
    induction n with
    | zero => intro _ j h1 h2; rw [show j = 0 by omega]; rfl
    | succ n ih =>
      intro h j h1 h2
      have i1 := ih (fun j a b => h j a (by omega))
      by_cases q : j = (n : Int) + 1
      · rw [q, pv_s, pv_s, ← i1 n (by omega) (by omega)]
        have := lp_rng (t := t) hN ha n (fun j a b => h j a (by omega)) n (by omega) (by omega)
        exact he _ this.1 this.2
      · exact i1 j h1 (by omega)
  have e1 : lnN nx a t = lnN nx' a t := by
    refine fi_same 8 0 (fun j j1 j2 hf => ?_)
    have hq := hp j.toNat (fun i a b => hf i a (by omega))
    have hj := hq j j1 (by omega)
    have rj := lp_rng (t := t) hN ha j.toNat (fun i a b => hf i a (by omega)) j j1 (by omega)
    unfold lpP
    rw [← hj, ← he _ rj.1 rj.2, rsN_congr (v := pv nx a) (v' := pv nx' a) (j.toNat + 1) (fun i a b => hq i a (by omega))]
  refine ⟨e1, fun j a1 b1 => ?_⟩
  have lr := (lnN_rng (t := t) hN ha).1
  exact hp (lnN nx a t).toNat (fun i i1 i2 => fi_first 8 0 i (by omega) i1 (by unfold lnN at i2 lr; omega)) j a1 (by omega)
section
variable {A B A' B' : Mem} {T T' w : Int} {E : ET} {S : SCR}
theorem sim_noted {i t w : Int} (hi : rg i) (ht : rg t) (hw : rg w) : SIM E S 60 137 [vi i, vi t, vi w] T T := by
  intro A B0 h0
  by_cases c : ntR i t w = 0
  · obtain ⟨c1, c2, c3⟩ := ntR_0 c
    obtain ⟨r, er⟩ : ∃ r, r = i * 8 + t := ⟨_, rfl⟩
    have o0 := h0.2.2.1 r (by omega) (by omega)
    have r0 := o0.1.1
    refine ⟨_, A, 3, by omega, c_noted8y (r := r) (n := (A (17 + 3 * r) 3).toNat) er c (by omega) (by omega) (by omega) (fun k a b => by have := (o0.2.2 k a b).1; exact ⟨by omega, by omega⟩), fun _ _ _ => rfl, fun B h => ⟨B, 3, by omega, ?_, fun _ _ _ => rfl, h⟩⟩
    have o := h.2.2.1 r (by omega) (by omega)
    have cB := c_noted9y (E := E) (S := S) (M := B) (i := i) (t := t) (w := w) (r := r) (n := (A (17 + 3 * r) 3).toNat) (by omega) c (by rw [o.2.1]; omega) (by omega) (fun k a b => by have := (o.2.2 k a b).2; exact ⟨by omega, by omega⟩)
    have e1 := ringed_best o.1 (n := (A (17 + 3 * r) 3).toNat) (by omega) (fun j a b => (o.2.2 j a (by omega)).1.1)
    have e2 := ringed_sum o.1 (n := (A (17 + 3 * r) 3).toNat) (by omega)
    rw [← e1, ← e2, o.2.1] at cB
    have e3 : (if A (17 + 3 * r) 3 = 0 then -9 else A (19 + 3 * r) ((A (17 + 3 * r) 4 + 8 - 1) % 8)) = (if A (17 + 3 * r) 3 = 0 then -9 else B 272 (8 * r + A (17 + 3 * r) 3 - 1)) := by
      by_cases q : A (17 + 3 * r) 3 = 0
      · rw [if_pos q, if_pos q]
      · rw [if_neg q, if_neg q, ringed_last o.1 (by omega)]
        unfold getv
        congr 1; omega
    rw [e3]
    exact cB
  · exact ⟨_, A, 3, by omega, c_noted8n hi ht hw c, fun _ _ _ => rfl, fun B h => ⟨B, 3, by omega, c_noted9n hi ht hw c, fun _ _ _ => rfl, h⟩⟩
theorem nx_eq (h : Rel T A B) {t x : Int} (ht : 0 ≤ t ∧ t < 8) (hx : 0 ≤ x ∧ x < 8) : nx8 A t x = nx9 B t x := by
  obtain ⟨m1, m2, m3⟩ := RR_model h (r := x * 8 + t) (by omega)
  have hr := (h.2.1 (x * 8 + t) (by omega) (by omega)).1
  rw [show (x * 8 + t) / 8 = x by omega] at m1 m2 m3 hr
  unfold nx8 nx9
  rw [hr, show 8 * x + t = x * 8 + t by omega]
  exact grF_congr 8 (fun k a b => ⟨m3 k a b, fun c => m2 k a b c⟩)
theorem dl_eq (h : RN A B) {i k : Int} (hi : 0 ≤ i ∧ i < 8) (hk : 0 ≤ k ∧ k < 8) (hn : ¬ lk8 A i k = -9) : dl8 A i k = dl9 B i k ∧ 1 ≤ dl8 A i k ∧ dl8 A i k ≤ 60 := by
  have s := lk8_spec rfl hn
  unfold dl8 dl9
  rw [if_neg hn, h.2.2.2.1 i k hi.1 hi.2 hk.1 hk.2, (h.2.1 _ s.1.1 s.1.2).2.2.2 s.2.1]
  have := (h.1 _ s.1.1 s.1.2).1
  exact ⟨rfl, by omega, by omega⟩
theorem sim_learnt {a t w : Int} (ha : rg a) (ht : rg t) (hw : rg w) : SIM E S 61 139 [vi a, vi t, vi w] T T := by
  refine SIM_q (d1 := 5) (d2 := 4) (FA := fun A => if leR a t w = 0 then wyM A t a ((lnN (nx8 A t) a t).toNat + 1) else A) (FB := fun B => if leR a t w = 0 then wyN B t a (lnN (nx9 B t) a t).toNat else B) (by omega) (by omega) (fun A B h => c_learnt8 ha ht hw (RN_LO h.1) (fun r a b => by rw [(h.2.1 r a b).1]; exact h.1.2.2.2.2.1 _ (by omega) (by omega)) (fun r k a b c d => ((h.2.1 r a b).2.2 k c d).1)) (fun A B h => c_learnt9 ha ht hw (RN_L h.1) (Rel_MW h).2.2.2.2.1) (fun A B h => ?_) (fun A c z _ _ _ _ _ q => ?_) (fun B c z _ _ _ q _ => ?_)
  · by_cases c : leR a t w = 0
    · obtain ⟨c1, c2, c3⟩ := leR_0 c
      rw [if_pos c, if_pos c]
      obtain ⟨e1, e2⟩ := ln_same (t := t) (NX8 (M := A) (t := t)) (a := a) (by omega) (fun x a b => nx_eq h (t := t) (by omega) ⟨a, b⟩)
      obtain ⟨l1, l2⟩ := lnN_rng (t := t) (NX8 (M := A) (t := t)) (a := a) (by omega)
      unfold lrA
      rw [← e1, ← e2 _ l1.1 (by omega), rsN_congr (v := pv (nx8 A t) a) (v' := pv (nx9 B t) a) ((lnN (nx8 A t) a t).toNat + 1) (fun j a b => e2 j a (by omega))]
      rw [sm_congr (f := fun n => dl8 A (pv (nx8 A t) a n) (pv (nx8 A t) a (n + 1))) (f' := fun n => dl9 B (pv (nx9 B t) a n) (pv (nx9 B t) a (n + 1))) (lnN (nx8 A t) a t).toNat (fun j j1 j2 => by
        have v1 := l2 j j1 (by omega)
        have v2 := l2 (j + 1) (by omega) (by omega)
        have nk := ln_next (t := t) (a := a) (by omega) (NX8 (M := A) (t := t)) (j := j) j1 (by omega)
        rw [← e2 j j1 (by omega), ← e2 (j + 1) (by omega) (by omega)]
        refine (dl_eq h.1 v1 v2 ?_).1
        have gr := grF_rng (bs (A (17 + 3 * (pv (nx8 A t) a j * 8 + t)) 2)) (A (18 + 3 * (pv (nx8 A t) a j * 8 + t))) 8
        rcases gr with q | q
        · exact absurd q nk.1
        · have q3 := q.2.2
          rw [(h.2.1 (pv (nx8 A t) a j * 8 + t) (by omega) (by omega)).1, show (pv (nx8 A t) a j * 8 + t) / 8 = pv (nx8 A t) a j by omega] at q3
          have e5 := nk.2
          unfold nx8 at e5
          rw [show pv (fun a => grF (bs (A (17 + 3 * (a * 8 + t)) 2)) (A (18 + 3 * (a * 8 + t))) 8) a (j + 1) = pv (nx8 A t) a (j + 1) from rfl, show pv (fun a => grF (bs (A (17 + 3 * (a * 8 + t)) 2)) (A (18 + 3 * (a * 8 + t))) 8) a j = pv (nx8 A t) a j from rfl] at e5
          rw [e5]
          rw [e5] at v2
          have e6 := h.1.2.2.2.2.2.1 (pv (nx8 A t) a j) (grF (bs (A (17 + 3 * (pv (nx8 A t) a j * 8 + t)) 2)) (A (18 + 3 * (pv (nx8 A t) a j * 8 + t))) 8) v1.1 v1.2 v2.1 v2.2
          rw [(h.2.1 (pv (nx8 A t) a j * 8 + t) (by omega) (by omega)).1, show (pv (nx8 A t) a j * 8 + t) / 8 = pv (nx8 A t) a j by omega] at e6 ⊢
          rw [e6] at q3
          exact of_decide_eq_true q3)]
      by_cases d : w - 10 < lnN (nx8 A t) a t + 1
      · rw [if_pos d, if_pos d]
        by_cases d2 : 0 ≤ w - 10
        · rw [e2 (w - 10) d2 (by omega)]
        · by_cases z0 : w = 0
          · simp [z0]
          · by_cases z1 : w = 1
            · simp [z1]
            · have z2 : w = 2 := by omega
              simp [z2]
      · rw [if_neg d, if_neg d]
    · rw [if_neg c, if_neg c]
  · split
    · exact putv_ne q
    · rfl
  · split
    · exact wyN_ot q
    · rfl
end
