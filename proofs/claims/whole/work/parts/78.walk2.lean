/-! ===== walking side by side: lost, gone on, gone back ===== -/
section
variable {M A B A1 B1 A' B' : Mem} {T T' w : Int} {E : ET} {S : SCR}
theorem lost_rel (h : RX T A B w) (hw : 0 ≤ w ∧ w < 12) (hc : WC A w) (hd : WD B w) : Rel T (loM A w) (loN B w) := by
  have oA : ∀ c z, ¬ (c = 209 + 3 * w ∧ (z = 3 ∨ z = 8)) → ¬ (c = 0 ∧ z = 12) → loM A w c z = A c z := fun c z q1 q2 => by
    unfold loM; rw [up2_other (by omega), up2_other (by omega), up2_other (by omega)]
  have oB : ∀ c z, ¬ (c = 258 ∧ z = w) → ¬ (c = 248 ∧ z = 15) → loN B w c z = B c z := fun c z q1 q2 => by
    unfold loN; rw [up2_other (by omega), up2_other (by omega)]
  have a3 : loM A w (209 + 3 * w) 3 = 0 := by unfold loM; rw [up2_other (by omega), up2_other (by omega), up2_same]
  have a8 : loM A w (209 + 3 * w) 8 = -9 := by unfold loM; rw [up2_other (by omega), up2_same]
  have a12 : loM A w 0 12 = A 0 12 + 1 := by unfold loM; rw [up2_same]
  have b8 : loN B w 258 w = 0 := by unfold loN; rw [up2_other (by omega), up2_same]
  have b15 : loN B w 248 15 = B 248 15 + 1 := by unfold loN; rw [up2_same]
  refine Rel_of (w := w) (RX_step h (by omega) (fun c z _ _ _ _ _ _ _ _ _ _ => oA c z (by omega) (by omega)) (oA _ _ (by omega) (by omega)) (fun c z _ _ _ _ _ _ _ _ _ => oB c z (by omega) (by omega)) ?_) ?_
  · obtain ⟨s1, s2, s3, s4, s5, s6, s7, s8⟩ := h.2.2.2.1
    unfold RS
    rw [oA 0 8 (by omega) (by omega), oA 0 9 (by omega) (by omega), oA 0 10 (by omega) (by omega), oA 0 11 (by omega) (by omega), oA 0 13 (by omega) (by omega), oA 14 0 (by omega) (by omega), oA 14 1 (by omega) (by omega), a12, oB 248 6 (by omega) (by omega), oB 248 7 (by omega) (by omega), oB 248 12 (by omega) (by omega), oB 248 14 (by omega) (by omega), oB 248 16 (by omega) (by omega), oB 248 11 (by omega) (by omega), oB 248 13 (by omega) (by omega), b15]
    exact ⟨s1, s2, s3, s4, by omega, s6, s7, s8⟩
  · refine ⟨⟨Or.inl a3, by rw [oA _ 4 (by omega) (by omega)]; exact hc.2.1, by rw [a8]; exact ⟨by omega, by omega⟩, by rw [oA _ 2 (by omega) (by omega)]; exact hc.2.2.2.1, fun j j1 j2 => by rw [oA _ j (by omega) (by omega)]; exact hc.2.2.2.2.1 j j1 j2, by rw [oA _ 5 (by omega) (by omega)]; exact hc.2.2.2.2.2.1, by rw [oA _ 7 (by omega) (by omega)]; exact hc.2.2.2.2.2.2⟩, ⟨Or.inl b8, by rw [oB 262 w (by omega) (by omega)]; exact hd.2.1, by rw [oB 263 w (by omega) (by omega)]; exact hd.2.2.1, by rw [oB 267 w (by omega) (by omega)]; exact hd.2.2.2.1, fun j j1 j2 => by rw [oB 268 _ (by omega) (by omega)]; exact hd.2.2.2.2.1 j j1 j2, by rw [oB 259 w (by omega) (by omega)]; exact hd.2.2.2.2.2.1, by rw [oB 261 w (by omega) (by omega)]; exact hd.2.2.2.2.2.2⟩, by rw [b8, a3], fun _ => a8, fun f => by omega⟩
theorem back_rel (h : RX T A B w) (hw : 0 ≤ w ∧ w < 12) (hc : WC A w) (hd : WD B w) (h3 : A (209 + 3 * w) 3 = 1) (hb3 : B 258 w = 1) (hB : WB A B w) (h4 : A (209 + 3 * w) 4 = 1) (h12 : B 270 w = A (209 + 3 * w) 12) (hp : 1 ≤ A (209 + 3 * w) 12 ∧ A (209 + 3 * w) 12 < A (209 + 3 * w) 2) : Rel T (sbM A w) (sbN B w) := by
  have hB' := hB
  obtain ⟨b1, b2, b3, b4, b5⟩ := hB'
  have n8 := hc.2.2.2.1
  obtain ⟨p, ep⟩ : ∃ p, p = A (209 + 3 * w) 12 := ⟨_, rfl⟩
  rw [← ep] at h12 hp
  have v1 := hc.2.2.2.2.1 p (by omega) (by omega)
  have v2 := hc.2.2.2.2.1 (p - 1) (by omega) (by omega)
  have m1 := b4 p (by omega) (by omega)
  have m2 := b4 (p - 1) (by omega) (by omega)
  have eL : sbL A w = lk8 A (A (210 + 3 * w) p) (A (210 + 3 * w) (p - 1)) := by unfold sbL; rw [← ep]
  have eK : sbK B w = sbL A w := by
    unfold sbK
    rw [h12, ← m1.1, show 8 * w + p - 1 = 8 * w + (p - 1) by omega, ← m2.1, h.1.2.2.2.1 _ _ (by omega) (by omega) (by omega) (by omega), eL]
  have eN : B 268 (8 * w + B 270 w - 1) = A (210 + 3 * w) (p - 1) := by rw [h12, show 8 * w + p - 1 = 8 * w + (p - 1) by omega, ← m2.1]
  unfold sbM sbN
  rw [eK, eN, ← ep]
  by_cases c : sbL A w = -9
  · rw [if_pos c, if_pos c]
    exact lost_rel h hw hc hd
  · rw [if_neg c, if_neg c]
    have s := h.2.2.2.1
    obtain ⟨l, hl⟩ : ∃ l, l = sbL A w := ⟨_, rfl⟩
    rw [← hl] at c ⊢
    rw [← hl] at eL
    have lr : 0 ≤ l ∧ l < 16 := (lk8_spec eL.symm c).1
    obtain ⟨N, hN⟩ : ∃ N, N = A (210 + 3 * w) (p - 1) := ⟨_, rfl⟩
    rw [← hN] at v2 eL ⊢
    obtain ⟨A2, eA2⟩ : ∃ A2, A2 = trM (up2 A (209 + 3 * w) 12 (p - 1)) w l N (A 0 10 + 1) := ⟨_, rfl⟩
    obtain ⟨B2, eB2⟩ : ∃ B2, B2 = up2 (up2 (up2 B 263 w l) 264 w N) 265 w (B 248 12 + 1) := ⟨_, rfl⟩
    rw [← eA2, ← eB2]
    have oA : ∀ c z, ¬ (c = 209 + 3 * w ∧ (z = 8 ∨ z = 9 ∨ z = 10 ∨ z = 12)) → A2 c z = A c z := fun c z q => by
      rw [eA2]; unfold trM; rw [up2_other (by omega), up2_other (by omega), up2_other (by omega), up2_other (by omega)]
    have a8 : A2 (209 + 3 * w) 8 = l := by rw [eA2]; unfold trM; rw [up2_other (by omega), up2_other (by omega), up2_same]
    have a9 : A2 (209 + 3 * w) 9 = N := by rw [eA2]; unfold trM; rw [up2_other (by omega), up2_same]
    have a10 : A2 (209 + 3 * w) 10 = A 0 10 + 1 := by rw [eA2]; unfold trM; rw [up2_same]
    have a12 : A2 (209 + 3 * w) 12 = p - 1 := by rw [eA2]; unfold trM; rw [up2_other (by omega), up2_other (by omega), up2_other (by omega), up2_same]
    have oB : ∀ c z, ¬ (z = w ∧ (c = 263 ∨ c = 264 ∨ c = 265)) → B2 c z = B c z := fun c z q => by
      rw [eB2, up2_other (by omega), up2_other (by omega), up2_other (by omega)]
    have y3 : B2 263 w = l := by rw [eB2, up2_other (by omega), up2_other (by omega), up2_same]
    have y4 : B2 264 w = N := by rw [eB2, up2_other (by omega), up2_same]
    have y5 : B2 265 w = B 248 12 + 1 := by rw [eB2, up2_same]
    have f10 : A2 (210 + 3 * w) = A (210 + 3 * w) := funext fun z => oA _ z (by omega)
    have f11 : A2 (211 + 3 * w) = A (211 + 3 * w) := funext fun z => oA _ z (by omega)
    have el : ∀ i k, lk8 A2 i k = lk8 A i k := fun i k => lk8_congr (fun z => oA 2 z (by omega)) (fun z => oA 3 z (by omega)) (fun z => oA 4 z (by omega))
    refine Rel_of (w := w) (RX_step h (by omega) (fun c z _ _ _ _ _ _ _ _ _ _ => oA c z (by omega)) (oA _ _ (by omega)) (fun c z _ _ _ _ _ _ _ _ _ => oB c z (by omega)) ?_) ?_
    · unfold RS
      rw [show A2 0 = A 0 from funext fun z => oA _ _ (by omega), show A2 14 = A 14 from funext fun z => oA _ _ (by omega), show B2 248 = B 248 from funext fun z => oB _ _ (by omega)]
      exact s
    · refine ⟨⟨by rw [oA _ 3 (by omega)]; exact hc.1, by rw [oA _ 4 (by omega)]; exact hc.2.1, by rw [a8]; exact ⟨by omega, by omega⟩, by rw [oA _ 2 (by omega)]; exact n8, by rw [f10]; exact hc.2.2.2.2.1, by rw [oA _ 5 (by omega)]; exact hc.2.2.2.2.2.1, by rw [oA _ 7 (by omega)]; exact hc.2.2.2.2.2.2⟩, ⟨by rw [oB 258 w (by omega)]; exact hd.1, by rw [oB 262 w (by omega)]; exact hd.2.1, by rw [y3]; exact ⟨by omega, by omega⟩, by rw [oB 267 w (by omega)]; exact hd.2.2.2.1, fun j j1 j2 => by rw [oB 268 _ (by omega)]; exact hd.2.2.2.2.1 j j1 j2, by rw [oB 259 w (by omega)]; exact hd.2.2.2.2.2.1, by rw [oB 261 w (by omega)]; exact hd.2.2.2.2.2.2⟩, by rw [oB 258 w (by omega), oA _ 3 (by omega), hb3, h3], fun f => by rw [oA _ 3 (by omega), h3] at f; omega, fun _ => ⟨?_, ?_⟩⟩
      · unfold WB
        rw [f10, f11, oA _ 5 (by omega), oA _ 6 (by omega), oA _ 7 (by omega), oA _ 4 (by omega), a8, oA _ 11 (by omega), oA _ 2 (by omega), oB 259 w (by omega), oB 260 w (by omega), oB 261 w (by omega), oB 262 w (by omega), y3, oB 266 w (by omega), oB 267 w (by omega), oA 0 10 (by omega)]
        refine ⟨⟨b1.1, b1.2.1, b1.2.2.1, b1.2.2.2.1, rfl, b1.2.2.2.2.2.1, b1.2.2.2.2.2.2⟩, b2, b3, fun j j1 j2 => ?_, b5⟩
        rw [oB 268 _ (by omega), oB 269 _ (by omega)]
        exact b4 j j1 j2
      · unfold WE
        rw [f10, f11, a9, a10, oA _ 4 (by omega), oA _ 2 (by omega), a12, a8, y4, y5, oB 270 w (by omega), oA 0 10 (by omega)]
        refine ⟨⟨rfl, by rw [s.2.2.1.1]⟩, by omega, by have := s.2.2.1.2.1; omega, fun f => by omega, fun _ => ⟨by omega, by omega, by omega, by rw [hN], ?_, c⟩⟩
        rw [el, show p - 1 + 1 = p by omega, ← hN, ← eL]
theorem pkF_congr {ch ch' : Set8} {wt wt' : Vec} {dr : Int} (hm : ∀ k, 0 ≤ k → k < 8 → ch k = ch' k) (hv : ∀ k, 0 ≤ k → k < 8 → ch k = true → wt k = wt' k) : pkF ch wt dr = pkF ch' wt' dr := by
  unfold pkF
  refine fi_congr 8 0 (fun j a b => ?_)
  unfold pkP
  rw [hm j a (by omega), smv_congr (m := ch) (m' := ch') (v := wt) (v' := wt') (j.toNat + 1) (fun k k1 k2 => ⟨hm k k1 (by omega), fun c => hv k k1 (by omega) c⟩)]
theorem pk_some {ch : Set8} {wt : Vec} {dr : Int} (h1 : 0 < cntb ch 8) (h2 : dr < smv ch wt 8) (h3 : ∀ k, 0 ≤ k → k < 8 → 0 ≤ wt k ∧ wt k ≤ 1000) : ¬ pkF ch wt dr = -9 := by
  intro q
  have hn := fi_none 8 0 (by omega) q
  have key : ∀ n : Nat, n ≤ 8 → smv ch wt n ≤ dr ∨ cntb ch n = 0 := by
    intro n
    induction n with
    | zero => intro _; exact Or.inr rfl
    | succ n ih =>
      intro hn8
      have p := hn n (by omega) (by omega)
      unfold pkP at p
      rw [Int.toNat_natCast] at p
      by_cases c : ch (n : Int) = true
      · left
        rw [c, Bool.true_and] at p
        have := of_decide_eq_false p
        omega
      · have i1 := ih (by omega)
        have e1 : smv ch wt (n + 1) = smv ch wt n := by
          show smv ch wt n + (if ch (n : Int) = true then wt (n : Int) else 0) = _
          rw [if_neg c]; omega
        have e2 : cntb ch (n + 1) = cntb ch n := by rw [cntb_s, if_neg c]; omega
        rw [e1, e2]; exact i1
  have := key 8 (by omega)
  omega
/-- what a pick sees is the same on both sides -/
theorem pick_eq (h : RX T A B w) (hw : 0 ≤ w ∧ w < 12) (hc : WC A w) (hB : WB A B w) (h8 : A (209 + 3 * w) 8 = -9) {i : Int} (hi : 0 ≤ i ∧ i < 8) : (∀ k, 0 ≤ k → k < 8 → ch8 A w i k = ch9 B w i k) ∧ (∀ k, 0 ≤ k → k < 8 → ch8 A w i k = true → wt8 A w i k = wt9 B w i k) ∧ (∀ k, 0 ≤ k → k < 8 → ch8 A w i k = true → ¬ lk8 A i k = -9) := by
  obtain ⟨b1, b2, b3, b4, b5⟩ := hB
  have n8 := hc.2.2.2.1
  have nb : ∀ k, 0 ≤ k → k < 8 → bs (A 5 i) k = nbm B i k := fun k a b => (RN_nb h.1 hi ⟨a, b⟩).symm
  have st : ∀ k, 0 ≤ k → k < 8 → stS (bs (A 5 i)) (A (210 + 3 * w)) (A (209 + 3 * w) 2).toNat k = stS (nbm B i) (mem9 B w) (B 267 w).toNat k := fun k a b => by
    unfold stS
    rw [nb k a b, ← b1.2.2.2.2.2.2, fi_congr (p := fun j => decide (A (210 + 3 * w) j = k)) (q := fun j => decide (mem9 B w j = k)) (A (209 + 3 * w) 2).toNat 0 (fun j a1 a2 => by unfold mem9; rw [(b4 j a1 (by omega)).1])]
  have e1 : ∀ k, 0 ≤ k → k < 8 → ch8 A w i k = ch9 B w i k := fun k a b => by
    unfold ch8 ch9 chS
    rw [cntb_congr (m := stS (bs (A 5 i)) (A (210 + 3 * w)) (A (209 + 3 * w) 2).toNat) (m' := stS (nbm B i) (mem9 B w) (B 267 w).toNat) 8 st]
    split
    · exact st k a b
    · exact nb k a b
  have e3 : ∀ k, 0 ≤ k → k < 8 → ch8 A w i k = true → ¬ lk8 A i k = -9 := fun k a b c => by
    rw [e1 k a b] at c
    have := ch9_sub c
    rw [← nb k a b, h.1.2.2.2.2.2.1 i k hi.1 hi.2 a b] at this
    exact of_decide_eq_true this
  refine ⟨e1, fun k a b c => ?_, e3⟩
  have hl := e3 k a b c
  have nk : bs (A 5 i) k = true := by rw [h.1.2.2.2.2.2.1 i k hi.1 hi.2 a b]; exact decide_eq_true hl
  have a7 := hc.2.2.2.2.2.2
  have hr := ((h.2.1 (i * 8 + A (209 + 3 * w) 7) (by omega) (by omega)).2.2 k a b).2.2
  rw [show (i * 8 + A (209 + 3 * w) 7) / 8 = i by omega] at hr
  have hr2 := hr nk
  have on : cnt (onB A (lk8 A i k) 0) 12 = cnt (onB9 B (lk8 A i k) 0) 12 := cnt_congr 12 (fun u u1 u2 => by
    unfold onB onB9
    by_cases q : u = w
    · rw [q, h8, ← b1.2.2.2.2.1, h8, decide_eq_false (fun f => hl f.1.symm), decide_eq_false (fun f => hl f.2.1.symm)]
    · obtain ⟨uc, ud, g1, g2, g3⟩ := h.2.2.2.2 u u1 u2 q
      rcases uc.1 with z | z
      · have := g2 z
        rw [decide_eq_false (fun f => hl (by rw [← f.1]; exact this)), decide_eq_false (by omega)]
      · obtain ⟨wb, _⟩ := g3 z
        rw [g1, z, wb.1.2.2.2.1, wb.1.2.2.2.2.1]; simp)
  unfold wt8 wt9
  rw [h.1.2.2.2.1 i k hi.1 hi.2 a b, show fi (btB A (min i k) (max i k)) 0 16 = lk8 A i k from rfl, on, hr2, ← b1.1, ← b1.2.2.1, show i * 8 + A (209 + 3 * w) 7 = 8 * i + A (209 + 3 * w) 7 by omega]
end
