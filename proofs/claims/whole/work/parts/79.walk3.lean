/-! ===== going on side by side ===== -/
section
variable {M A B A1 B1 A' B' : Mem} {T T' w : Int} {E : ET} {S : SCR}
theorem go_rel (h : RX T A B w) (hw : 0 ≤ w ∧ w < 12) (hC : CW A) (hM : MW B) (hc : WC A w) (hd : WD B w) (h3 : A (209 + 3 * w) 3 = 1) (hb3 : B 258 w = 1) (hB : WB A B w) (h4 : A (209 + 3 * w) 4 = 0) (h8 : A (209 + 3 * w) 8 = -9) (hn : ∀ j, 0 ≤ j → j < A (209 + 3 * w) 2 → ¬ A (210 + 3 * w) j = A (209 + 3 * w) 7) {i : Int} (hi : 0 ≤ i ∧ i < 8) : Rel T (goM A w i) (goN B w i) ∧ goM A w i (209 + 3 * w) 3 = b2 (¬ kn9 B w i = -9) := by
  have hB' := hB
  obtain ⟨b1, bb, b3, b4, b5⟩ := hB'
  have n8 := hc.2.2.2.1
  obtain ⟨e1, e2, e3⟩ := pick_eq h hw hc hB h8 hi
  have s := h.2.2.2.1
  have sm0 : smv (ch8 A w i) (wt8 A w i) 8 = smv (ch9 B w i) (wt9 B w i) 8 := smv_congr 8 (fun k a b => ⟨e1 k a b, fun c => e2 k a b c⟩)
  have ek : pk8 A w i = pk9 B w i := by
    unfold pk8 pk9
    rw [sm0, s.2.2.2.2.2.2.1]
    exact pkF_congr e1 e2
  have wr : ∀ k, 0 ≤ k → k < 8 → 0 ≤ wt8 A w i k ∧ wt8 A w i k ≤ 1000 := fun k a b => wt8_rng hC hw hi ⟨a, b⟩
  have lo3 : loM A w (209 + 3 * w) 3 = 0 := by unfold loM; rw [up2_other (by omega), up2_other (by omega), up2_same]
  by_cases c24 : A (209 + 3 * w) 11 = 24
  · have k9 : kn9 B w i = -9 := by unfold kn9; rw [if_pos (by rw [← b1.2.2.2.2.2.1]; exact c24)]
    have p9 : kp9 B w i = B := by unfold kp9; rw [if_pos (by rw [← b1.2.2.2.2.2.1]; exact c24)]
    unfold goM goN
    rw [if_pos (Or.inr (by omega)), k9, if_pos rfl, p9]
    refine ⟨lost_rel h hw hc hd, ?_⟩
    rw [lo3]; simp [b2]
  · have k9' : kn9 B w i = pk9 B w i := by unfold kn9; rw [if_neg (by rw [← b1.2.2.2.2.2.1]; exact c24)]
    have p9' : kp9 B w i = pk9M B w i := by unfold kp9; rw [if_neg (by rw [← b1.2.2.2.2.2.1]; exact c24)]
    have n5 := h.1.2.2.2.2.1 i hi.1 hi.2
    by_cases c0 : A 5 i = 0
    · -- no neighbours
      have nz : ∀ k, 0 ≤ k → k < 8 → ch9 B w i k = false := fun k a b => by
        by_cases q : ch9 B w i k = true
        · have := ch9_sub q
          rw [RN_nb h.1 hi ⟨a, b⟩, c0, bs_0 ⟨a, b⟩] at this
          cases this
        · simpa using q
      have s0 : smv (ch9 B w i) (wt9 B w i) 8 = 0 := by
        rw [smv_congr (m := ch9 B w i) (m' := fun _ => false) (v := wt9 B w i) (v' := fun _ => 0) 8 (fun k a b => ⟨nz k a b, fun c => by rw [nz k a b] at c; cases c⟩)]
        decide
      have k9 : kn9 B w i = -9 := by
        rw [k9']
        have r : pk9 B w i = -9 ∨ (0 ≤ pk9 B w i ∧ pk9 B w i < 8 ∧ ch9 B w i (pk9 B w i) = true) := pkF_rng
        rcases r with r | r
        · exact r
        · rw [nz _ r.1 r.2.1] at r; exact absurd r.2.2 (by simp)
      have p9 : kp9 B w i = B := by rw [p9']; unfold pk9M; rw [s0, if_neg (by omega)]
      unfold goM goN
      rw [if_pos (Or.inl c0), k9, if_pos rfl, p9]
      refine ⟨lost_rel h hw hc hd, ?_⟩
      rw [lo3]; simp [b2]
    · -- it goes on
      have hch : 0 < cntb (ch8 A w i) 8 := by
        unfold ch8 chS
        split
        · assumption
        · have hz := bs_zero n5.1 n5.2
          have := cntb_rng (bs (A 5 i)) 8
          have := fun f => c0 (hz.2 f)
          omega
      have sp := smv_rg (m := ch8 A w i) (v := wt8 A w i) 8 (fun k a b => wr k a b)
      have kne : ¬ pk8 A w i = -9 := by
        unfold pk8
        refine pk_some hch ?_ wr
        by_cases q : 0 < smv (ch8 A w i) (wt8 A w i) 8
        · rw [if_pos q]; exact (drw_rng q).2
        · rw [if_neg q]; omega
      have kr : pk8 A w i = -9 ∨ (0 ≤ pk8 A w i ∧ pk8 A w i < 8 ∧ ch8 A w i (pk8 A w i) = true) := pkF_rng
      have kr2 := kr.resolve_left kne
      have hl := e3 _ kr2.1 kr2.2.1 kr2.2.2
      have ls := lk8_spec rfl hl
      have l253 := h.1.2.2.2.1 i _ hi.1 hi.2 kr2.1 kr2.2.1
      have k9 : kn9 B w i = pk8 A w i := by rw [k9', ek]
      unfold goM goN
      rw [if_neg (by omega), if_neg hl, k9, if_neg kne, l253, p9']
      obtain ⟨k, hk⟩ : ∃ k, k = pk8 A w i := ⟨_, rfl⟩
      rw [← hk] at kne kr2 hl ls ⊢
      obtain ⟨l, el⟩ : ∃ l, l = lk8 A i k := ⟨_, rfl⟩
      rw [← el] at hl ls ⊢
      have b252 := (h.1.2.1 l ls.1.1 ls.1.2).2.2.2 ls.2.1
      have d4 := (h.1.1 l ls.1.1 ls.1.2).1
      have on : cnt (onB A l 0) 12 = cnt (onB9 B l 0) 12 := cnt_congr 12 (fun u u1 u2 => by
        unfold onB onB9
        by_cases q : u = w
        · rw [q, h8, ← b1.2.2.2.2.1, h8, decide_eq_false (fun f => hl f.1.symm), decide_eq_false (fun f => hl f.2.1.symm)]
        · obtain ⟨uc, ud, g1, g2, g3⟩ := h.2.2.2.2 u u1 u2 q
          rcases uc.1 with z | z
          · have := g2 z
            rw [decide_eq_false (fun f => hl (by rw [← f.1]; exact this)), decide_eq_false (by omega)]
          · obtain ⟨wb, _⟩ := g3 z
            rw [g1, z, wb.1.2.2.2.1, wb.1.2.2.2.2.1]; simp)
      have cr := cnt_rng (onB A l 0) 12
      rw [← on]
      rw [b252, ← s.2.2.1.1]
      obtain ⟨due, edue⟩ : ∃ due, due = A 0 10 + A 4 l + cnt (onB A l 0) 12 := ⟨_, rfl⟩
      rw [← edue]
      obtain ⟨P, eP⟩ : ∃ P, P = pk8M A w i := ⟨_, rfl⟩
      obtain ⟨Q, eQ⟩ : ∃ Q, Q = pk9M B w i := ⟨_, rfl⟩
      have oP : ∀ c z, ¬ c = 14 → ¬ c = 15 → P c z = A c z := fun c z q1 q2 => by rw [eP]; exact pk8M_ot q1 q2
      have oQ : ∀ c z, ¬ (c = 248 ∧ (z = 11 ∨ z = 13)) → Q c z = B c z := fun c z q => by
        rw [eQ, ← p9']; exact kp9_ot (by omega)
      have dice : P 14 0 = Q 248 11 ∧ P 14 1 = Q 248 13 := by
        rw [eP, eQ]; unfold pk8M pk9M
        rw [sm0]
        by_cases q : 0 < smv (ch9 B w i) (wt9 B w i) 8
        · rw [if_pos q, if_pos q]; unfold d8M d9M
          rw [up2_other (by omega), up2_same, up2_same, up2_other (by omega), up2_same, up2_same, putv_ne (by omega), putv_ne (by omega), s.2.2.2.2.2.2.1, s.2.2.2.2.2.2.2]
          exact ⟨rfl, rfl⟩
        · rw [if_neg q, if_neg q, putv_ne (by omega), putv_ne (by omega)]
          exact ⟨s.2.2.2.2.2.2.1, s.2.2.2.2.2.2.2⟩
      rw [← eP, ← eQ]
      obtain ⟨A2, eA2⟩ : ∃ A2, A2 = trM (up2 P (209 + 3 * w) 11 (A (209 + 3 * w) 11 + 1)) w l k due := ⟨_, rfl⟩
      obtain ⟨B2, eB2⟩ : ∃ B2, B2 = up2 (up2 (up2 (up2 Q 263 w l) 264 w k) 265 w due) 266 w (B 266 w + 1) := ⟨_, rfl⟩
      rw [← eA2, ← eB2]
      have oA : ∀ c z, ¬ c = 14 → ¬ c = 15 → ¬ (c = 209 + 3 * w ∧ (z = 8 ∨ z = 9 ∨ z = 10 ∨ z = 11)) → A2 c z = A c z := fun c z q1 q2 q => by
        rw [eA2]; unfold trM; rw [up2_other (by omega), up2_other (by omega), up2_other (by omega), up2_other (by omega)]; exact oP c z q1 q2
      have a14 : ∀ z, A2 14 z = P 14 z := fun z => by
        rw [eA2]; unfold trM; rw [up2_other (by omega), up2_other (by omega), up2_other (by omega), up2_other (by omega)]
      have a8 : A2 (209 + 3 * w) 8 = l := by rw [eA2]; unfold trM; rw [up2_other (by omega), up2_other (by omega), up2_same]
      have a9 : A2 (209 + 3 * w) 9 = k := by rw [eA2]; unfold trM; rw [up2_other (by omega), up2_same]
      have a10 : A2 (209 + 3 * w) 10 = due := by rw [eA2]; unfold trM; rw [up2_same]
      have a11 : A2 (209 + 3 * w) 11 = A (209 + 3 * w) 11 + 1 := by rw [eA2]; unfold trM; rw [up2_other (by omega), up2_other (by omega), up2_other (by omega), up2_same]
      have oB : ∀ c z, ¬ (z = w ∧ (c = 263 ∨ c = 264 ∨ c = 265 ∨ c = 266)) → ¬ (c = 248 ∧ (z = 11 ∨ z = 13)) → B2 c z = B c z := fun c z q q2 => by
        rw [eB2, up2_other (by omega), up2_other (by omega), up2_other (by omega), up2_other (by omega)]; exact oQ c z q2
      have b248 : ∀ z, B2 248 z = Q 248 z := fun z => by
        rw [eB2, up2_other (by omega), up2_other (by omega), up2_other (by omega), up2_other (by omega)]
      have y3 : B2 263 w = l := by rw [eB2, up2_other (by omega), up2_other (by omega), up2_other (by omega), up2_same]
      have y4 : B2 264 w = k := by rw [eB2, up2_other (by omega), up2_other (by omega), up2_same]
      have y5 : B2 265 w = due := by rw [eB2, up2_other (by omega), up2_same]
      have y6 : B2 266 w = B 266 w + 1 := by rw [eB2, up2_same]
      have f10 : A2 (210 + 3 * w) = A (210 + 3 * w) := funext fun z => oA _ z (by omega) (by omega) (by omega)
      have f11 : A2 (211 + 3 * w) = A (211 + 3 * w) := funext fun z => oA _ z (by omega) (by omega) (by omega)
      have z3 : A2 (209 + 3 * w) 3 = 1 := by rw [oA _ 3 (by omega) (by omega) (by omega)]; exact h3
      refine ⟨Rel_of (w := w) (RX_step h (by omega) (fun c z _ _ _ _ _ _ q1 q2 _ _ => oA c z q1 q2 (by omega)) (oA _ _ (by omega) (by omega) (by omega)) (fun c z _ _ _ _ _ _ _ _ _ => oB c z (by omega) (by omega)) ?_) ?_, ?_⟩
      · unfold RS
        rw [show A2 0 = A 0 from funext fun z => oA _ _ (by omega) (by omega) (by omega), a14, a14, b248 11, b248 13, dice.1, dice.2, oB 248 6 (by omega) (by omega), oB 248 7 (by omega) (by omega), oB 248 12 (by omega) (by omega), oB 248 14 (by omega) (by omega), oB 248 15 (by omega) (by omega), oB 248 16 (by omega) (by omega)]
        exact ⟨s.1, s.2.1, s.2.2.1, s.2.2.2.1, s.2.2.2.2.1, s.2.2.2.2.2.1, rfl, rfl⟩
      · refine ⟨⟨Or.inr z3, by rw [oA _ 4 (by omega) (by omega) (by omega)]; exact hc.2.1, by rw [a8]; exact ⟨by omega, by omega⟩, by rw [oA _ 2 (by omega) (by omega) (by omega)]; exact n8, by rw [f10]; exact hc.2.2.2.2.1, by rw [oA _ 5 (by omega) (by omega) (by omega)]; exact hc.2.2.2.2.2.1, by rw [oA _ 7 (by omega) (by omega) (by omega)]; exact hc.2.2.2.2.2.2⟩, ⟨by rw [oB 258 w (by omega) (by omega)]; exact hd.1, by rw [oB 262 w (by omega) (by omega)]; exact hd.2.1, by rw [y3]; exact ⟨by omega, by omega⟩, by rw [oB 267 w (by omega) (by omega)]; exact hd.2.2.2.1, fun j j1 j2 => by rw [oB 268 _ (by omega) (by omega)]; exact hd.2.2.2.2.1 j j1 j2, by rw [oB 259 w (by omega) (by omega)]; exact hd.2.2.2.2.2.1, by rw [oB 261 w (by omega) (by omega)]; exact hd.2.2.2.2.2.2⟩, by rw [oB 258 w (by omega) (by omega), z3, hb3], fun f => by omega, fun _ => ⟨?_, ?_⟩⟩
        · unfold WB
          rw [f10, f11, oA _ 5 (by omega) (by omega) (by omega), oA _ 6 (by omega) (by omega) (by omega), oA _ 7 (by omega) (by omega) (by omega), oA _ 4 (by omega) (by omega) (by omega), a8, a11, oA _ 2 (by omega) (by omega) (by omega), oB 259 w (by omega) (by omega), oB 260 w (by omega) (by omega), oB 261 w (by omega) (by omega), oB 262 w (by omega) (by omega), y3, y6, oB 267 w (by omega) (by omega), oA 0 10 (by omega) (by omega) (by omega)]
          refine ⟨⟨b1.1, b1.2.1, b1.2.2.1, b1.2.2.2.1, rfl, by rw [b1.2.2.2.2.2.1], b1.2.2.2.2.2.2⟩, by omega, b3, fun j j1 j2 => ?_, b5⟩
          rw [oB 268 _ (by omega) (by omega), oB 269 _ (by omega) (by omega)]
          exact b4 j j1 j2
        · unfold WE
          rw [f10, f11, a9, a10, oA _ 4 (by omega) (by omega) (by omega), oA _ 2 (by omega) (by omega) (by omega), oA _ 7 (by omega) (by omega) (by omega), y4, y5, oA 0 10 (by omega) (by omega) (by omega)]
          have tl := b4 (A (209 + 3 * w) 2 - 1) (by omega) (by omega)
          have t0 := s.2.2.1.2.1
          refine ⟨⟨rfl, rfl⟩, by omega, by omega, fun _ => ⟨hn, by omega⟩, fun f => by omega⟩
      · rw [z3]; simp [b2, kne]
end
