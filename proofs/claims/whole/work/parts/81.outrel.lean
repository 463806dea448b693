/-! ===== coming out side by side ===== -/
theorem inj_cnt {v : Vec} : ∀ n : Nat, (∀ j, 0 ≤ j → j < (n : Int) → 0 ≤ v j ∧ v j < 8) → (∀ j j', 0 ≤ j → j < j' → j' < (n : Int) → ¬ v j = v j') → (n : Int) ≤ cntb (bs (rsN v n)) 8 := by
  intro n
  induction n with
  | zero => intro _ _; have := cntb_rng (bs (rsN v 0)) 8; omega
  | succ n ih =>
    intro h1 h2
    have i1 := ih (fun j a b => h1 j a (by omega)) (fun j j' a b c => h2 j j' a b (by omega))
    have hf : bs (rsN v n) (v (n : Int)) = false := by
      have hn := h1 n (by omega) (by omega)
      by_cases q : bs (rsN v n) (v (n : Int)) = true
      · obtain ⟨j, j1, j2⟩ := ((rsN_ok n (fun j a b => h1 j a (by omega))).2 _ hn.1 hn.2).1 q
        exact absurd j2 (h2 j n j1.1 j1.2 (by omega))
      · simpa using q
    have := rsN_cnt (v := v) (n := n) (fun j a b => h1 j a (by omega)) hf
    omega
theorem inj_le {v : Vec} {n : Nat} (h1 : ∀ j, 0 ≤ j → j < (n : Int) → 0 ≤ v j ∧ v j < 8) (h2 : ∀ j j', 0 ≤ j → j < j' → j' < (n : Int) → ¬ v j = v j') : n ≤ 8 := by
  have := inj_cnt n h1 h2
  have r := cntb_rng (bs (rsN v n)) 8
  omega
section
variable {A B : Mem} {T w : Int} {E : ET} {S : SCR}
theorem out_rel (h : Rel T A B) (hw : 0 ≤ w ∧ w < 12) (h3 : A (209 + 3 * w) 3 = 1) (h4 : A (209 + 3 * w) 4 = 0) (hdue : A (209 + 3 * w) 10 = A 0 10) :
    (A (209 + 3 * w) 9 = A (209 + 3 * w) 7 → 2 ≤ coA A w (209 + 3 * w) 2) ∧ (coR B w = -9 → B 267 w < 8) ∧ (B 264 w = B 261 w → 2 ≤ coB B w 267 w) ∧ Rel T (coM A w) (coN B w) := by
  obtain ⟨hc, hd, g1, g2, g3⟩ := h.2.2.2.2 w hw.1 hw.2
  obtain ⟨⟨b1, bb, b3, b4, b5⟩, ⟨e1, e2, e3, e4, e5⟩⟩ := g3 h3
  have e4' := e4 h4
  have n8 := hc.2.2.2.1
  have hv := hc.2.2.2.2.1
  have hCW := Rel_CW h
  have hMW := Rel_MW h
  have tm := h.2.2.2.1.2.2.1
  have nEq := b1.2.2.2.2.2.2
  have toE := e1.1
  -- the place in the memory is the same
  have qE : coQ A w = coR B w := by
    unfold coQ coR
    rw [← nEq, ← toE]
    exact fi_congr _ 0 (fun j a b => by rw [(b4 j a (by omega)).1])
  have qr := coQ_rng (M := A) (w := w)
  have none : coQ A w = -9 → ∀ j, 0 ≤ j → j < A (209 + 3 * w) 2 → ¬ A (210 + 3 * w) j = A (209 + 3 * w) 9 := fun q j a b => by
    have := fi_none _ 0 (by omega) q j a (by omega)
    exact of_decide_eq_false this
  have lt8 : coQ A w = -9 → A (209 + 3 * w) 2 < 8 := fun q => by
    have := inj_le (v := upv (A (210 + 3 * w)) (A (209 + 3 * w) 2) (A (209 + 3 * w) 9)) (n := (A (209 + 3 * w) 2).toNat + 1) (fun j a b => by
      by_cases z : j = A (209 + 3 * w) 2
      · rw [z, upv_eq]; omega
      · rw [upv_ne z]; have := hv j a (by omega); omega) (fun j j' a b c => by
      by_cases z : j' = A (209 + 3 * w) 2
      · rw [z, upv_eq, upv_ne (by omega)]; exact none q j a (by omega)
      · rw [upv_ne z, upv_ne (by omega)]; exact (b5 j j' a b (by omega)).1)
    omega
  have lt8B : coR B w = -9 → B 267 w < 8 := fun q => by rw [← qE] at q; rw [← nEq]; exact lt8 q
  have nA : coA A w (209 + 3 * w) 2 = if coQ A w = -9 then A (209 + 3 * w) 2 + 1 else coQ A w + 1 := by
    rw [coA_n n8]
    by_cases q : coQ A w = -9
    · rw [if_pos q, if_pos q]; have := lt8 q; omega
    · rw [if_neg q, if_neg q]
  have nB : coB B w 267 w = coA A w (209 + 3 * w) 2 := by rw [coB_n, nA, qE, nEq]
  have aim : A (209 + 3 * w) 9 = A (209 + 3 * w) 7 → coQ A w = -9 := fun q => by
    rcases qr with z | z
    · exact z
    · exact absurd (by rw [z.2.2]; exact q) (e4'.1 _ z.1 (by omega))
  have two : A (209 + 3 * w) 9 = A (209 + 3 * w) 7 → 2 ≤ coA A w (209 + 3 * w) 2 := fun q => by rw [nA, if_pos (aim q)]; omega
  have hCA := CW_coA hCW hw e2
  have hMB := MW_coB hMW hw (by rw [← toE]; exact e2) lt8B
  have oA : ∀ c z, ¬ (209 + 3 * w ≤ c ∧ c ≤ 211 + 3 * w) ∨ (c = 209 + 3 * w ∧ ¬ z = 8 ∧ ¬ z = 2) → coA A w c z = A c z := fun c z q => coA_ot hw q
  have oB : ∀ c z, ¬ (z = w ∧ (c = 263 ∨ c = 267)) → ¬ ((c = 268 ∨ c = 269) ∧ 8 * w ≤ z ∧ z < 8 * w + 8) → coB B w c z = B c z := fun c z q1 q2 => by
    by_cases y : c = 268 ∨ c = 269
    · refine coB_v y (fun f => ?_)
      have := lt8B f.1
      have := hd.2.2.2.1
      omega
    · exact coB_ot (by omega)
  -- the memories
  have mem : ∀ j, 0 ≤ j → j < coA A w (209 + 3 * w) 2 → (coA A w (210 + 3 * w) j = coB B w 268 (8 * w + j) ∧ coA A w (211 + 3 * w) j = coB B w 269 (8 * w + j) ∧ 0 ≤ coA A w (211 + 3 * w) j ∧ coA A w (211 + 3 * w) j ≤ A 0 10) ∧ (j < A (209 + 3 * w) 2 → coA A w (210 + 3 * w) j = A (210 + 3 * w) j ∧ coA A w (211 + 3 * w) j = A (211 + 3 * w) j) ∧ (¬ j < A (209 + 3 * w) 2 → coQ A w = -9 ∧ j = A (209 + 3 * w) 2 ∧ coA A w (210 + 3 * w) j = A (209 + 3 * w) 9 ∧ coA A w (211 + 3 * w) j = A 0 10) := by
    intro j a b
    rw [nA] at b
    by_cases z : j < A (209 + 3 * w) 2
    · have y1 := coA_v (M := A) (w := w) (j := j) (by omega)
      have y2 := coB_v (M := B) (w := w) (c := 268) (z := 8 * w + j) (Or.inl rfl) (by omega)
      have y3 := coB_v (M := B) (w := w) (c := 269) (z := 8 * w + j) (Or.inr rfl) (by omega)
      have y4 := b4 j a z
      rw [y1.1, y1.2, y2, y3]
      exact ⟨y4, fun _ => ⟨rfl, rfl⟩, fun f => absurd z f⟩
    · have q : coQ A w = -9 := by
        by_cases q : coQ A w = -9
        · exact q
        · rw [if_neg q] at b; omega
      rw [if_pos q] at b
      have ej : j = A (209 + 3 * w) 2 := by omega
      have y1 := coA_new (M := A) (w := w) q (lt8 q)
      have y2 := coB_new (M := B) (w := w) (by rw [← qE]; exact q)
      rw [← nEq] at y2
      rw [ej, y1.1, y1.2, y2.1, y2.2]
      exact ⟨⟨toE, tm.1, by omega, by omega⟩, fun f => absurd f (by omega), fun _ => ⟨q, rfl, rfl, rfl⟩⟩
  have last : A (211 + 3 * w) (A (209 + 3 * w) 2 - 1) < A 0 10 := by have := e4'.2; omega
  have rise : ∀ j j', 0 ≤ j → j < j' → j' < coA A w (209 + 3 * w) 2 → ¬ coA A w (210 + 3 * w) j = coA A w (210 + 3 * w) j' ∧ coA A w (211 + 3 * w) j < coA A w (211 + 3 * w) j' := by
    intro j j' a b c
    have m1 := mem j a (by omega)
    have m2 := mem j' (by omega) c
    by_cases z : j' < A (209 + 3 * w) 2
    · rw [(m1.2.1 (by omega)).1, (m1.2.1 (by omega)).2, (m2.2.1 z).1, (m2.2.1 z).2]
      exact b5 j j' a b z
    · obtain ⟨q, ej, y1, y2⟩ := m2.2.2 z
      rw [(m1.2.1 (by omega)).1, (m1.2.1 (by omega)).2, y1, y2]
      refine ⟨none q j a (by omega), ?_⟩
      by_cases x : j = A (209 + 3 * w) 2 - 1
      · rw [x]; exact last
      · have := (b5 j (A (209 + 3 * w) 2 - 1) a (by omega) (by omega)).2
        omega
  have nA1 : 1 ≤ coA A w (209 + 3 * w) 2 := by rw [nA]; split <;> omega
  have nA8 : coA A w (209 + 3 * w) 2 ≤ 8 := by
    rw [nA]
    split
    · rename_i q; have := lt8 q; omega
    · omega
  have a8 := coA_8 (M := A) (w := w)
  have y8 := coB_8 (M := B) (w := w)
  have hbw : B 258 w = 1 := by rw [g1, h3]
  have hRX : RX T (coA A w) (coB B w) w := by
    refine RX_step (Rel_w (w := w) h) (by omega) (fun c z _ _ _ _ _ _ _ _ _ q => oA c z (Or.inl q)) (oA _ _ (by omega)) (fun c z _ q1 q2 _ _ _ _ _ _ => oB c z (by omega) (by omega)) ?_
    unfold RS
    rw [show coA A w 0 = A 0 from funext fun z => oA _ _ (by omega), show coA A w 14 = A 14 from funext fun z => oA _ _ (by omega), show coB B w 248 = B 248 from funext fun z => oB _ _ (by omega) (by omega)]
    exact h.2.2.2.1
  have hWB : WB (coA A w) (coB B w) w := by
    unfold WB
    rw [oA _ 5 (by omega), oA _ 6 (by omega), oA _ 7 (by omega), oA _ 4 (by omega), a8, oA _ 11 (by omega), oB 259 w (by omega) (by omega), oB 260 w (by omega) (by omega), oB 261 w (by omega) (by omega), oB 262 w (by omega) (by omega), y8, oB 266 w (by omega) (by omega), nB, oA 0 10 (by omega)]
    exact ⟨⟨b1.1, b1.2.1, b1.2.2.1, b1.2.2.2.1, rfl, b1.2.2.2.2.2.1, rfl⟩, bb, nA1, fun j a b => (mem j a b).1, rise⟩
  have hWC : WC (coA A w) w := ⟨hCA.1 w hw.1 hw.2, hCA.2.1 w hw.1 hw.2, hCA.2.2.1 w hw.1 hw.2, hCA.2.2.2.2.2.2.2.2.1 w hw.1 hw.2, fun j a b => hCA.2.2.2.2.2.2.2.2.2.1 w j hw.1 hw.2 a b, hCA.2.2.2.2.2.2.2.2.2.2.1 w hw.1 hw.2, hCA.2.2.2.2.2.2.2.2.2.2.2 w hw.1 hw.2⟩
  have hWD : WD (coB B w) w := ⟨hMB.1 w hw.1 hw.2, hMB.2.1 w hw.1 hw.2, hMB.2.2.1 w hw.1 hw.2, hMB.2.2.2.2.2.1 w hw.1 hw.2, fun j a b => hMB.2.2.2.2.2.2.1 (8 * w + j) (by omega) (by omega), hMB.2.2.2.2.2.2.2.1 w hw.1 hw.2, hMB.2.2.2.2.2.2.2.2 w hw.1 hw.2⟩
  refine ⟨two, lt8B, fun q => by rw [nB]; exact two (by rw [toE, q, b1.2.2.1]), ?_⟩
  unfold coM coN
  rw [← toE, ← b1.2.2.1]
  by_cases c : A (209 + 3 * w) 9 = A (209 + 3 * w) 7
  · rw [if_pos c, if_pos c]
    have n2 := two c
    have tA : ∀ c z, ¬ (c = 209 + 3 * w ∧ (z = 4 ∨ z = 12)) → coT A w c z = coA A w c z := fun c z q => by
      unfold coT; rw [up2_other (by omega), up2_other (by omega)]
    have tB : ∀ c z, ¬ (z = w ∧ (c = 262 ∨ c = 270)) → coU B w c z = coB B w c z := fun c z q => by
      unfold coU; rw [up2_other (by omega), up2_other (by omega)]
    have t4 : coT A w (209 + 3 * w) 4 = 1 := by unfold coT; rw [up2_other (by omega), up2_same]
    have t12 : coT A w (209 + 3 * w) 12 = coA A w (209 + 3 * w) 2 - 1 := by unfold coT; rw [up2_same]
    have u4 : coU B w 262 w = 1 := by unfold coU; rw [up2_other (by omega), up2_same]
    have u12 : coU B w 270 w = coB B w 267 w - 1 := by unfold coU; rw [up2_same]
    have f10 : coT A w (210 + 3 * w) = coA A w (210 + 3 * w) := funext fun z => tA _ z (by omega)
    have f11 : coT A w (211 + 3 * w) = coA A w (211 + 3 * w) := funext fun z => tA _ z (by omega)
    refine back_rel ?_ hw ?_ ?_ (by rw [tA _ 3 (by omega), oA _ 3 (by omega)]; exact h3) (by rw [tB 258 w (by omega), oB 258 w (by omega) (by omega)]; exact hbw) ?_ t4 (by rw [u12, t12, nB]) (by rw [t12, tA _ 2 (by omega)]; omega)
    · refine RX_step hRX (by omega) (fun c z _ _ _ _ _ _ _ _ _ q => tA c z (by omega)) (tA _ _ (by omega)) (fun c z _ q1 q2 q3 _ _ _ _ _ => tB c z (by omega)) ?_
      unfold RS
      rw [show coT A w 0 = coA A w 0 from funext fun z => tA _ _ (by omega), show coT A w 14 = coA A w 14 from funext fun z => tA _ _ (by omega), show coU B w 248 = coB B w 248 from funext fun z => tB _ _ (by omega)]
      exact hRX.2.2.2.1
    · refine ⟨by rw [tA _ 3 (by omega)]; exact hWC.1, Or.inr t4, by rw [tA _ 8 (by omega)]; exact hWC.2.2.1, by rw [tA _ 2 (by omega)]; exact hWC.2.2.2.1, by rw [f10]; exact hWC.2.2.2.2.1, by rw [tA _ 5 (by omega)]; exact hWC.2.2.2.2.2.1, by rw [tA _ 7 (by omega)]; exact hWC.2.2.2.2.2.2⟩
    · refine ⟨by rw [tB 258 w (by omega)]; exact hWD.1, Or.inr u4, by rw [tB 263 w (by omega)]; exact hWD.2.2.1, by rw [tB 267 w (by omega)]; exact hWD.2.2.2.1, fun j a b => by rw [tB 268 _ (by omega)]; exact hWD.2.2.2.2.1 j a b, by rw [tB 259 w (by omega)]; exact hWD.2.2.2.2.2.1, by rw [tB 261 w (by omega)]; exact hWD.2.2.2.2.2.2⟩
    · obtain ⟨x1, x2, x3, x4, x5⟩ := hWB
      unfold WB
      rw [f10, f11, tA _ 5 (by omega), tA _ 6 (by omega), tA _ 7 (by omega), t4, tA _ 8 (by omega), tA _ 11 (by omega), tA _ 2 (by omega), tB 259 w (by omega), tB 260 w (by omega), tB 261 w (by omega), u4, tB 263 w (by omega), tB 266 w (by omega), tB 267 w (by omega), tA 0 10 (by omega)]
      refine ⟨⟨x1.1, x1.2.1, x1.2.2.1, rfl, x1.2.2.2.2.1, x1.2.2.2.2.2.1, x1.2.2.2.2.2.2⟩, x2, x3, fun j a b => ?_, x5⟩
      rw [tB 268 _ (by omega), tB 269 _ (by omega)]
      exact x4 j a b
  · rw [if_neg c, if_neg c]
    refine (go_rel hRX hw hCA hMB hWC hWD (by rw [oA _ 3 (by omega)]; exact h3) (by rw [oB 258 w (by omega) (by omega)]; exact hbw) hWB (by rw [oA _ 4 (by omega)]; exact h4) a8 (fun j a b => ?_) (by omega)).1
    rw [oA _ 7 (by omega)]
    have m := mem j a b
    by_cases z : j < A (209 + 3 * w) 2
    · rw [(m.2.1 z).1]; exact e4'.1 j a z
    · rw [(m.2.2 z).2.2.1]; exact c
end
