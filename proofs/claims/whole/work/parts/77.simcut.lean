/-! ===== cut side by side ===== -/
section
variable {M A B A1 B1 A' B' : Mem} {T T' w : Int} {E : ET} {S : SCR}
theorem laM_w {l : Int} : ∀ (k : Nat) (u z : Int), 0 ≤ u → laM A l k (209 + 3 * u) z = if u < (k : Int) ∧ A (209 + 3 * u) 8 = l then (if z = 8 then -9 else if z = 3 then 0 else A (209 + 3 * u) z) else A (209 + 3 * u) z := by
  intro k
  induction k with
  | zero => intro u z h; rw [if_neg (by omega)]; rfl
  | succ k ih =>
    intro u z h
    have e : laM A l (k + 1) = if A (209 + 3 * (k : Int)) 8 = l then up2 (up2 (up2 (laM A l k) (209 + 3 * (k : Int)) 3 0) (209 + 3 * (k : Int)) 8 (-9)) 0 12 (laM A l k 0 12 + 1) else laM A l k := rfl
    rw [e]
    by_cases c : A (209 + 3 * (k : Int)) 8 = l
    · rw [if_pos c, up2_other (by omega)]
      by_cases q : u = (k : Int)
      · rw [q, if_pos ⟨by omega, c⟩]
        by_cases z8 : z = 8
        · rw [if_pos z8, z8, up2_same]
        · rw [if_neg z8, up2_other (by omega)]
          by_cases z3 : z = 3
          · rw [if_pos z3, z3, up2_same]
          · rw [if_neg z3, up2_other (by omega), ih _ _ (by omega), if_neg (by omega)]
      · rw [up2_other (by omega), up2_other (by omega), ih u z h]
        by_cases y : u < (k : Int) ∧ A (209 + 3 * u) 8 = l
        · have y2 : u < ((k + 1 : Nat) : Int) ∧ A (209 + 3 * u) 8 = l := ⟨by omega, y.2⟩
          rw [if_pos y, if_pos y2]
        · rw [if_neg y, if_neg (by omega)]
    · rw [if_neg c, ih u z h]
      by_cases y : u < (k : Int) ∧ A (209 + 3 * u) 8 = l
      · have y2 : u < ((k + 1 : Nat) : Int) ∧ A (209 + 3 * u) 8 = l := ⟨by omega, y.2⟩
        rw [if_pos y, if_pos y2]
      · have y2 : ¬ (u < ((k + 1 : Nat) : Int) ∧ A (209 + 3 * u) 8 = l) := fun f => by
          by_cases q : u = (k : Int)
          · rw [q] at f; exact c f.2
          · exact y ⟨by omega, f.2⟩
        rw [if_neg y, if_neg y2]
theorem laM_0 {l : Int} : ∀ (k : Nat) (z : Int), laM A l k 0 z = if z = 12 then A 0 12 + laC A l k else A 0 z := by
  intro k
  induction k with
  | zero =>
    intro z
    show A 0 z = _
    by_cases q : z = 12
    · rw [if_pos q, q]; show A 0 12 = A 0 12 + 0; omega
    · rw [if_neg q]
  | succ k ih =>
    intro z
    have e : laM A l (k + 1) = if A (209 + 3 * (k : Int)) 8 = l then up2 (up2 (up2 (laM A l k) (209 + 3 * (k : Int)) 3 0) (209 + 3 * (k : Int)) 8 (-9)) 0 12 (laM A l k 0 12 + 1) else laM A l k := rfl
    have e2 : laC A l (k + 1) = if A (209 + 3 * (k : Int)) 8 = l then laC A l k + 1 else laC A l k := rfl
    rw [e, e2]
    by_cases c : A (209 + 3 * (k : Int)) 8 = l
    · rw [if_pos c, if_pos c]
      by_cases q : z = 12
      · rw [if_pos q, q, up2_same, ih, if_pos rfl]; omega
      · rw [if_neg q, up2_other (by omega), up2_other (by omega), up2_other (by omega), ih, if_neg q]
    · rw [if_neg c, if_neg c, ih]
theorem laM_ot {l : Int} : ∀ (k : Nat) (c z : Int), ¬ c = 0 → (∀ u, 0 ≤ u → u < (k : Int) → ¬ c = 209 + 3 * u) → laM A l k c z = A c z := by
  intro k
  induction k with
  | zero => intro c z _ _; rfl
  | succ k ih =>
    intro c z h0 h
    have e : laM A l (k + 1) = if A (209 + 3 * (k : Int)) 8 = l then up2 (up2 (up2 (laM A l k) (209 + 3 * (k : Int)) 3 0) (209 + 3 * (k : Int)) 8 (-9)) 0 12 (laM A l k 0 12 + 1) else laM A l k := rfl
    have hk := h (k : Int) (by omega) (by omega)
    have i1 := ih c z h0 (fun u a b => h u a (by omega))
    rw [e]
    split
    · rw [up2_other (by omega), up2_other (by omega), up2_other (by omega)]; exact i1
    · exact i1
theorem laC_cnt {l : Int} : ∀ k : Nat, laC A l k = cnt (fun u => decide (A (209 + 3 * u) 8 = l)) k := by
  intro k
  induction k with
  | zero => rfl
  | succ k ih =>
    show (if A (209 + 3 * (k : Int)) 8 = l then laC A l k + 1 else laC A l k) = (if decide (A (209 + 3 * (k : Int)) 8 = l) = true then cnt (fun u => decide (A (209 + 3 * u) 8 = l)) k + 1 else cnt (fun u => decide (A (209 + 3 * u) 8 = l)) k)
    rw [ih]
    by_cases c : A (209 + 3 * (k : Int)) 8 = l
    · rw [if_pos c, if_pos (decide_eq_true c)]
    · rw [if_neg c, if_neg (by simp [c])]
theorem l9M_8 {l : Int} : ∀ (k : Nat) (u : Int), 0 ≤ u → l9M B l k 258 u = if u < (k : Int) ∧ l9B B l u = true then 0 else B 258 u := by
  intro k
  induction k with
  | zero => intro u h; rw [if_neg (by omega)]; rfl
  | succ k ih =>
    intro u h
    have e : l9M B l (k + 1) = if l9B B l (k : Int) = true then up2 (up2 (l9M B l k) 258 (k : Int) 0) 248 15 (l9M B l k 248 15 + 1) else l9M B l k := rfl
    rw [e]
    by_cases c : l9B B l (k : Int) = true
    · rw [if_pos c, up2_other (by omega)]
      by_cases q : u = (k : Int)
      · rw [q, if_pos ⟨by omega, c⟩, up2_same]
      · rw [up2_other (by omega), ih u h]
        by_cases y : u < (k : Int) ∧ l9B B l u = true
        · rw [if_pos y, if_pos ⟨by omega, y.2⟩]
        · have y2 : ¬ (u < ((k + 1 : Nat) : Int) ∧ l9B B l u = true) := fun f => y ⟨by omega, f.2⟩
          rw [if_neg y, if_neg y2]
    · rw [if_neg c, ih u h]
      by_cases y : u < (k : Int) ∧ l9B B l u = true
      · rw [if_pos y, if_pos ⟨by omega, y.2⟩]
      · have y2 : ¬ (u < ((k + 1 : Nat) : Int) ∧ l9B B l u = true) := fun f => by
          by_cases q : u = (k : Int)
          · rw [q] at f; exact c f.2
          · exact y ⟨by omega, f.2⟩
        rw [if_neg y, if_neg y2]
theorem l9M_0 {l : Int} : ∀ (k : Nat) (z : Int), l9M B l k 248 z = if z = 15 then B 248 15 + cnt (l9B B l) k else B 248 z := by
  intro k
  induction k with
  | zero =>
    intro z
    show B 248 z = _
    by_cases q : z = 15
    · rw [if_pos q, q]; show B 248 15 = B 248 15 + 0; omega
    · rw [if_neg q]
  | succ k ih =>
    intro z
    have e : l9M B l (k + 1) = if l9B B l (k : Int) = true then up2 (up2 (l9M B l k) 258 (k : Int) 0) 248 15 (l9M B l k 248 15 + 1) else l9M B l k := rfl
    have e2 : cnt (l9B B l) (k + 1) = if l9B B l (k : Int) = true then cnt (l9B B l) k + 1 else cnt (l9B B l) k := rfl
    rw [e, e2]
    by_cases c : l9B B l (k : Int) = true
    · rw [if_pos c, if_pos c]
      by_cases q : z = 15
      · rw [if_pos q, q, up2_same, ih, if_pos rfl]; omega
      · rw [if_neg q, up2_other (by omega), up2_other (by omega), ih, if_neg q]
    · rw [if_neg c, if_neg c, ih]
theorem lk_cut {l a b : Int} (hN : RN A B) (hl : 0 ≤ l ∧ l < 16) (h4 : 0 < A 4 l) (ea : A 2 l = a) (eb : A 3 l = b) (e2 : ∀ z, A1 2 z = A 2 z) (e3 : ∀ z, A1 3 z = A 3 z) (e4 : ∀ z, A1 4 z = if z = l then 0 else A 4 z) (i k : Int) : lk8 A1 i k = if min i k = a ∧ max i k = b then -9 else lk8 A i k := by
  by_cases c : min i k = a ∧ max i k = b
  · rw [if_pos c]
    by_cases q : lk8 A1 i k = -9
    · exact q
    · exfalso
      have s := lk8_spec rfl q
      rw [e4, e2, e3] at s
      by_cases z : lk8 A1 i k = l
      · rw [if_pos z] at s; omega
      · rw [if_neg z] at s
        exact z (hN.2.2.1 _ _ s.1.1 s.1.2 hl.1 hl.2 s.2.1 h4 (by rw [s.2.2.1, ea]; exact c.1) (by rw [s.2.2.2, eb]; exact c.2))
  · rw [if_neg c]
    refine fi_congr 16 0 (fun z _ _ => ?_)
    unfold btB
    rw [e4, e2, e3]
    by_cases q : z = l
    · rw [if_pos q, q, ea, eb, decide_eq_false (fun y => by omega), decide_eq_false (fun y => c ⟨y.2.1.symm, y.2.2.symm⟩)]
    · rw [if_neg q]
theorem sim_cut {l : Int} (hl : rg l) : SIM E S 45 101 [vi l] T T := by
  intro A B0 h0
  have hC := c_cut8 (E := E) (S := S) (M := A) hl (fun a b => by have := (h0.1.1 l a (by omega)).1; exact ⟨by omega, by omega⟩) (fun a b c => by have := h0.1.1 l a (by omega); have h2 := this.2.2.2 c; omega) (Rel_CW h0).2.2.1 (fun i j a b c d => (wo_at (h0.1.2.2.2.2.1 i a b).1 (h0.1.2.2.2.2.1 i a b).2 c d).1)
  refine ⟨_, _, 6, by omega, hC, ?_, fun B h => ?_⟩
  · intro c z q
    split
    · rename_i y
      have y4 := h0.1.1 l (by omega) (by omega)
      have y5 := y4.2.2.2 y.2
      unfold ctM
      rw [srM_ot (by omega) 8 c z (by omega) (fun ⟨r, h1, h2⟩ => by omega), srM_ot (by omega) 8 c z (by omega) (fun ⟨r, h1, h2⟩ => by omega)]
      unfold paM
      rw [up2_other (by omega), up2_other (by omega), up2_other (by omega), up2_other (by omega), laM_ot 12 c z (by omega) (fun u _ _ => by omega)]
    · rfl
  · have hM := c_cut9 (E := E) (S := S) (M := B) hl (fun a b => by rw [(h.1.2.1 l a (by omega)).1]; split <;> omega) (fun a b c => by have := h.1.1 l a (by omega); have h2 := h.1.2.1 l a (by omega); rw [h2.2.1, h2.2.2.1]; omega) (Rel_MW h).1 (Rel_MW h).2.2.1 (fun z a b => L_rg (RN_L h.1 z a b))
    by_cases c : (0 ≤ l ∧ l ≤ 15) ∧ 0 < A 4 l
    · have hl' : 0 ≤ l ∧ l < 16 := by omega
      have b1 := h.1.2.1 l hl'.1 hl'.2
      rw [if_pos c.2] at b1
      have p2 : (0 ≤ l ∧ l ≤ 15) ∧ B 249 l = 1 := ⟨c.1, b1.1⟩
      rw [if_pos c, if_pos c]
      rw [if_pos p2, if_pos p2, b1.2.1, b1.2.2.1] at hM
      have a1 := h.1.1 l hl'.1 hl'.2
      have a2 := a1.2.2.2 c.2
      have on : ∀ u, 0 ≤ u → u < 12 → decide (A (209 + 3 * u) 8 = l) = l9B B l u := fun u u1 u2 => by
        obtain ⟨hc, hd, g1, g2, g3⟩ := h.2.2.2.2 u u1 u2
        unfold l9B
        rcases hc.1 with q | q
        · have := g2 q
          rw [decide_eq_false (by omega), decide_eq_false (by omega)]
        · obtain ⟨wb, _⟩ := g3 q
          rw [g1, q, wb.1.2.2.2.2.1]; simp
      have ec : laC A l 12 = cnt (l9B B l) 12 := by rw [laC_cnt]; exact cnt_congr 12 (fun u u1 u2 => on u u1 u2)
      rw [← ec] at hM
      refine ⟨_, 6, by omega, hM, ?_, ?_⟩
      · intro c z q
        rw [fgM_c (by omega) (by omega), fgM_c (by omega) (by omega)]
        unfold cuN
        rw [up2_other (by omega), up2_other (by omega), up2_other (by omega), l9M_ot (by omega) (by omega)]
      · obtain ⟨a, ea⟩ : ∃ a, a = A 2 l := ⟨_, rfl⟩
        obtain ⟨b, eb⟩ : ∃ b, b = A 3 l := ⟨_, rfl⟩
        rw [← ea, ← eb]
        rw [← ea, ← eb] at a1 a2
        obtain ⟨A1, eA1⟩ : ∃ A1, A1 = paM (laM A l 12) l := ⟨_, rfl⟩
        obtain ⟨B1, eB1⟩ : ∃ B1, B1 = cuN (l9M B l 12) l a b := ⟨_, rfl⟩
        have lo : ∀ c z, ¬ c = 0 → c < 209 → laM A l 12 c z = A c z := fun c z q1 q2 => laM_ot 12 c z q1 (fun u _ _ => by omega)
        have l2 : laM A l 12 2 l = a := by rw [lo 2 l (by omega) (by omega), ea]
        have l3 : laM A l 12 3 l = b := by rw [lo 3 l (by omega) (by omega), eb]
        have pe : paM (laM A l 12) l = up2 (up2 (up2 (up2 (laM A l 12) 4 l 0) 5 a (ian (A 5 a) (ixo (isl 1 b) (-1)))) 5 b (ian (A 5 b) (ixo (isl 1 a) (-1)))) 1 5 (A 1 5 - 1) := by
          unfold paM; rw [l2, l3, lo 5 a (by omega) (by omega), lo 5 b (by omega) (by omega), lo 1 5 (by omega) (by omega)]
        rw [pe] at eA1
        have x2 : ∀ z, A1 2 z = A 2 z := fun z => by
          rw [eA1, up2_other (by omega), up2_other (by omega), up2_other (by omega), up2_other (by omega)]; exact lo 2 z (by omega) (by omega)
        have x3 : ∀ z, A1 3 z = A 3 z := fun z => by
          rw [eA1, up2_other (by omega), up2_other (by omega), up2_other (by omega), up2_other (by omega)]; exact lo 3 z (by omega) (by omega)
        have x4 : ∀ z, A1 4 z = if z = l then 0 else A 4 z := fun z => by
          rw [eA1, up2_other (by omega), up2_other (by omega), up2_other (by omega)]
          by_cases q : z = l
          · rw [if_pos q, q, up2_same]
          · rw [if_neg q, up2_other (by omega)]; exact lo 4 z (by omega) (by omega)
        have x5 : ∀ z, A1 5 z = if z = a then ian (A 5 a) (ixo (isl 1 b) (-1)) else if z = b then ian (A 5 b) (ixo (isl 1 a) (-1)) else A 5 z := fun z => by
          rw [eA1, up2_other (by omega)]
          by_cases q : z = b
          · rw [if_neg (by omega), if_pos q, q, up2_same]
          · rw [up2_other (by omega)]
            by_cases q2 : z = a
            · rw [if_pos q2, q2, up2_same]
            · rw [if_neg q2, if_neg q, up2_other (by omega), up2_other (by omega)]; exact lo 5 z (by omega) (by omega)
        have x15 : A1 1 5 = A 1 5 - 1 := by rw [eA1, up2_same]
        have xl : ∀ c z, ¬ c = 1 → ¬ c = 4 → ¬ c = 5 → A1 c z = laM A l 12 c z := fun c z q1 q4 q5 => by
          rw [eA1, up2_other (by omega), up2_other (by omega), up2_other (by omega), up2_other (by omega)]
        have xo : ∀ c z, ¬ c = 0 → ¬ c = 1 → ¬ c = 4 → ¬ c = 5 → c < 209 → A1 c z = A c z := fun c z q0 q1 q4 q5 q6 => by
          rw [xl c z q1 q4 q5]; exact lo c z q0 q6
        have y9 : ∀ c z, ¬ (c = 249 ∧ z = l) → ¬ (c = 253 ∧ (z = 8 * a + b ∨ z = 8 * b + a)) → B1 c z = l9M B l 12 c z := fun c z q1 q5 => by
          rw [eB1]; unfold cuN
          rw [up2_other (by omega), up2_other (by omega), up2_other (by omega)]
        have yo : ∀ c z, ¬ (c = 249 ∧ z = l) → ¬ (c = 253 ∧ (z = 8 * a + b ∨ z = 8 * b + a)) → ¬ c = 258 → ¬ c = 248 → B1 c z = B c z := fun c z q1 q5 q2 q3 => by
          rw [y9 c z q1 q5]; exact l9M_ot q2 q3 12
        have yl : B1 249 l = 0 := by
          rw [eB1]; unfold cuN; rw [up2_other (by omega), up2_other (by omega), up2_same]
        have yab : B1 253 (8 * a + b) = -9 ∧ B1 253 (8 * b + a) = -9 := by
          rw [eB1]; unfold cuN
          exact ⟨by rw [up2_other (by omega), up2_same], up2_same⟩
        obtain ⟨hN, hR, hO, hS, hW⟩ := h
        have hk := lk_cut (A1 := A1) hN hl' c.2 ea.symm eb.symm x2 x3 x4
        have oa := wo_at (hN.2.2.2.2.1 a (by omega) (by omega)).1 (hN.2.2.2.2.1 a (by omega) (by omega)).2 (k := b) (by omega) (by omega)
        have ob := wo_at (hN.2.2.2.2.1 b (by omega) (by omega)).1 (hN.2.2.2.2.1 b (by omega) (by omega)).2 (k := a) (by omega) (by omega)
        have hN1 : RN A1 B1 := by
          refine ⟨fun z z1 z2 => ?_, fun z z1 z2 => ?_, fun z z' a1 a2 a3 a4 a5 a6 a7 a8 => ?_, fun i k a1 a2 a3 a4 => ?_, fun i i1 i2 => ?_, fun i k a1 a2 a3 a4 => ?_, ?_⟩
          · rw [x2, x3, x4]
            have := hN.1 z z1 z2
            by_cases q : z = l
            · rw [if_pos q]; exact ⟨by omega, this.2.1, this.2.2.1, fun y => by omega⟩
            · rw [if_neg q]; exact this
          · rw [x2, x3, x4, yo 250 z (by omega) (by omega) (by omega) (by omega), yo 251 z (by omega) (by omega) (by omega) (by omega), yo 252 z (by omega) (by omega) (by omega) (by omega)]
            have := hN.2.1 z z1 z2
            by_cases q : z = l
            · rw [if_pos q, if_neg (by omega), q, yl]
              rw [q] at this
              exact ⟨rfl, this.2.1, this.2.2.1, fun y => by omega⟩
            · rw [if_neg q, yo 249 z (by omega) (by omega) (by omega) (by omega)]
              exact this
          · rw [x4] at a5 a6
            rw [x2, x2] at a7
            rw [x3, x3] at a8
            have q : ¬ z = l := fun q => by rw [if_pos q] at a5; omega
            have q' : ¬ z' = l := fun q => by rw [if_pos q] at a6; omega
            rw [if_neg q] at a5
            rw [if_neg q'] at a6
            exact hN.2.2.1 z z' a1 a2 a3 a4 a5 a6 a7 a8
          · rw [hk]
            by_cases q : min i k = a ∧ max i k = b
            · rw [if_pos q]
              by_cases q1 : i = a
              · rw [q1, show k = b by omega]; exact yab.1
              · rw [show i = b by omega, show k = a by omega]; exact yab.2
            · rw [if_neg q, yo 253 _ (by omega) (by omega) (by omega) (by omega)]
              exact hN.2.2.2.1 i k a1 a2 a3 a4
          · rw [x5]
            split
            · exact oa.1
            · split
              · exact ob.1
              · exact hN.2.2.2.2.1 i i1 i2
          · rw [hk, x5]
            have hb0 := hN.2.2.2.2.2.1 i k a1 a2 a3 a4
            by_cases q1 : i = a
            · rw [if_pos q1, oa.2 k a3 a4]
              unfold wob
              by_cases q2 : k = b
              · rw [if_pos (by omega), q2]; simp
              · rw [if_neg (by omega)]
                rw [q1] at hb0 ⊢
                rw [hb0]; simp [q2]
            · rw [if_neg q1]
              by_cases q3 : i = b
              · rw [if_pos q3, ob.2 k a3 a4]
                unfold wob
                by_cases q2 : k = a
                · rw [if_pos (by omega), q2]; simp
                · rw [if_neg (by omega)]
                  rw [q3] at hb0 ⊢
                  rw [hb0]; simp [q2]
              · rw [if_neg q3, if_neg (by omega)]
                exact hb0
          · rw [x15, hN.2.2.2.2.2.2]
            have := cnt_one (p := fun z => decide (0 < A1 4 z)) (p' := fun z => decide (0 < A 4 z)) (l := l) hl'.1 (decide_eq_false (by rw [x4, if_pos rfl]; omega)) (decide_eq_true c.2) (fun z _ q => by rw [x4, if_neg q]) 16
            rw [if_pos (by omega)] at this
            omega
        have e5a : A1 5 a = ian (A 5 a) (ixo (isl 1 b) (-1)) := by rw [x5, if_pos rfl]
        have e5b : A1 5 b = ian (A 5 b) (ixo (isl 1 a) (-1)) := by rw [x5, if_neg (by omega), if_pos rfl]
        have z0 : ∀ z, A1 0 z = if z = 12 then A 0 12 + laC A l 12 else A 0 z := fun z => by rw [xl 0 z (by omega) (by omega) (by omega)]; exact laM_0 12 z
        have z248 : ∀ z, B1 248 z = if z = 15 then B 248 15 + cnt (l9B B l) 12 else B 248 z := fun z => by rw [y9 248 z (by omega) (by omega)]; exact l9M_0 12 z
        have key := Rel_new (T := T) (A1 := A1) (B1 := B1) (a := a) (b := b) (by omega) (by omega) (by omega) hN1 (by
          unfold RS
          rw [z0, z0, z0, z0, z0, z0, z248, z248, z248, z248, z248, z248, z248, z248, xo 14 0 (by omega) (by omega) (by omega) (by omega) (by omega), xo 14 1 (by omega) (by omega) (by omega) (by omega) (by omega)]
          obtain ⟨s1, s2, s3, s4, s5, s6, s7, s8⟩ := hS
          simp
          exact ⟨s1, s2, s3, s4, by omega, s6, s7, s8⟩) (fun u u1 u2 => by
          have hWu := hW u u1 u2
          have wA : ∀ z, A1 (209 + 3 * u) z = if A (209 + 3 * u) 8 = l then (if z = 8 then -9 else if z = 3 then 0 else A (209 + 3 * u) z) else A (209 + 3 * u) z := fun z => by
            rw [xl _ z (by omega) (by omega) (by omega), laM_w 12 u z u1]
            by_cases y : A (209 + 3 * u) 8 = l
            · rw [if_pos ⟨by omega, y⟩, if_pos y]
            · rw [if_neg (fun f => y f.2), if_neg y]
          have w10 : A1 (210 + 3 * u) = A (210 + 3 * u) := funext fun z => by rw [xl _ z (by omega) (by omega) (by omega)]; exact laM_ot 12 _ z (by omega) (fun v _ _ => by omega)
          have w11 : A1 (211 + 3 * u) = A (211 + 3 * u) := funext fun z => by rw [xl _ z (by omega) (by omega) (by omega)]; exact laM_ot 12 _ z (by omega) (fun v _ _ => by omega)
          have b8 : B1 258 u = if l9B B l u = true then 0 else B 258 u := by
            rw [y9 258 u (by omega) (by omega), l9M_8 12 u u1]
            by_cases y : l9B B l u = true
            · rw [if_pos ⟨by omega, y⟩, if_pos y]
            · rw [if_neg (fun f => y f.2), if_neg y]
          have bo : ∀ c z, 259 ≤ c → B1 c z = B c z := fun c z q => yo c z (by omega) (by omega) (by omega) (by omega)
          by_cases y : A (209 + 3 * u) 8 = l
          · have y9 : l9B B l u = true := by rw [← on u u1 u2]; exact decide_eq_true y
            rw [if_pos y9] at b8
            obtain ⟨hc, hd, g1, g2, g3⟩ := hWu
            have w3 : A1 (209 + 3 * u) 3 = 0 := by rw [wA, if_pos y, if_neg (by omega), if_pos rfl]
            have w8 : A1 (209 + 3 * u) 8 = -9 := by rw [wA, if_pos y, if_pos rfl]
            have wo : ∀ z, ¬ z = 3 → ¬ z = 8 → A1 (209 + 3 * u) z = A (209 + 3 * u) z := fun z q1 q2 => by rw [wA, if_pos y, if_neg q2, if_neg q1]
            refine ⟨⟨Or.inl w3, by rw [wo 4 (by omega) (by omega)]; exact hc.2.1, by rw [w8]; exact ⟨by omega, by omega⟩, by rw [wo 2 (by omega) (by omega)]; exact hc.2.2.2.1, by rw [w10]; exact hc.2.2.2.2.1, by rw [wo 5 (by omega) (by omega)]; exact hc.2.2.2.2.2.1, by rw [wo 7 (by omega) (by omega)]; exact hc.2.2.2.2.2.2⟩, ⟨Or.inl b8, by rw [bo 262 u (by omega)]; exact hd.2.1, by rw [bo 263 u (by omega)]; exact hd.2.2.1, by rw [bo 267 u (by omega)]; exact hd.2.2.2.1, fun j j1 j2 => by rw [bo 268 _ (by omega)]; exact hd.2.2.2.2.1 j j1 j2, by rw [bo 259 u (by omega)]; exact hd.2.2.2.2.2.1, by rw [bo 261 u (by omega)]; exact hd.2.2.2.2.2.2⟩, by rw [b8, w3], fun _ => w8, fun f => by omega⟩
          · have y9 : ¬ l9B B l u = true := by rw [← on u u1 u2]; simp [y]
            rw [if_neg y9] at b8
            refine WR_congr2 hWu (funext fun z => by rw [wA, if_neg y]) w10 w11 (by rw [z0, if_neg (by omega)]) (fun i k h1 h2 i1 i2 k1 k2 _ => ?_) (fun c c1 c2 => ?_) (fun j _ _ => ⟨bo _ _ (by omega), bo _ _ (by omega)⟩) (bo _ _ (by omega))
            · rw [hk, if_neg (fun q => y (by
                rw [← h1]
                exact lk8_is hN hl' c.2 (by rw [← ea]; exact q.1.symm) (by rw [← eb]; exact q.2.symm)))]
            · by_cases q : c = 258
              · rw [q]; exact b8
              · exact bo c u (by omega)) (fun r k r1 r2 k1 k2 => by rw [xo _ _ (by omega) (by omega) (by omega) (by omega) (by omega)]; exact ((hR r r1 r2).2.2 k k1 k2).1) (fun r j r1 r2 j1 j2 => by rw [xo _ _ (by omega) (by omega) (by omega) (by omega) (by omega), yo _ _ (by omega) (by omega) (by omega) (by omega)]; exact (hO r r1 r2).2.2 j j1 j2) (fun r r1 r2 q1 q2 => by
          have e17 : A1 (17 + 3 * r) = A (17 + 3 * r) := funext fun z => xo _ z (by omega) (by omega) (by omega) (by omega) (by omega)
          have e18 : A1 (18 + 3 * r) = A (18 + 3 * r) := funext fun z => xo _ z (by omega) (by omega) (by omega) (by omega) (by omega)
          have e19 : A1 (19 + 3 * r) = A (19 + 3 * r) := funext fun z => xo _ z (by omega) (by omega) (by omega) (by omega) (by omega)
          have e54 : B1 254 = B 254 := funext fun z => yo _ z (by omega) (by omega) (by omega) (by omega)
          have e71 : B1 271 = B 271 := funext fun z => yo _ z (by omega) (by omega) (by omega) (by omega)
          have e72 : getv B1 272 (8 * r) = getv B 272 (8 * r) := funext fun z => by unfold getv; exact yo _ _ (by omega) (by omega) (by omega) (by omega)
          have e5 : A1 5 (r / 8) = A 5 (r / 8) := by rw [x5, if_neg q1, if_neg q2]
          rw [e17, e18, e19, e54, e71, e72, e5]
          have hr := hR r r1 r2
          have ho := hO r r1 r2
          exact ⟨⟨hr.1, hr.2.1, fun k k1 k2 => (hr.2.2 k k1 k2).2⟩, ho.1, ho.2.1⟩)
        unfold ctM
        rw [pe, ← eA1, ← eB1, ← e5a, ← e5b]
        exact key
    · have p2 : ¬ ((0 ≤ l ∧ l ≤ 15) ∧ B 249 l = 1) := fun q => c (by
        have b1 := (h.1.2.1 l (by omega) (by omega)).1
        rw [q.2] at b1
        refine ⟨q.1, ?_⟩
        by_cases z : 0 < A 4 l
        · exact z
        · rw [if_neg z] at b1; omega)
      rw [if_neg c, if_neg c]
      rw [if_neg p2, if_neg p2] at hM
      exact ⟨B, 6, by omega, hM, fun _ _ _ => rfl, h⟩
end
