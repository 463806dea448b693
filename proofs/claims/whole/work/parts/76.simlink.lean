/-! ===== link side by side ===== -/
theorem cnt_one {p p' : Int → Bool} {l : Int} (h0 : 0 ≤ l) (h1 : p l = false) (h2 : p' l = true) (h3 : ∀ z, 0 ≤ z → ¬ z = l → p' z = p z) : ∀ n : Nat, cnt p' n = cnt p n + (if l < (n : Int) then 1 else 0) := by
  intro n
  induction n with
  | zero => rw [if_neg (by omega)]; rfl
  | succ n ih =>
    have e : ∀ q : Int → Bool, cnt q (n + 1) = if q (n : Int) = true then cnt q n + 1 else cnt q n := fun q => rfl
    rw [e, e, ih]
    by_cases z : (n : Int) = l
    · have a1 : p' (n : Int) = true := by rw [z]; exact h2
      have a2 : p (n : Int) = false := by rw [z]; exact h1
      have c1 : ¬ l < (n : Int) := by omega
      have c2 : l < ((n + 1 : Nat) : Int) := by omega
      rw [a1, a2, if_pos rfl, if_neg Bool.false_ne_true, if_neg c1, if_pos c2]; omega
    · rw [h3 n (by omega) z]
      by_cases y : l < (n : Int)
      · have c2 : l < ((n + 1 : Nat) : Int) := by omega
        rw [if_pos y, if_pos c2]
        by_cases x : p (n : Int) = true
        · rw [if_pos x, if_pos x]
        · rw [if_neg x, if_neg x]
      · have c2 : ¬ l < ((n + 1 : Nat) : Int) := by omega
        rw [if_neg y, if_neg c2]
        by_cases x : p (n : Int) = true
        · rw [if_pos x, if_pos x]; omega
        · rw [if_neg x, if_neg x]
section
variable {M A B A1 B1 A' B' : Mem} {T T' w : Int} {E : ET} {S : SCR}
theorem lk_new {l a b : Int} (hl : 0 ≤ l ∧ l < 16) (h0 : A 4 l = 0) (hab : lk8 A a b = -9) (e2 : ∀ z, A1 2 z = if z = l then min a b else A 2 z) (e3 : ∀ z, A1 3 z = if z = l then max a b else A 3 z) {dl : Int} (hd : 0 < dl) (e4 : ∀ z, A1 4 z = if z = l then dl else A 4 z) (i k : Int) : lk8 A1 i k = if min i k = min a b ∧ max i k = max a b then l else lk8 A i k := by
  by_cases c : min i k = min a b ∧ max i k = max a b
  · rw [if_pos c]
    have hs : ¬ lk8 A1 i k = -9 := lk8_some hl (by rw [e4, if_pos rfl]; exact hd) (by rw [e2, if_pos rfl]; exact c.1.symm) (by rw [e3, if_pos rfl]; exact c.2.symm)
    have s := lk8_spec rfl hs
    by_cases q : lk8 A1 i k = l
    · exact q
    · exfalso
      rw [e4, if_neg q, e2, if_neg q, e3, if_neg q] at s
      exact lk8_some (A := A) (i := a) (k := b) s.1 s.2.1 (by rw [s.2.2.1]; exact c.1) (by rw [s.2.2.2]; exact c.2) hab
  · rw [if_neg c]
    refine fi_congr 16 0 (fun z _ _ => ?_)
    unfold btB
    rw [e4, e2, e3]
    by_cases q : z = l
    · rw [if_pos q, if_pos q, if_pos q, q, h0, decide_eq_false (fun y => c ⟨y.2.1.symm, y.2.2.symm⟩), decide_eq_false (fun y => by omega)]
    · rw [if_neg q, if_neg q, if_neg q]
theorem sim_link {a b dl : Int} (ha : rg a) (hb : rg b) (hd : rg dl) : SIM E S 44 99 [vi a, vi b, vi dl] T T := by
  intro A B0 h0
  have hC := c_link8 (E := E) (S := S) (M := A) ha hb hd (fun z a b => by have := (h0.1.1 z a b).1; exact ⟨by omega, by omega⟩) (fun z a b => by have := (h0.1.1 z a b).2.1; exact ⟨by omega, by omega⟩) (fun z a b => by have := (h0.1.1 z a b).2.2.1; exact ⟨by omega, by omega⟩) (fun i j a b c d => (or_at (h0.1.2.2.2.2.1 i a b) ⟨c, d⟩).1)
  refine ⟨_, _, 6, by omega, hC, ?_, fun B h => ?_⟩
  · intro c z q
    split
    · rfl
    · have hans := ‹¬ _›
      have ha8 : 0 ≤ a ∧ a < 8 := by
        unfold lkA at hans
        by_cases y : (0 ≤ a ∧ a ≤ 7) ∧ (0 ≤ b ∧ b ≤ 7)
        · omega
        · rw [if_pos y] at hans; omega
      have hb8 : 0 ≤ b ∧ b < 8 := by
        unfold lkA at hans
        by_cases y : (0 ≤ a ∧ a ≤ 7) ∧ (0 ≤ b ∧ b ≤ 7)
        · omega
        · rw [if_pos y] at hans; omega
      unfold lkM
      rw [srM_ot hb8 8 c z (by omega) (fun ⟨r, h1, h2⟩ => by omega), srM_ot ha8 8 c z (by omega) (fun ⟨r, h1, h2⟩ => by omega)]
      unfold joM
      rw [up2_other (by omega), up2_other (by omega), up2_other (by omega), up2_other (by omega), up2_other (by omega), up2_other (by omega)]
  · have hM := c_link9 (E := E) (S := S) (M := B) ha hb hd (fun z a b => by rw [(h.1.2.1 z a b).1]; split <;> omega) (fun z a b => L_rg (RN_L h.1 z a b))
    have eq : fi (fun l => decide (B 249 l = 0)) 0 16 = fi (fun l => decide (A 4 l = 0)) 0 16 := fi_congr 16 0 (fun z z1 z2 => by
      have b1 := (h.1.2.1 z z1 (by omega)).1
      have b2 := (h.1.1 z z1 (by omega)).1
      by_cases q : 0 < A 4 z
      · rw [if_pos q] at b1; rw [decide_eq_false (by omega), decide_eq_false (by omega)]
      · rw [if_neg q] at b1; rw [decide_eq_true (by omega), decide_eq_true (by omega)])
    have ep : ∀ q, lkA a b dl (B 253 (8 * a + b)) q = lkA a b dl (lk8 A a b) q := fun q => by
      by_cases c : (0 ≤ a ∧ a ≤ 7) ∧ (0 ≤ b ∧ b ≤ 7)
      · rw [h.1.2.2.2.1 a b (by omega) (by omega) (by omega) (by omega)]
      · unfold lkA; rw [if_pos c, if_pos c]
    rw [eq, ep] at hM
    rw [show fi (btB A (min a b) (max a b)) 0 16 = lk8 A a b from rfl]
    obtain ⟨l, el⟩ : ∃ l, l = fi (fun l => decide (A 4 l = 0)) 0 16 := ⟨_, rfl⟩
    rw [← el] at hM ⊢
    refine ⟨_, 6, by omega, hM, ?_, ?_⟩
    · intro c z q
      split
      · rfl
      · rw [fgM_c (by omega) (by omega), fgM_c (by omega) (by omega)]
        unfold lkN
        rw [up2_other (by omega), up2_other (by omega), up2_other (by omega), up2_other (by omega), up2_other (by omega), up2_other (by omega)]
    · by_cases c : lkA a b dl (lk8 A a b) l < 0
      · rw [if_pos c, if_pos c]; exact h
      · rw [if_neg c, if_neg c]
        -- nothing was refused
        have g : ((0 ≤ a ∧ a ≤ 7) ∧ (0 ≤ b ∧ b ≤ 7)) ∧ (1 ≤ dl ∧ dl ≤ 60) ∧ ¬ a = b ∧ lk8 A a b = -9 ∧ ¬ l = -9 := by
          unfold lkA at c
          by_cases y : (0 ≤ a ∧ a ≤ 7) ∧ (0 ≤ b ∧ b ≤ 7)
          · rw [if_neg (fun f => f y)] at c
            by_cases y2 : 1 ≤ dl ∧ dl ≤ 60
            · rw [if_neg (fun f => f y2)] at c
              by_cases y3 : a = b ∨ ¬ lk8 A a b = -9
              · rw [if_pos y3] at c; omega
              · rw [if_neg y3] at c
                by_cases y4 : l = -9
                · rw [if_pos y4] at c; omega
                · exact ⟨y, y2, fun z => y3 (Or.inl z), by omega, y4⟩
            · rw [if_pos y2] at c; omega
          · rw [if_pos y] at c; omega
        obtain ⟨g1, g2, g3, g4, g5⟩ := g
        have lr := fi_rng (p := fun l => decide (A 4 l = 0)) 16 0 (by omega)
        rw [← el] at lr
        have lr2 := lr.resolve_left g5
        have hl : 0 ≤ l ∧ l < 16 := ⟨lr2.1, by have := lr2.2.1; omega⟩
        have l4 : A 4 l = 0 := of_decide_eq_true lr2.2.2
        obtain ⟨A1, eA1⟩ : ∃ A1, A1 = joM A l a b dl := ⟨_, rfl⟩
        obtain ⟨B1, eB1⟩ : ∃ B1, B1 = lkN B l a b dl := ⟨_, rfl⟩
        have x2 : ∀ z, A1 2 z = if z = l then min a b else A 2 z := fun z => by
          rw [eA1]; unfold joM
          rw [up2_other (by omega), up2_other (by omega), up2_other (by omega), up2_other (by omega), up2_other (by omega)]
          by_cases q : z = l
          · rw [if_pos q, q, up2_same]
          · rw [if_neg q, up2_other (by omega)]
        have x3 : ∀ z, A1 3 z = if z = l then max a b else A 3 z := fun z => by
          rw [eA1]; unfold joM
          rw [up2_other (by omega), up2_other (by omega), up2_other (by omega), up2_other (by omega)]
          by_cases q : z = l
          · rw [if_pos q, q, up2_same]
          · rw [if_neg q, up2_other (by omega), up2_other (by omega)]
        have x4 : ∀ z, A1 4 z = if z = l then dl else A 4 z := fun z => by
          rw [eA1]; unfold joM
          rw [up2_other (by omega), up2_other (by omega), up2_other (by omega)]
          by_cases q : z = l
          · rw [if_pos q, q, up2_same]
          · rw [if_neg q, up2_other (by omega), up2_other (by omega), up2_other (by omega)]
        have x5 : ∀ z, A1 5 z = if z = a then ior (A 5 a) (isl 1 b) else if z = b then ior (A 5 b) (isl 1 a) else A 5 z := fun z => by
          rw [eA1]; unfold joM
          rw [up2_other (by omega)]
          by_cases q : z = b
          · rw [if_neg (by omega), if_pos q, q, up2_same]
          · rw [up2_other (by omega)]
            by_cases q2 : z = a
            · rw [if_pos q2, q2, up2_same]
            · rw [if_neg q2, if_neg q, up2_other (by omega), up2_other (by omega), up2_other (by omega), up2_other (by omega)]
        have x15 : A1 1 5 = A 1 5 + 1 := by rw [eA1]; unfold joM; rw [up2_same]
        have xo : ∀ c z, ¬ c = 1 → ¬ c = 2 → ¬ c = 3 → ¬ c = 4 → ¬ c = 5 → A1 c z = A c z := fun c z q1 q2 q3 q4 q5 => by
          rw [eA1]; unfold joM
          rw [up2_other (by omega), up2_other (by omega), up2_other (by omega), up2_other (by omega), up2_other (by omega), up2_other (by omega)]
        have y9 : ∀ c z, ¬ (c = 249 ∧ z = l) → ¬ (c = 250 ∧ z = l) → ¬ (c = 251 ∧ z = l) → ¬ (c = 252 ∧ z = l) → ¬ (c = 253 ∧ (z = 8 * a + b ∨ z = 8 * b + a)) → B1 c z = B c z := fun c z q1 q2 q3 q4 q5 => by
          rw [eB1]; unfold lkN
          rw [up2_other (by omega), up2_other (by omega), up2_other (by omega), up2_other (by omega), up2_other (by omega), up2_other (by omega)]
        have yl : B1 249 l = 1 ∧ B1 250 l = min a b ∧ B1 251 l = max a b ∧ B1 252 l = dl := by
          rw [eB1]; unfold lkN
          refine ⟨by rw [up2_other (by omega), up2_other (by omega), up2_other (by omega), up2_other (by omega), up2_other (by omega), up2_same], by rw [up2_other (by omega), up2_other (by omega), up2_other (by omega), up2_other (by omega), up2_same], by rw [up2_other (by omega), up2_other (by omega), up2_other (by omega), up2_same], by rw [up2_other (by omega), up2_other (by omega), up2_same]⟩
        have yab : B1 253 (8 * a + b) = l ∧ B1 253 (8 * b + a) = l := by
          rw [eB1]; unfold lkN
          exact ⟨by rw [up2_other (by omega), up2_same], up2_same⟩
        have hk := lk_new (A := A) (A1 := A1) (a := a) (b := b) hl l4 g4 x2 x3 (by omega) x4
        obtain ⟨hN, hR, hO, hS, hW⟩ := h
        have oa := or_at (hN.2.2.2.2.1 a (by omega) (by omega)) (k := b) (by omega)
        have ob := or_at (hN.2.2.2.2.1 b (by omega) (by omega)) (k := a) (by omega)
        have r5 : ∀ i, 0 ≤ i → i < 8 → 0 ≤ A1 5 i ∧ A1 5 i < 256 := fun i i1 i2 => by
          rw [x5]
          split
          · exact oa.1
          · split
            · exact ob.1
            · exact hN.2.2.2.2.1 i i1 i2
        have hN1 : RN A1 B1 := by
          refine ⟨fun z z1 z2 => ?_, fun z z1 z2 => ?_, fun z z' a1 a2 a3 a4 a5 a6 a7 a8 => ?_, fun i k a1 a2 a3 a4 => ?_, r5, fun i k a1 a2 a3 a4 => ?_, ?_⟩
          · rw [x2, x3, x4]
            by_cases q : z = l
            · rw [if_pos q, if_pos q, if_pos q]; omega
            · rw [if_neg q, if_neg q, if_neg q]; exact hN.1 z z1 z2
          · rw [x2, x3, x4]
            by_cases q : z = l
            · rw [if_pos q, if_pos q, if_pos q, if_pos (by omega), q]
              exact ⟨yl.1, yl.2.1, yl.2.2.1, fun _ => yl.2.2.2⟩
            · rw [if_neg q, if_neg q, if_neg q, y9 249 z (by omega) (by omega) (by omega) (by omega) (by omega), y9 250 z (by omega) (by omega) (by omega) (by omega) (by omega), y9 251 z (by omega) (by omega) (by omega) (by omega) (by omega), y9 252 z (by omega) (by omega) (by omega) (by omega) (by omega)]
              exact hN.2.1 z z1 z2
          · rw [x4] at a5 a6
            rw [x2, x2] at a7
            rw [x3, x3] at a8
            by_cases q : z = l
            · by_cases q' : z' = l
              · omega
              · exfalso
                rw [if_pos q, if_neg q'] at a7 a8
                rw [if_neg q'] at a6
                exact lk8_some (A := A) (i := a) (k := b) ⟨a3, a4⟩ a6 a7.symm a8.symm g4
            · by_cases q' : z' = l
              · exfalso
                rw [if_neg q, if_pos q'] at a7 a8
                rw [if_neg q] at a5
                exact lk8_some (A := A) (i := a) (k := b) ⟨a1, a2⟩ a5 a7 a8 g4
              · rw [if_neg q, if_neg q'] at a7 a8
                rw [if_neg q] at a5
                rw [if_neg q'] at a6
                exact hN.2.2.1 z z' a1 a2 a3 a4 a5 a6 a7 a8
          · rw [hk]
            by_cases q : min i k = min a b ∧ max i k = max a b
            · rw [if_pos q]
              by_cases q1 : i = a
              · rw [q1, show k = b by omega]; exact yab.1
              · rw [show i = b by omega, show k = a by omega]; exact yab.2
            · rw [if_neg q, y9 253 _ (by omega) (by omega) (by omega) (by omega) (by omega)]
              exact hN.2.2.2.1 i k a1 a2 a3 a4
          · rw [hk, x5]
            have hb0 := hN.2.2.2.2.2.1 i k a1 a2 a3 a4
            by_cases q1 : i = a
            · rw [if_pos q1, oa.2 k a3 a4]
              by_cases q2 : k = b
              · rw [if_pos (by omega), q2]; simp; omega
              · rw [if_neg (by omega)]
                rw [q1] at hb0 ⊢
                rw [hb0]; simp [q2]
            · rw [if_neg q1]
              by_cases q3 : i = b
              · rw [if_pos q3, ob.2 k a3 a4]
                by_cases q2 : k = a
                · rw [if_pos (by omega), q2]; simp; omega
                · rw [if_neg (by omega)]
                  rw [q3] at hb0 ⊢
                  rw [hb0]; simp [q2]
              · rw [if_neg q3, if_neg (by omega)]
                exact hb0
          · rw [x15, hN.2.2.2.2.2.2]
            have := cnt_one (p := fun z => decide (0 < A 4 z)) (p' := fun z => decide (0 < A1 4 z)) (l := l) hl.1 (decide_eq_false (by omega)) (decide_eq_true (by rw [x4, if_pos rfl]; omega)) (fun z _ q => by rw [x4, if_neg q]) 16
            rw [if_pos (by omega)] at this
            omega
        have e5a : A1 5 a = ior (A 5 a) (isl 1 b) := by rw [x5, if_pos rfl]
        have e5b : A1 5 b = ior (A 5 b) (isl 1 a) := by rw [x5, if_neg (by omega), if_pos rfl]
        have key := Rel_new (T := T) (A1 := A1) (B1 := B1) (a := a) (b := b) (by omega) (by omega) g3 hN1 (by
          unfold RS
          rw [show A1 0 = A 0 from funext fun z => xo 0 z (by omega) (by omega) (by omega) (by omega) (by omega), show A1 14 = A 14 from funext fun z => xo 14 z (by omega) (by omega) (by omega) (by omega) (by omega), show B1 248 = B 248 from funext fun z => y9 248 z (by omega) (by omega) (by omega) (by omega) (by omega)]
          exact hS) (fun u u1 u2 => by
          refine WR_congr2 (hW u u1 u2) (funext fun z => xo _ z (by omega) (by omega) (by omega) (by omega) (by omega)) (funext fun z => xo _ z (by omega) (by omega) (by omega) (by omega) (by omega)) (funext fun z => xo _ z (by omega) (by omega) (by omega) (by omega) (by omega)) (xo _ _ (by omega) (by omega) (by omega) (by omega) (by omega)) (fun i k h1 h2 i1 i2 k1 k2 _ => ?_) (fun c _ _ => y9 _ _ (by omega) (by omega) (by omega) (by omega) (by omega)) (fun j _ _ => ⟨y9 _ _ (by omega) (by omega) (by omega) (by omega) (by omega), y9 _ _ (by omega) (by omega) (by omega) (by omega) (by omega)⟩) (y9 _ _ (by omega) (by omega) (by omega) (by omega) (by omega))
          rw [hk, if_neg (fun q => h2 (by
            rw [← h1]
            unfold lk8 at g4 ⊢
            rw [q.1, q.2]; exact g4))]) (fun r k r1 r2 k1 k2 => by rw [xo _ _ (by omega) (by omega) (by omega) (by omega) (by omega)]; exact ((hR r r1 r2).2.2 k k1 k2).1) (fun r j r1 r2 j1 j2 => by rw [xo _ _ (by omega) (by omega) (by omega) (by omega) (by omega), y9 _ _ (by omega) (by omega) (by omega) (by omega) (by omega)]; exact (hO r r1 r2).2.2 j j1 j2) (fun r r1 r2 q1 q2 => by
          have e17 : A1 (17 + 3 * r) = A (17 + 3 * r) := funext fun z => xo _ z (by omega) (by omega) (by omega) (by omega) (by omega)
          have e18 : A1 (18 + 3 * r) = A (18 + 3 * r) := funext fun z => xo _ z (by omega) (by omega) (by omega) (by omega) (by omega)
          have e19 : A1 (19 + 3 * r) = A (19 + 3 * r) := funext fun z => xo _ z (by omega) (by omega) (by omega) (by omega) (by omega)
          have e54 : B1 254 = B 254 := funext fun z => y9 _ z (by omega) (by omega) (by omega) (by omega) (by omega)
          have e71 : B1 271 = B 271 := funext fun z => y9 _ z (by omega) (by omega) (by omega) (by omega) (by omega)
          have e72 : getv B1 272 (8 * r) = getv B 272 (8 * r) := funext fun z => by unfold getv; exact y9 _ _ (by omega) (by omega) (by omega) (by omega) (by omega)
          have e5 : A1 5 (r / 8) = A 5 (r / 8) := by rw [x5, if_neg q1, if_neg q2]
          rw [e17, e18, e19, e54, e71, e72, e5]
          have hr := hR r r1 r2
          have ho := hO r r1 r2
          exact ⟨⟨hr.1, hr.2.1, fun k k1 k2 => (hr.2.2 k k1 k2).2⟩, ho.1, ho.2.1⟩)
        unfold lkM
        rw [← eA1, ← eB1, ← e5a, ← e5b]
        exact key
end
