/-! ===== calls side by side: shortest, right, delay ===== -/
section
variable {A B A' B' : Mem} {T T' w : Int} {E : ET} {S : SCR}
theorem w9_eq (h : RN A B) {i k : Int} (hi : 0 ≤ i ∧ i < 8) (hk : 0 ≤ k ∧ k < 8) : w9 B i k = if i = k then 0 else if lk8 A i k = -9 then 1000000 else A 4 (lk8 A i k) := by
  unfold w9 in9
  rw [h.2.2.2.1 i k hi.1 hi.2 hk.1 hk.2]
  by_cases q : i = k
  · rw [if_pos (by omega), if_pos q]
  · rw [if_neg (by omega), if_neg q]
    by_cases z : lk8 A i k = -9
    · rw [if_pos z, if_pos z]
    · have s := lk8_spec rfl z
      rw [if_neg z, if_neg z, (h.2.1 _ s.1.1 s.1.2).2.2.2 s.2.1]
theorem w9_WM (h : RN A B) : WM (w9 B) := by
  intro i k a b c d
  refine ⟨by rw [w9_eq h ⟨a, b⟩ ⟨a, b⟩, if_pos rfl], fun q => ?_, ?_⟩
  · rw [w9_eq h ⟨a, b⟩ ⟨c, d⟩, if_neg q]
    by_cases z : lk8 A i k = -9
    · rw [if_pos z]; exact Or.inr rfl
    · have s := lk8_spec rfl z
      have := (h.1 _ s.1.1 s.1.2).1
      rw [if_neg z]
      exact Or.inl ⟨by omega, by omega⟩
  · rw [w9_eq h ⟨a, b⟩ ⟨c, d⟩, w9_eq h ⟨c, d⟩ ⟨a, b⟩, lk8_comm (i := k) (k := i)]
    by_cases q : i = k
    · rw [if_pos q, if_pos q.symm]
    · have q' : ¬ k = i := fun z => q z.symm
      rw [if_neg q, if_neg q']
theorem far_eq (h : RN A B) {i t : Int} (hi : 0 ≤ i ∧ i < 8) (ht : 0 ≤ t ∧ t < 8) : bfN (A 2) (A 3) (A 4) t 7 i = if fw (w9 B) 8 i t < 1000000 then fw (w9 B) 8 i t else -9 := by
  have hw := w9_WM h
  obtain ⟨fa, fb, fc, fd, fe, ff⟩ := fw_ok hw 8 (by omega)
  have e16 : (60 : Int) * 2 ^ 8 = 15360 := by decide
  have lw : ∀ l, 0 ≤ l → l < 16 → 0 < A 4 l → w9 B (A 2 l) (A 3 l) = A 4 l ∧ w9 B (A 3 l) (A 2 l) = A 4 l := fun l a b c => by
    have hl := h.1 l a b
    have h23 := hl.2.2.2 c
    have e1 : lk8 A (A 2 l) (A 3 l) = l := lk8_is h ⟨a, b⟩ c (by omega) (by omega)
    have e2 : w9 B (A 2 l) (A 3 l) = A 4 l := by
      rw [w9_eq h (by omega) (by omega), if_neg (by omega), if_neg (by omega), e1]
    refine ⟨e2, ?_⟩
    rw [← e2]
    exact (hw (A 3 l) (A 2 l) (by omega) (by omega) (by omega) (by omega)).2.2
  refine bf_right (D := fun i => fw (w9 B) 8 i t) ht ?_ ?_ ?_ hi
  · intro i a b
    have := fb i t a b ht.1 ht.2
    have := fc i t a b ht.1 ht.2
    dsimp only
    omega
  · intro l a b c
    have hl := h.1 l a b
    have w1 := lw l a b c
    have t1 := fd (A 2 l) t (A 3 l) (by omega) (by omega) ht.1 ht.2 (by omega) (by omega)
    have t2 := fd (A 3 l) t (A 2 l) (by omega) (by omega) ht.1 ht.2 (by omega) (by omega)
    have u1 := fe (A 2 l) (A 3 l) (by omega) (by omega) (by omega) (by omega)
    have u2 := fe (A 3 l) (A 2 l) (by omega) (by omega) (by omega) (by omega)
    dsimp only
    omega
  · refine ⟨fa t ht.1 ht.2, fun i a b q z => ?_⟩
    obtain ⟨k, k1, k2, k3⟩ := ff i t a b ht.1 ht.2 q z
    rw [w9_eq h ⟨a, b⟩ (by omega), if_neg (by omega)] at k2 k3
    have hn : ¬ lk8 A i k = -9 := fun y => by rw [if_pos y] at k2; omega
    rw [if_neg hn] at k3
    have s := lk8_spec rfl hn
    refine ⟨k, lk8 A i k, by omega, s.1, s.2.1, ?_, k3⟩
    omega
theorem sim_shortest {i t : Int} (hi : rg i) (ht : rg t) : SIM E S 62 141 [vi i, vi t] T T := by
  refine SIM_q (d1 := 4) (d2 := 4) (FA := fun A => if shR i t = 0 then putv A 6 0 (bfN (A 2) (A 3) (A 4) t 7) else A) (FB := fun B => if shR i t = 0 then p64 B (ff9 B 8) else B) (by omega) (by omega) (fun A B h => c_shortest8 hi ht (RN_LO h.1)) (fun A B h => c_shortest9 hi ht (RN_L h.1) (w9_WM h.1)) (fun A B h => ?_) (fun A c z q _ _ _ _ _ => ?_) (fun B c z _ _ _ _ q => ?_)
  · by_cases c : shR i t = 0
    · obtain ⟨c1, c2⟩ := shR_0 c
      rw [if_pos c, if_pos c, far_eq h.1 (by omega) (by omega)]
    · rw [if_neg c, if_neg c]
  · split
    · exact putv_ne q
    · rfl
  · split
    · exact p64_ne q
    · rfl
theorem sm_add {f : Int → Int} : ∀ (n m : Nat), sm f (n + m) = sm f n + sm (fun k => f ((n : Int) + k)) m := by
  intro n m
  induction m with
  | zero => show sm f n = sm f n + 0; omega
  | succ m ih =>
    show sm f (n + m) + f ((n + m : Nat) : Int) = sm f n + (sm (fun k => f ((n : Int) + k)) m + f ((n : Int) + (m : Int)))
    rw [ih, show ((n + m : Nat) : Int) = (n : Int) + (m : Int) by omega]
    omega
theorem sm_sum {f g : Int → Int} : ∀ n : Nat, sm (fun k => f k + g k) n = sm f n + sm g n := by
  intro n
  induction n with
  | zero => show (0 : Int) = 0 + 0; omega
  | succ n ih => unfold sm; rw [ih]; omega
theorem sm_zero : ∀ n : Nat, sm (fun _ => 0) n = 0 := by
  intro n
  induction n with
  | zero => rfl
  | succ n ih => unfold sm; rw [ih]; omega
theorem sm_swap {f : Int → Int → Int} : ∀ n m : Nat, sm (fun a => sm (fun b => f a b) m) n = sm (fun b => sm (fun a => f a b) n) m := by
  intro n
  induction n with
  | zero => intro m; show 0 = sm (fun b => 0) m; rw [sm_zero]
  | succ n ih =>
    intro m
    show sm (fun a => sm (fun b => f a b) m) n + sm (fun b => f (n : Int) b) m = sm (fun b => sm (fun a => f a b) n + f (n : Int) b) m
    rw [ih m, sm_sum]
theorem sm_64 {f : Int → Int} : sm f 64 = sm (fun i => sm (fun d => f (8 * i + d)) 8) 8 := by
  have key : ∀ n : Nat, sm f (8 * n) = sm (fun i => sm (fun d => f (8 * i + d)) 8) n := by
    intro n
    induction n with
    | zero => rfl
    | succ n ih =>
      rw [show 8 * (n + 1) = 8 * n + 8 by omega, sm_add, ih]
      show _ = sm (fun i => sm (fun d => f (8 * i + d)) 8) n + sm (fun d => f (8 * (n : Int) + d)) 8
      rw [show ((8 * n : Nat) : Int) = 8 * (n : Int) by omega]
  exact key 8
theorem sim_right : SIM E S 63 142 [] T T := by
  refine SIM_q (d1 := 5) (d2 := 3) (FA := fun A => putv A 6 0 (gK A 8)) (FB := fun B => p64 B (ff9 B 8)) (by omega) (by omega) (fun A B h => c_right8 (RN_LO h.1) (fun r a b => by rw [(h.2.1 r a b).1]; exact h.1.2.2.2.2.1 _ (by omega) (by omega)) (fun r k a b c d => ((h.2.1 r a b).2.2 k c d).1)) (fun A B h => c_right9 (fun i a b => by rw [h.1.2.2.2.1 i i a b a b]; exact lk8_self h.1) (RN_L h.1) (w9_WM h.1) (Rel_MW h).2.2.2.2.1) (fun A B h => ?_) (fun A c z q _ _ _ _ _ => putv_ne q) (fun B c z _ _ _ _ q => p64_ne q)
  rw [sm_64, sm_swap]
  refine sm_congr 8 (fun i i1 i2 => sm_congr 8 (fun d d1 d2 => ?_))
  have i2' : i < 8 := i2
  have d2' : d < 8 := d2
  have hw := w9_WM h.1
  obtain ⟨fa, fb, fc, fd, fe, ff⟩ := fw_ok hw 8 (by omega)
  have e16 : (60 : Int) * 2 ^ 8 = 15360 := by decide
  unfold rt8 rt9
  rw [show (8 * i + d) / 8 = i by omega, show (8 * i + d) % 8 = d by omega]
  by_cases c : i = d
  · rw [if_pos c, if_pos c]
  · rw [if_neg c, if_neg c]
    have eF : ff9 B 8 (8 * i + d) = fw (w9 B) 8 i d := by
      unfold ff9; rw [show (8 * i + d) / 8 = i by omega, show (8 * i + d) % 8 = d by omega]
    have ek : grF (bs (A (17 + 3 * (i * 8 + d)) 2)) (A (18 + 3 * (i * 8 + d))) 8 = kk9 B (8 * i + d) := by
      have := nx_eq h (t := d) (x := i) ⟨d1, d2'⟩ ⟨i1, i2'⟩
      unfold nx8 nx9 at this
      rw [this]; unfold kk9
      rw [show (8 * i + d) / 8 = i by omega]
    rw [ek, eF]
    have fi := far_eq h.1 (i := i) (t := d) ⟨i1, i2'⟩ ⟨d1, d2'⟩
    by_cases q : fw (w9 B) 8 i d < 1000000
    · rw [if_pos q] at fi ⊢
      have kk := kk9_ok hw (x := 8 * i + d) (by omega) (by omega) (by rw [eF]; exact q)
      rw [show (8 * i + d) / 8 = i by omega] at kk
      obtain ⟨k, hk⟩ : ∃ k, k = kk9 B (8 * i + d) := ⟨_, rfl⟩
      rw [← hk] at kk ⊢
      have hl : ¬ lk8 A i k = -9 := by
        have := kk.2.2
        rw [RN_nb h.1 ⟨i1, i2'⟩ ⟨kk.1, kk.2.1⟩, h.1.2.2.2.2.2.1 i k i1 i2' kk.1 kk.2.1] at this
        exact of_decide_eq_true this
      have nik : ¬ i = k := fun z => hl (by rw [z]; exact lk8_self h.1)
      have de := dl_eq h.1 ⟨i1, i2'⟩ ⟨kk.1, kk.2.1⟩ hl
      have wk : w9 B k i = dl8 A i k := by
        rw [w9_eq h.1 ⟨kk.1, kk.2.1⟩ ⟨i1, i2'⟩, if_neg (fun z => nik z.symm), lk8_comm, if_neg hl]
        unfold dl8; rw [if_neg hl]
      have t1 := fd k d i kk.1 kk.2.1 d1 d2' i1 i2'
      have u1 := fe k i kk.1 kk.2.1 i1 i2'
      have c1 := fc i d i1 i2' d1 d2'
      have qk : fw (w9 B) 8 k d < 1000000 := by omega
      have fk := far_eq h.1 (i := k) (t := d) ⟨kk.1, kk.2.1⟩ ⟨d1, d2'⟩
      rw [if_pos qk] at fk
      have eF2 : ff9 B 8 (8 * k + d) = fw (w9 B) 8 k d := by
        unfold ff9; rw [show (8 * k + d) / 8 = k by omega, show (8 * k + d) % 8 = d by omega]
      rw [eF2, show B 252 (B 253 (8 * i + k)) = dl9 B i k from rfl, ← de.1]
      have b1 := fb i d i1 i2' d1 d2'
      have b2 := fb k d kk.1 kk.2.1 d1 d2'
      unfold onb onS
      rw [fi, fk]
      by_cases z : dl8 A i k + fw (w9 B) 8 k d = fw (w9 B) 8 i d
      · rw [if_pos z, if_pos ⟨by omega, by omega, by omega, by omega⟩]
      · rw [if_neg z, if_neg (fun y => z (by have := y.2.2.2; omega))]
    · rw [if_neg q] at fi ⊢
      unfold onb onS
      rw [fi, if_neg (fun y => y.2.1 rfl)]
theorem sim_delay {l v : Int} (hl : rg l) (hv : rg v) : SIM E S 46 102 [vi l, vi v] T T := by
  intro A B0 h0
  refine ⟨_, _, 2, by omega, c_delay8 hl hv (fun a b => by have := (h0.1.1 l a (by omega)).1; exact ⟨by omega, by omega⟩), fun c z q => by split; exact up2_other (by omega); rfl, fun B h => ⟨if ((0 ≤ l ∧ l ≤ 15) ∧ B 249 l = 1) ∧ 1 ≤ v ∧ v ≤ 60 then up2 B 252 l v else B, 2, by omega, ?_, fun c z q => by split; exact up2_other (by omega); rfl, ?_⟩⟩
  · have cB := c_delay9 (E := E) (S := S) (M := B) hl hv (fun a b => by rw [(h.1.2.1 l a (by omega)).1]; split <;> omega)
    have e : (if (0 ≤ l ∧ l ≤ 15) ∧ 0 < A 4 l then (if 1 ≤ v ∧ v ≤ 60 then A 4 l else -2) else -1) = (if (0 ≤ l ∧ l ≤ 15) ∧ B 249 l = 1 then (if 1 ≤ v ∧ v ≤ 60 then B 252 l else -2) else -1) := by
      by_cases c : 0 ≤ l ∧ l ≤ 15
      · have b := h.1.2.1 l (by omega) (by omega)
        by_cases c2 : 0 < A 4 l
        · rw [if_pos c2] at b
          have p2 : (0 ≤ l ∧ l ≤ 15) ∧ B 249 l = 1 := ⟨c, b.1⟩
          rw [if_pos ⟨c, c2⟩, if_pos p2, b.2.2.2 c2]
        · rw [if_neg c2] at b
          have p1 : ¬ ((0 ≤ l ∧ l ≤ 15) ∧ 0 < A 4 l) := fun q => c2 q.2
          have p2 : ¬ ((0 ≤ l ∧ l ≤ 15) ∧ B 249 l = 1) := fun q => by have := q.2; omega
          rw [if_neg p1, if_neg p2]
      · rw [if_neg (fun q => c q.1), if_neg (fun q => c q.1)]
    rw [e]
    exact cB
  · by_cases c : ((0 ≤ l ∧ l ≤ 15) ∧ 0 < A 4 l) ∧ 1 ≤ v ∧ v ≤ 60
    · have b := h.1.2.1 l (by omega) (by omega)
      rw [if_pos c.1.2] at b
      have p2 : ((0 ≤ l ∧ l ≤ 15) ∧ B 249 l = 1) ∧ 1 ≤ v ∧ v ≤ 60 := ⟨⟨c.1.1, b.1⟩, c.2⟩
      rw [if_pos c, if_pos p2]
      obtain ⟨hN, hR, hO, hS, hW⟩ := h
      have eo : ∀ c z, ¬ c = 4 → up2 A 4 l v c z = A c z := fun c z q => up2_other (by omega)
      have e4 : ∀ z, up2 A 4 l v 4 z = if z = l then v else A 4 z := fun z => by
        by_cases q : z = l
        · rw [if_pos q, q, up2_same]
        · rw [if_neg q, up2_other (by omega)]
      have ep : ∀ z, 0 ≤ z → z < 16 → (0 < up2 A 4 l v 4 z ↔ 0 < A 4 z) := fun z _ _ => by
        rw [e4]
        by_cases q : z = l
        · rw [if_pos q, q]; omega
        · rw [if_neg q]
      have el : ∀ i k, lk8 (up2 A 4 l v) i k = lk8 A i k := fun i k => fi_congr 16 0 (fun z a b => by
        unfold btB
        rw [eo 2 z (by omega), eo 3 z (by omega)]
        have := ep z a (by omega)
        by_cases q : 0 < A 4 z
        · simp [q, this.2 q]
        · have q2 : ¬ 0 < up2 A 4 l v 4 z := fun y => q (this.1 y)
          simp [q, q2])
      have f5 : up2 A 4 l v 5 = A 5 := funext fun z => eo 5 z (by omega)
      refine ⟨⟨fun z a b' => ?_, fun z a b' => ?_, fun z z' a1 a2 a3 a4 a5 a6 a7 a8 => ?_, fun i k a1 a2 a3 a4 => ?_, fun i a1 a2 => ?_, fun i k a1 a2 a3 a4 => ?_, ?_⟩, RR_congr hR f5 (fun r a b => ⟨eo _ _ (by omega), funext fun z => eo _ _ (by omega)⟩) (funext fun z => up2_other (by omega)), RO_congr hO (fun r a b => ⟨eo _ _ (by omega), eo _ _ (by omega), funext fun z => eo _ _ (by omega)⟩) (funext fun z => up2_other (by omega)) (funext fun z => up2_other (by omega)), ?_, fun u a b => ?_⟩
      · have h1 := hN.1 z a b'
        have h2 := ep z a b'
        rw [eo 2 z (by omega), eo 3 z (by omega)]
        refine ⟨?_, h1.2.1, h1.2.2.1, fun q => h1.2.2.2 (h2.1 q)⟩
        rw [e4]; split <;> omega
      · have h1 := hN.2.1 z a b'
        have h2 := ep z a b'
        have b9 : ∀ c, ¬ c = 252 → up2 B 252 l v c z = B c z := fun c q => up2_other (by omega)
        rw [eo 2 z (by omega), eo 3 z (by omega), b9 249 (by omega), b9 250 (by omega), b9 251 (by omega)]
        refine ⟨?_, h1.2.1, h1.2.2.1, fun q => ?_⟩
        · rw [h1.1]
          by_cases q : 0 < A 4 z
          · rw [if_pos q, if_pos (h2.2 q)]
          · rw [if_neg q, if_neg (fun y => q (h2.1 y))]
        · rw [e4]
          by_cases y : z = l
          · rw [if_pos y, y, up2_same]
          · rw [if_neg y, up2_other (by omega)]; exact h1.2.2.2 (h2.1 q)
      · rw [eo 2 z (by omega), eo 2 z' (by omega)] at a7
        rw [eo 3 z (by omega), eo 3 z' (by omega)] at a8
        exact hN.2.2.1 z z' a1 a2 a3 a4 ((ep z a1 a2).1 a5) ((ep z' a3 a4).1 a6) a7 a8
      · rw [up2_other (by omega), el]; exact hN.2.2.2.1 i k a1 a2 a3 a4
      · rw [f5]; exact hN.2.2.2.2.1 i a1 a2
      · rw [f5, el]; exact hN.2.2.2.2.2.1 i k a1 a2 a3 a4
      · rw [eo 1 5 (by omega), hN.2.2.2.2.2.2]
        refine cnt_congr 16 (fun z a b => ?_)
        have h2 := ep z a b
        by_cases q : 0 < A 4 z
        · rw [decide_eq_true q, decide_eq_true (h2.2 q)]
        · rw [decide_eq_false q, decide_eq_false (fun y => q (h2.1 y))]
      · unfold RS
        rw [show up2 A 4 l v 0 = A 0 from funext fun z => eo _ _ (by omega), show up2 A 4 l v 14 = A 14 from funext fun z => eo _ _ (by omega), show up2 B 252 l v 248 = B 248 from funext fun z => up2_other (by omega)]
        exact hS
      · exact WR_congr (hW u a b) (funext fun z => eo _ _ (by omega)) (funext fun z => eo _ _ (by omega)) (funext fun z => eo _ _ (by omega)) (eo _ _ (by omega)) el (fun c _ _ => up2_other (by omega)) (fun j _ _ => ⟨up2_other (by omega), up2_other (by omega)⟩) (up2_other (by omega))
    · have p2 : ¬ (((0 ≤ l ∧ l ≤ 15) ∧ B 249 l = 1) ∧ 1 ≤ v ∧ v ≤ 60) := fun q => c (by
        have b := (h.1.2.1 l (by omega) (by omega)).1
        refine ⟨⟨q.1.1, ?_⟩, q.2⟩
        rw [q.1.2] at b
        by_cases z : 0 < A 4 l
        · exact z
        · rw [if_neg z] at b; omega)
      rw [if_neg c, if_neg p2]; exact h
end
