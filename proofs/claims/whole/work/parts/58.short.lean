/-! ===== shortest ways: both sides, without any program ===== -/
abbrev Mat : Type := Int → Int → Int
/-- delays, 1000000 where there is no link -/
def WM (w : Mat) : Prop := ∀ i k, 0 ≤ i → i < 8 → 0 ≤ k → k < 8 → w i i = 0 ∧ (¬ i = k → (1 ≤ w i k ∧ w i k ≤ 60) ∨ w i k = 1000000) ∧ w i k = w k i
/-- over all middle nodes -/
def fw (w : Mat) : Nat → Mat
  | 0 => w
  | m + 1 => fun i j => min (fw w m i j) (fw w m i (m : Int) + fw w m (m : Int) j)
def FI (w : Mat) (m : Nat) (F : Mat) : Prop :=
  (∀ i, 0 ≤ i → i < 8 → F i i = 0) ∧
  (∀ i j, 0 ≤ i → i < 8 → 0 ≤ j → j < 8 → 0 ≤ F i j ∧ F i j ≤ 1000000 ∧ (¬ i = j → 1 ≤ F i j)) ∧
  (∀ i j, 0 ≤ i → i < 8 → 0 ≤ j → j < 8 → F i j = 1000000 ∨ F i j ≤ 60 * 2 ^ m) ∧
  (∀ i j k, 0 ≤ i → i < 8 → 0 ≤ j → j < 8 → 0 ≤ k → k < (m : Int) → F i j ≤ F i k + F k j) ∧
  (∀ i j, 0 ≤ i → i < 8 → 0 ≤ j → j < 8 → F i j ≤ w i j) ∧
  (∀ i j, 0 ≤ i → i < 8 → 0 ≤ j → j < 8 → ¬ i = j → F i j < 1000000 → ∃ k, (0 ≤ k ∧ k < 8 ∧ ¬ k = i) ∧ w i k < 1000000 ∧ w i k + F k j ≤ F i j)
theorem fw_ok {w : Mat} (hw : WM w) : ∀ m : Nat, m ≤ 8 → FI w m (fw w m) := by
  intro m
  induction m with
  | zero =>
    intro _
    refine ⟨fun i a b => (hw i i a b a b).1, fun i j a b c d => ?_, fun i j a b c d => ?_, fun i j k _ _ _ _ h1 h2 => by omega, fun i j _ _ _ _ => Int.le_refl _, fun i j a b c d e f => ?_⟩
    · have h := hw i j a b c d
      show 0 ≤ w i j ∧ w i j ≤ 1000000 ∧ (¬ i = j → 1 ≤ w i j)
      by_cases q : i = j
      · rw [← q, h.1]; omega
      · have := h.2.1 q; omega
    · have h := hw i j a b c d
      show w i j = 1000000 ∨ w i j ≤ 60 * 2 ^ 0
      by_cases q : i = j
      · rw [← q, h.1]; omega
      · have := h.2.1 q; omega
    · refine ⟨j, ⟨c, d, fun q => e q.symm⟩, f, ?_⟩
      show w i j + w j j ≤ w i j
      rw [(hw j j c d c d).1]; omega
  | succ m ih =>
    intro hm
    obtain ⟨fa, fb, fc, fd, fe, ff⟩ := ih (by omega)
    have e : ∀ i j, fw w (m + 1) i j = min (fw w m i j) (fw w m i (m : Int) + fw w m (m : Int) j) := fun i j => rfl
    have m0 : (0 : Int) ≤ (m : Int) := by omega
    have m8 : (m : Int) < 8 := by omega
    have dg := fa (m : Int) m0 m8
    refine ⟨fun i a b => ?_, fun i j a b c d => ?_, fun i j a b c d => ?_, fun i j k a b c d h1 h2 => ?_, fun i j a b c d => ?_, fun i j a b c d h1 h2 => ?_⟩
    · rw [e, fa i a b]
      have q1 := fb i m a b m0 m8
      have q2 := fb m i m0 m8 a b
      omega
    · rw [e]
      have q0 := fb i j a b c d
      have q1 := fb i m a b m0 m8
      have q2 := fb m j m0 m8 c d
      refine ⟨by omega, by omega, fun q => ?_⟩
      have q3 := q0.2.2 q
      by_cases z : i = (m : Int)
      · have : ¬ (m : Int) = j := by omega
        have := q2.2.2 this
        omega
      · have := q1.2.2 z
        omega
    · rw [e, Int.pow_succ]
      have q0 := fc i j a b c d
      have q1 := fc i m a b m0 m8
      have q2 := fc m j m0 m8 c d
      have b0 := fb i j a b c d
      have b1 := fb i m a b m0 m8
      have b2 := fb m j m0 m8 c d
      omega
    · rw [e, e, e]
      have ij := fb i j a b c d
      have im := fb i m a b m0 m8
      have mj := fb m j m0 m8 c d
      by_cases z : k = (m : Int)
      · rw [z, dg]
        have t1 := fb m m m0 m8 m0 m8
        omega
      · have k8 : k < 8 := by omega
        have t1 := fd i j k a b c d h1 (by omega)
        have t2 := fd i m k a b m0 m8 h1 (by omega)
        have t3 := fd m j k m0 m8 c d h1 (by omega)
        have ik := fb i k a b h1 k8
        have kj := fb k j h1 k8 c d
        have km := fb k m h1 k8 m0 m8
        have mk := fb m k m0 m8 h1 k8
        omega
    · rw [e]
      have := fe i j a b c d
      omega
    · rw [e] at h2 ⊢
      by_cases z : fw w m i j ≤ fw w m i (m : Int) + fw w m (m : Int) j
      · obtain ⟨k, k1, k2, k3⟩ := ff i j a b c d h1 (by omega)
        refine ⟨k, k1, k2, ?_⟩
        rw [e]
        omega
      · have im := fb i m a b m0 m8
        have mj := fb m j m0 m8 c d
        have ni : ¬ i = (m : Int) := fun q => by
          rw [q, dg] at z; omega
        obtain ⟨k, k1, k2, k3⟩ := ff i m a b m0 m8 ni (by omega)
        refine ⟨k, k1, k2, ?_⟩
        rw [e]
        omega
/-- one way over one link -/
def rlx (i o e : Int) (f : Vec) : Vec := if f o = -9 then f else if f i = -9 ∨ f o + e < f i then upv f i (f o + e) else f
def bfR (lo hi dl : Vec) : Nat → Vec → Vec
  | 0, f => f
  | n + 1, f => if 0 < dl (n : Int) then rlx (hi (n : Int)) (lo (n : Int)) (dl (n : Int)) (rlx (lo (n : Int)) (hi (n : Int)) (dl (n : Int)) (bfR lo hi dl n f)) else bfR lo hi dl n f
def bfN (lo hi dl : Vec) (aim : Int) : Nat → Vec
  | 0 => fun i => if i = aim then 0 else -9
  | r + 1 => bfR lo hi dl 16 (bfN lo hi dl aim r)
/-- never less than the truth -/
def LB (D f : Vec) : Prop := ∀ i, 0 ≤ i → i < 8 → f i = -9 ∨ (D i < 1000000 ∧ D i ≤ f i ∧ 0 ≤ f i)
/-- right already -/
def stl (D f : Vec) : Set8 := fun i => decide (D i = 1000000 ∨ f i = D i)
def DV (D : Vec) : Prop := ∀ i, 0 ≤ i → i < 8 → 0 ≤ D i ∧ (D i = 1000000 ∨ D i ≤ 20000)
theorem rlx_LB {D f : Vec} {i o e : Int} (hD : DV D) (hi : 0 ≤ i ∧ i < 8) (ho : 0 ≤ o ∧ o < 8) (he : 1 ≤ e ∧ e ≤ 60) (hc : D i ≤ e + D o) (hf : LB D f) : LB D (rlx i o e f) ∧ (∀ k, 0 ≤ k → k < 8 → stl D f k = true → stl D (rlx i o e f) k = true) ∧ (f o = D o → D o < 1000000 → ¬ rlx i o e f i = -9 ∧ rlx i o e f i ≤ D o + e) := by
  have f0 := hf o ho.1 ho.2
  have fi := hf i hi.1 hi.2
  have d0 := hD o ho.1 ho.2
  have di := hD i hi.1 hi.2
  unfold rlx
  by_cases c1 : f o = -9
  · rw [if_pos c1]
    exact ⟨hf, fun k _ _ h => h, fun h => by omega⟩
  · rw [if_neg c1]
    by_cases c2 : f i = -9 ∨ f o + e < f i
    · rw [if_pos c2]
      refine ⟨fun k a b => ?_, fun k a b h => ?_, fun h1 h2 => ?_⟩
      · by_cases q : k = i
        · rw [q, upv_eq]; omega
        · rw [upv_ne q]; exact hf k a b
      · by_cases q : k = i
        · unfold stl at h ⊢
          rw [q] at h ⊢
          rw [upv_eq]
          have := of_decide_eq_true h
          exact decide_eq_true (by omega)
        · unfold stl at h ⊢
          rw [upv_ne q]; exact h
      · rw [upv_eq]; omega
    · rw [if_neg c2]
      exact ⟨hf, fun k _ _ h => h, fun h1 h2 => by omega⟩
/-- all that is asked of the links -/
def LK (lo hi dl D : Vec) : Prop := ∀ l, 0 ≤ l → l < 16 → 0 < dl l → dl l ≤ 60 ∧ (0 ≤ lo l ∧ lo l < 8) ∧ (0 ≤ hi l ∧ hi l < 8) ∧ D (lo l) ≤ dl l + D (hi l) ∧ D (hi l) ≤ dl l + D (lo l)
theorem bfR_LB {lo hi dl D : Vec} (hD : DV D) (hL : LK lo hi dl D) {f : Vec} (hf : LB D f) : ∀ n : Nat, n ≤ 16 → LB D (bfR lo hi dl n f) ∧ (∀ k, 0 ≤ k → k < 8 → stl D f k = true → stl D (bfR lo hi dl n f) k = true) := by
  intro n
  induction n with
  | zero => intro _; exact ⟨hf, fun k _ _ h => h⟩
  | succ n ih =>
    intro hn
    obtain ⟨i1, i2⟩ := ih (by omega)
    unfold bfR
    by_cases c : 0 < dl (n : Int)
    · rw [if_pos c]
      obtain ⟨h1, h2, h3, h4, h5⟩ := hL n (by omega) (by omega) c
      obtain ⟨a1, a2, _⟩ := rlx_LB hD h2 h3 ⟨by omega, h1⟩ h4 i1
      obtain ⟨b1, b2, _⟩ := rlx_LB hD h3 h2 ⟨by omega, h1⟩ h5 a1
      exact ⟨b1, fun k x y z => b2 k x y (a2 k x y (i2 k x y z))⟩
    · rw [if_neg c]; exact ⟨i1, i2⟩
/-- a right one makes its neighbour right -/
theorem bfR_hit {lo hi dl D : Vec} (hD : DV D) (hL : LK lo hi dl D) {f : Vec} (hf : LB D f) {i k l : Int} (hl : 0 ≤ l ∧ l < 16) (hd : 0 < dl l) (he : (lo l = i ∧ hi l = k) ∨ (lo l = k ∧ hi l = i)) (hk : f k = D k) (hk2 : D k < 1000000) (hs : dl l + D k ≤ D i) : ∀ n : Nat, n ≤ 16 → l < (n : Int) → stl D (bfR lo hi dl n f) i = true := by
  intro n
  induction n with
  | zero => intro _ h; omega
  | succ n ih =>
    intro hn hln
    obtain ⟨i1, i2⟩ := bfR_LB hD hL hf n (by omega)
    unfold bfR
    by_cases c : l = (n : Int)
    · rw [← c, if_pos hd]
      obtain ⟨h1, h2, h3, h4, h5⟩ := hL l hl.1 hl.2 hd
      obtain ⟨a1, a2, a3⟩ := rlx_LB hD h2 h3 ⟨by omega, h1⟩ h4 i1
      obtain ⟨b1, b2, b3⟩ := rlx_LB hD h3 h2 ⟨by omega, h1⟩ h5 a1
      have sk : ∀ g : Vec, LB D g → stl D g k = true → 0 ≤ k → k < 8 → g k = D k := fun g _ hg _ _ => by
        unfold stl at hg
        have := of_decide_eq_true hg
        omega
      have s0 : stl D f k = true := decide_eq_true (Or.inr hk)
      rcases he with ⟨e1, e2⟩ | ⟨e1, e2⟩
      · rw [e1, e2] at a1 a2 a3 b1 b2 b3 ⊢
        rw [e1] at h2
        rw [e2] at h3
        have g1 := sk _ i1 (i2 k h3.1 h3.2 s0) h3.1 h3.2
        have g2 := a3 g1 hk2
        have g3 := a1 i h2.1 h2.2
        exact b2 i h2.1 h2.2 (decide_eq_true (by omega))
      · rw [e1, e2] at a1 a2 a3 b1 b2 b3 ⊢
        rw [e1] at h2
        rw [e2] at h3
        have g1 := sk _ a1 (a2 k h2.1 h2.2 (i2 k h2.1 h2.2 s0)) h2.1 h2.2
        have g2 := b3 g1 hk2
        have g3 := b1 i h3.1 h3.2
        exact decide_eq_true (by omega)
    · have ih' := ih (by omega) (by omega)
      by_cases c2 : 0 < dl (n : Int)
      · rw [if_pos c2]
        obtain ⟨h1, h2, h3, h4, h5⟩ := hL n (by omega) (by omega) c2
        obtain ⟨a1, a2, _⟩ := rlx_LB hD h2 h3 ⟨by omega, h1⟩ h4 i1
        obtain ⟨b1, b2, _⟩ := rlx_LB hD h3 h2 ⟨by omega, h1⟩ h5 a1
        have hi8 : 0 ≤ i ∧ i < 8 := by
          obtain ⟨_, u2, u3, _, _⟩ := hL l hl.1 hl.2 hd
          rcases he with ⟨e1, e2⟩ | ⟨e1, e2⟩
          · rw [← e1]; exact u2
          · rw [← e2]; exact u3
        exact b2 i hi8.1 hi8.2 (a2 i hi8.1 hi8.2 ih')
      · rw [if_neg c2]; exact ih'
/-- each one but the aim has a link on a shortest way -/
def SP (lo hi dl D : Vec) (aim : Int) : Prop := D aim = 0 ∧ ∀ i, 0 ≤ i → i < 8 → ¬ i = aim → D i < 1000000 → ∃ k l, (0 ≤ k ∧ k < 8) ∧ (0 ≤ l ∧ l < 16) ∧ 0 < dl l ∧ ((lo l = i ∧ hi l = k) ∨ (lo l = k ∧ hi l = i)) ∧ dl l + D k ≤ D i
theorem bf_new {lo hi dl D : Vec} {aim : Int} (hD : DV D) (hL : LK lo hi dl D) (hS : SP lo hi dl D aim) {f : Vec} (hf : LB D f) (ha : f aim = 0) : ∀ n : Nat, ∀ i, 0 ≤ i → i < 8 → D i < (n : Int) → stl D f i = false → ∃ j, (0 ≤ j ∧ j < 8) ∧ stl D f j = false ∧ stl D (bfR lo hi dl 16 f) j = true := by
  intro n
  induction n with
  | zero => intro i a b h; have := (hD i a b).1; omega
  | succ n ih =>
    intro i a b h hs
    have hs' := of_decide_eq_false hs
    have hni : ¬ i = aim := fun q => hs' (Or.inr (by rw [q, ha, hS.1]))
    have hd := hD i a b
    obtain ⟨k, l, k1, l1, l2, l3, l4⟩ := hS.2 i a b hni (by omega)
    have dk := hD k k1.1 k1.2
    by_cases c : stl D f k = true
    · have hk : f k = D k := by
        have := of_decide_eq_true c
        omega
      exact ⟨i, ⟨a, b⟩, hs, bfR_hit hD hL hf l1 l2 l3 hk (by omega) l4 16 (by omega) l1.2⟩
    · exact ih k k1.1 k1.2 (by omega) (by simpa using c)
theorem cntb_le {m m' : Set8} : ∀ n : Nat, (∀ k : Int, 0 ≤ k → k < (n : Int) → m k = true → m' k = true) → cntb m n ≤ cntb m' n := by
  intro n
  induction n with
  | zero => intro _; exact Int.le_refl _
  | succ n ih =>
    intro h
    have i1 := ih (fun k a b => h k a (by omega))
    have h1 := h n (by omega) (by omega)
    rw [cntb_s, cntb_s]
    by_cases c : m (n : Int) = true
    · rw [if_pos c, if_pos (h1 c)]; omega
    · rw [if_neg c]; split <;> omega
theorem cntb_lt {m m' : Set8} {x : Int} (hx : 0 ≤ x ∧ x < 8) (h : ∀ k : Int, 0 ≤ k → k < 8 → m k = true → m' k = true) (h1 : m x = false) (h2 : m' x = true) : cntb m 8 + 1 ≤ cntb m' 8 := by
  have e := cnt_wob (m := m') (but := x) hx.1 8
  rw [if_pos ⟨hx.2, h2⟩] at e
  have := cntb_le (m := m) (m' := wob m' x) 8 (fun k a b c => by
    unfold wob
    have k1 := h k a b c
    have k2 : ¬ k = x := fun q => by rw [q, h1] at c; cases c
    simp [k1, k2])
  omega
theorem cntb_all {m : Set8} : ∀ n : Nat, (n : Int) ≤ cntb m n → ∀ k : Int, 0 ≤ k → k < (n : Int) → m k = true := by
  intro n
  induction n with
  | zero => intro _ k a b; omega
  | succ n ih =>
    intro h k a b
    rw [cntb_s] at h
    have hr := cntb_rng m n
    by_cases c : m (n : Int) = true
    · by_cases q : k = (n : Int)
      · rw [q]; exact c
      · rw [if_pos c] at h; exact ih (by omega) k a (by omega)
    · rw [if_neg c] at h; omega
theorem bf_count {lo hi dl D : Vec} {aim : Int} (haim : 0 ≤ aim ∧ aim < 8) (hD : DV D) (hL : LK lo hi dl D) (hS : SP lo hi dl D aim) : ∀ r : Nat, LB D (bfN lo hi dl aim r) ∧ bfN lo hi dl aim r aim = 0 ∧ min ((r : Int) + 1) 8 ≤ cntb (stl D (bfN lo hi dl aim r)) 8 := by
  intro r
  induction r with
  | zero =>
    have e : ∀ i, bfN lo hi dl aim 0 i = if i = aim then 0 else -9 := fun i => rfl
    refine ⟨fun i a b => ?_, by rw [e, if_pos rfl], ?_⟩
    · rw [e]
      by_cases q : i = aim
      · rw [if_pos q, q, hS.1]; omega
      · rw [if_neg q]; exact Or.inl rfl
    · have h1 : stl D (bfN lo hi dl aim 0) aim = true := decide_eq_true (Or.inr (by rw [e, if_pos rfl, hS.1]))
      have := cntb_pos (m := stl D (bfN lo hi dl aim 0)) haim.1 h1 8 (by omega)
      omega
  | succ r ih =>
    obtain ⟨i1, i2, i3⟩ := ih
    obtain ⟨b1, b2⟩ := bfR_LB hD hL i1 16 (by omega)
    refine ⟨b1, ?_, ?_⟩
    · have h0 : stl D (bfN lo hi dl aim r) aim = true := decide_eq_true (Or.inr (by rw [i2, hS.1]))
      have := of_decide_eq_true (b2 aim haim.1 haim.2 h0)
      show bfR lo hi dl 16 (bfN lo hi dl aim r) aim = 0
      rw [hS.1] at this
      omega
    · show _ ≤ cntb (stl D (bfR lo hi dl 16 (bfN lo hi dl aim r))) 8
      have hle := cntb_le (m := stl D (bfN lo hi dl aim r)) (m' := stl D (bfR lo hi dl 16 (bfN lo hi dl aim r))) 8 b2
      by_cases c : 8 ≤ cntb (stl D (bfN lo hi dl aim r)) 8
      · omega
      · have hex : ∃ i, (0 ≤ i ∧ i < 8) ∧ stl D (bfN lo hi dl aim r) i = false := by
          refine Classical.byContradiction fun hn => c ?_
          have hall : ∀ k : Int, 0 ≤ k → k < 8 → stl D (bfN lo hi dl aim r) k = true := fun k a b => by
            by_cases q : stl D (bfN lo hi dl aim r) k = true
            · exact q
            · exact absurd ⟨k, ⟨a, b⟩, by simpa using q⟩ hn
          have := cntb_le (m := fun _ => true) (m' := stl D (bfN lo hi dl aim r)) 8 (fun k a b _ => hall k a b)
          have e8 : cntb (fun _ => true) 8 = 8 := by decide
          omega
        obtain ⟨i, i8, is⟩ := hex
        have di := hD i i8.1 i8.2
        obtain ⟨j, j8, j1, j2⟩ := bf_new hD hL hS i1 i2 1000001 i i8.1 i8.2 (by omega) is
        have := cntb_lt j8 b2 j1 j2
        omega
theorem bf_right {lo hi dl D : Vec} {aim : Int} (haim : 0 ≤ aim ∧ aim < 8) (hD : DV D) (hL : LK lo hi dl D) (hS : SP lo hi dl D aim) {i : Int} (hi8 : 0 ≤ i ∧ i < 8) : bfN lo hi dl aim 7 i = if D i < 1000000 then D i else -9 := by
  obtain ⟨b1, b2, b3⟩ := bf_count haim hD hL hS 7
  have ha := of_decide_eq_true (cntb_all (m := stl D (bfN lo hi dl aim 7)) 8 (by omega) i hi8.1 hi8.2)
  have hb := b1 i hi8.1 hi8.2
  split <;> omega
