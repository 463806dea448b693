/-! ===== vectors of eight in the memory; counts and sums over sets ===== -/
theorem down {P : Nat → Prop} {n : Nat} (hn : P n) (hs : ∀ k, k < n → P (k + 1) → P k) : ∀ k, k ≤ n → P k := by
  intro k hk
  obtain ⟨m, rfl⟩ : ∃ m, n = k + m := ⟨n - k, by omega⟩
  induction m generalizing k with
  | zero => exact hn
  | succ m ih =>
    have h1 : P (k + 1) := by
      refine ih (k + 1) ?_ ?_ (by omega)
      · have e : k + 1 + m = k + (m + 1) := by omega
        rw [e]; exact hn
      · intro q hq hp
        exact hs q (by omega) hp
    exact hs k (by omega) h1
abbrev Vec : Type := Int → Int
def upv (v : Vec) (k x : Int) : Vec := fun j => if j = k then x else v j
theorem upv_eq {v : Vec} {k x : Int} : upv v k x k = x := by simp [upv]
theorem upv_ne {v : Vec} {k x j : Int} (h : j ≠ k) : upv v k x j = v j := by simp [upv, h]
def putv (M : Mem) (c off : Int) (f : Vec) : Mem := fun c' i' => if c' = c ∧ off ≤ i' ∧ i' < off + 8 then f (i' - off) else M c' i'
def getv (M : Mem) (c off : Int) : Vec := fun k => M c (off + k)
theorem putv_congr {M : Mem} {c off : Int} {f g : Vec} (h : ∀ k, 0 ≤ k → k < 8 → f k = g k) : putv M c off f = putv M c off g := by
  funext a b
  unfold putv
  split
  · rename_i hc
    exact h _ (by omega) (by omega)
  · rfl
theorem putv_getv {M : Mem} {c off : Int} : putv M c off (getv M c off) = M := by
  funext a b
  unfold putv getv
  split
  · rename_i hc
    rw [hc.1, show off + (b - off) = b by omega]
  · rfl
theorem putv_id {M : Mem} {c off : Int} {f : Vec} (h : ∀ k, 0 ≤ k → k < 8 → f k = M c (off + k)) : putv M c off f = M := by
  rw [putv_congr (g := getv M c off) h, putv_getv]
theorem putv_at {M : Mem} {c off k : Int} {f : Vec} (h1 : 0 ≤ k) (h2 : k < 8) : putv M c off f c (off + k) = f k := by
  unfold putv
  rw [if_pos ⟨rfl, by omega, by omega⟩, show off + k - off = k by omega]
theorem putv_at0 {M : Mem} {c k : Int} {f : Vec} (h1 : 0 ≤ k) (h2 : k < 8) : putv M c 0 f c k = f k := by
  have := putv_at (M := M) (c := c) (off := 0) (f := f) h1 h2
  rw [Int.zero_add] at this
  exact this
theorem putv_ne {M : Mem} {c off c' i : Int} {f : Vec} (h : c' ≠ c) : putv M c off f c' i = M c' i := by
  unfold putv
  rw [if_neg (fun q => h q.1)]
theorem putv_out {M : Mem} {c off i : Int} {f : Vec} (h : i < off ∨ off + 8 ≤ i) : putv M c off f c i = M c i := by
  unfold putv
  rw [if_neg (fun q => by omega)]
theorem up2_putv {M : Mem} {c off k x : Int} {f : Vec} (h1 : 0 ≤ k) (h2 : k < 8) : up2 (putv M c off f) c (off + k) x = putv M c off (upv f k x) := by
  funext a b
  simp only [up2, putv, upv]
  by_cases h : a = c
  · subst h
    by_cases hb : b = off + k
    · subst hb
      rw [if_pos ⟨rfl, rfl⟩, if_pos ⟨rfl, by omega, by omega⟩, if_pos (by omega)]
    · rw [if_neg (by omega)]
      split
      · rw [if_neg (by omega)]
      · rfl
  · simp [h]
theorem up2_v {M : Mem} {c off k x : Int} (h1 : 0 ≤ k) (h2 : k < 8) : up2 M c (off + k) x = putv M c off (upv (getv M c off) k x) := by
  have := up2_putv (M := M) (c := c) (off := off) (x := x) (f := getv M c off) h1 h2
  rw [putv_getv] at this
  exact this
theorem up2_putv0 {M : Mem} {c k x : Int} {f : Vec} (h1 : 0 ≤ k) (h2 : k < 8) : up2 (putv M c 0 f) c k x = putv M c 0 (upv f k x) := by
  have := up2_putv (M := M) (c := c) (off := 0) (x := x) (f := f) h1 h2
  rw [Int.zero_add] at this
  exact this
theorem putv_putv {M : Mem} {c off : Int} {f g : Vec} : putv (putv M c off f) c off g = putv M c off g := by
  funext a b
  simp only [putv]
  split <;> simp_all
theorem putv_comm {M : Mem} {c off c' off' : Int} {f g : Vec} (h : c ≠ c') : putv (putv M c off f) c' off' g = putv (putv M c' off' g) c off f := by
  funext a b
  simp only [putv]
  by_cases h1 : a = c
  · subst h1
    simp [h]
  · simp [h1]
theorem getv_putv {M : Mem} {c off : Int} {f : Vec} {k : Int} (h1 : 0 ≤ k) (h2 : k < 8) : getv (putv M c off f) c off k = f k := putv_at h1 h2
theorem getv_ne {M : Mem} {c off c' off' : Int} {f : Vec} (h : c' ≠ c) : getv (putv M c off f) c' off' = getv M c' off' := by
  funext k
  exact putv_ne h
/-- the first k places as f has them, the others as v -/
def bl (k : Nat) (f v : Vec) : Vec := fun j => if j < (k : Int) then f j else v j
theorem bl_0 {f v : Vec} {j : Int} (h : 0 ≤ j) : bl 0 f v j = v j := by unfold bl; rw [if_neg (by omega)]
theorem bl_8 {f v : Vec} {j : Int} (h : j < 8) : bl 8 f v j = f j := by unfold bl; rw [if_pos (by omega)]
theorem bl_s {f v : Vec} {k : Nat} : upv (bl k f v) (k : Int) (f (k : Int)) = bl (k + 1) f v := by
  funext j
  simp only [upv, bl]
  by_cases h : j = (k : Int)
  · subst h
    rw [if_pos rfl, if_pos (by omega)]
  · rw [if_neg h]
    by_cases h2 : j < (k : Int)
    · rw [if_pos h2, if_pos (by omega)]
    · rw [if_neg h2, if_neg (by omega)]
theorem bl_n {f v : Vec} {k : Nat} (h : f (k : Int) = v (k : Int)) : bl k f v = bl (k + 1) f v := by
  funext j
  simp only [bl]
  by_cases h1 : j = (k : Int)
  · subst h1
    rw [if_neg (by omega), if_pos (by omega), h]
  · by_cases h2 : j < (k : Int)
    · rw [if_pos h2, if_pos (by omega)]
    · rw [if_neg h2, if_neg (by omega)]
theorem bl_k {f v : Vec} {k : Nat} : bl k f v (k : Int) = v (k : Int) := by unfold bl; rw [if_neg (by omega)]
abbrev Set8 : Type := Int → Bool
def cntb (m : Set8) : Nat → Int
  | 0 => 0
  | k + 1 => cntb m k + (if m (k : Int) = true then 1 else 0)
def smv (m : Set8) (v : Vec) : Nat → Int
  | 0 => 0
  | k + 1 => smv m v k + (if m (k : Int) = true then v (k : Int) else 0)
theorem cntb_rng (m : Set8) : ∀ k, 0 ≤ cntb m k ∧ cntb m k ≤ (k : Int) := by
  intro k
  induction k with
  | zero => exact ⟨by simp [cntb], by simp [cntb]⟩
  | succ k ih =>
    unfold cntb
    split <;> omega
theorem cntb_mono (m : Set8) : ∀ k n, k ≤ n → cntb m k ≤ cntb m n := by
  intro k n h
  obtain ⟨q, rfl⟩ : ∃ q, n = k + q := ⟨n - k, by omega⟩
  induction q with
  | zero => exact Int.le_refl _
  | succ q ih =>
    have := ih (by omega)
    show cntb m k ≤ cntb m (k + q) + _
    split <;> omega
theorem cntb_pos {m : Set8} {k : Int} (h0 : 0 ≤ k) (h1 : m k = true) : ∀ n : Nat, k < (n : Int) → 0 < cntb m n := by
  intro n hn
  have h2 := cntb_mono m (k.toNat + 1) n (by omega)
  have h3 := cntb_rng m k.toNat
  have h4 : cntb m (k.toNat + 1) = cntb m k.toNat + 1 := by
    show cntb m k.toNat + _ = _
    rw [Int.toNat_of_nonneg h0, if_pos h1]
  omega
theorem cntb_congr {m m' : Set8} : ∀ n : Nat, (∀ k : Int, 0 ≤ k → k < (n : Int) → m k = m' k) → cntb m n = cntb m' n := by
  intro n
  induction n with
  | zero => intro _; rfl
  | succ n ih =>
    intro h
    unfold cntb
    rw [ih (fun k h1 h2 => h k h1 (by omega)), h n (by omega) (by omega)]
theorem smv_congr {m m' : Set8} {v v' : Vec} : ∀ n : Nat, (∀ k : Int, 0 ≤ k → k < (n : Int) → m k = m' k ∧ (m k = true → v k = v' k)) → smv m v n = smv m' v' n := by
  intro n
  induction n with
  | zero => intro _; rfl
  | succ n ih =>
    intro h
    unfold smv
    rw [ih (fun k h1 h2 => h k h1 (by omega))]
    have := h n (by omega) (by omega)
    rw [← this.1]
    by_cases hm : m (n : Int) = true
    · rw [if_pos hm, if_pos hm, this.2 hm]
    · rw [if_neg hm, if_neg hm]
theorem smv_upv {m : Set8} {v : Vec} {k x : Int} (h0 : 0 ≤ k) : ∀ n : Nat, smv m (upv v k x) n = smv m v n + (if k < (n : Int) ∧ m k = true then x - v k else 0) := by
  intro n
  induction n with
  | zero => simp [smv]; omega
  | succ n ih =>
    unfold smv
    rw [ih]
    by_cases hk : (n : Int) = k
    · subst hk
      rw [upv_eq]
      by_cases hm : m (n : Int) = true
      · rw [if_pos hm, if_pos hm, if_neg (by omega), if_pos ⟨by omega, hm⟩]; omega
      · rw [if_neg hm, if_neg hm, if_neg (by omega), if_neg (fun q => hm q.2)]
    · rw [upv_ne hk]
      generalize (if m (n : Int) = true then v (n : Int) else 0) = t
      by_cases hc : k < (n : Int) ∧ m k = true
      · have hc2 : k < ((n + 1 : Nat) : Int) ∧ m k = true := ⟨by omega, hc.2⟩
        rw [if_pos hc, if_pos hc2]; omega
      · have hc2 : ¬ (k < ((n + 1 : Nat) : Int) ∧ m k = true) := fun q => hc ⟨by have := q.1; omega, q.2⟩
        rw [if_neg hc, if_neg hc2]; omega
theorem smv_nonneg {m : Set8} {v : Vec} : ∀ n : Nat, (∀ k : Int, 0 ≤ k → k < (n : Int) → m k = true → 0 ≤ v k) → 0 ≤ smv m v n := by
  intro n
  induction n with
  | zero => intro _; exact Int.le_refl _
  | succ n ih =>
    intro h
    unfold smv
    have h1 := ih (fun k a b c => h k a (by omega) c)
    split
    · rename_i hm
      have := h n (by omega) (by omega) hm
      omega
    · omega
/-- the rows of a method's answer -/
def RTf (r : Option AV) (h' : AH) : RTy := fun v h'' => v = r ∧ h'' = h'
theorem RTf_eq {r v : Option AV} {h' h'' : AH} : RTf r h' v h'' = (v = r ∧ h'' = h') := propext Iff.rfl
theorem Ctr_f {E : ET} {d j : Nat} {as : List AV} {h : AH} {r : Option AV} {h' : AH} (mi : MI) (hmi : miOk mi (mt j) = true) (hn : (entA as).length ≤ mi.2.2.1) (hle : h.1 ≤ h'.1 ∧ h.2.1 ≤ h'.2.1)
    (hg : ∀ (g : GT) (lm : Nat × Nat), G E g mi d lm (RTf r h') 0 (entL mi.2.2.1 as) [] h) : Ctr E d j as h r h' := Ctr_of mi hmi hn hle (fun g => hg g _)
