/-! ===== what sharing out does to a row ===== -/
theorem grF_in {m : Set8} {v : Vec} (hc : 0 < cntb m 8) : (0 ≤ grF m v 8 ∧ grF m v 8 < 8) ∧ m (grF m v 8) = true := by
  rcases grF_rng m v 8 with q | q
  · exfalso
    have : ∀ n : Nat, n ≤ 8 → cntb m n = 0 := by
      intro n hn
      induction n with
      | zero => rfl
      | succ n ih =>
        show cntb m n + _ = 0
        rw [ih (by omega)]
        split
        · rename_i hm
          exact absurd q (grF_max (m := m) (v := v) 8 n (by omega) (by omega) hm).1
        · rfl
    have := this 8 (by omega)
    omega
  · exact ⟨⟨q.1, by omega⟩, q.2.2⟩
theorem gvN_ok {m : Set8} {x : Vec × Vec} (hc : 0 < cntb m 8) : ∀ t : Nat, (∀ k, (x.1 k ≤ (gvN m t x).1 k)) ∧ smv m (gvN m t x).1 8 = smv m x.1 8 + (t : Int) ∧ ∀ k, m k = false → (gvN m t x).1 k = x.1 k := by
  intro t
  induction t with
  | zero => exact ⟨fun k => Int.le_refl _, by simp [gvN], fun k _ => rfl⟩
  | succ t ih =>
    obtain ⟨i1, i2, i3⟩ := ih
    have hg := grF_in (m := m) (v := (gvN m t x).2) hc
    have e : gvN m (t + 1) x = gv m (gvN m t x) := rfl
    rw [e]
    unfold gv
    generalize grF m (gvN m t x).2 8 = b at hg
    refine ⟨fun k => ?_, ?_, fun k hk => ?_⟩
    · show x.1 k ≤ upv (gvN m t x).1 b _ k
      unfold upv
      have := i1 k
      split
      · rename_i h; rw [← h]; omega
      · exact this
    · show smv m (upv (gvN m t x).1 b _) 8 = _
      rw [smv_upv hg.1.1, if_pos ⟨by omega, hg.2⟩, i2]
      omega
    · show upv (gvN m t x).1 b _ k = _
      rw [upv_ne (fun q => by rw [q, hg.2] at hk; cases hk)]
      exact i3 k hk
theorem gvN_w {m m' : Set8} (hm : ∀ k : Int, 0 ≤ k → k < 8 → m k = m' k) : ∀ (t : Nat) (x x' : Vec × Vec), eqv m x.1 x'.1 → eqv m x.2 x'.2 → eqv m (gvN m t x).1 (gvN m' t x').1 ∧ eqv m (gvN m t x).2 (gvN m' t x').2 := by
  intro t
  induction t with
  | zero => intro x x' h1 h2; exact ⟨h1, h2⟩
  | succ t ih =>
    intro x x' h1 h2
    obtain ⟨i1, i2⟩ := ih x x' h1 h2
    have eg := grF_congr (m := m) (m' := m') (v := (gvN m t x).2) (v' := (gvN m' t x').2) 8 (fun k a b => ⟨hm k a b, i2 k a b⟩)
    have e : gvN m (t + 1) x = gv m (gvN m t x) := rfl
    have e' : gvN m' (t + 1) x' = gv m' (gvN m' t x') := rfl
    rw [e, e']
    unfold gv
    rw [← eg]
    refine ⟨fun k a b c => ?_, fun k a b c => ?_⟩
    · show upv _ _ _ k = upv _ _ _ k
      unfold upv
      split
      · rename_i h; rw [← h, i1 k a b c]
      · exact i1 k a b c
    · show upv _ _ _ k = upv _ _ _ k
      unfold upv
      split
      · rfl
      · exact i2 k a b c
def sh1 (R : Int) (m : Set8) (p v : Vec) : Vec := (shF R m p v (fun _ => -1)).1
theorem shF_eqv {R : Int} {m m' : Set8} {p p' v v' w w' : Vec} (hm : ∀ k : Int, 0 ≤ k → k < 8 → m k = m' k) (hp : eqv m p p') : eqv m (shF R m p v w).1 (shF R m' p' v' w').1 := by
  have eV : smv m p 8 = smv m' p' 8 := smv_congr 8 (fun k a b => ⟨hm k a b, hp k a b⟩)
  have eq1 : eqv m (qv R (smv m p 8) m p v) (qv R (smv m' p' 8) m' p' v') := fun k a b c => by
    have c' : m' k = true := by rw [← hm k a b]; exact c
    simp only [qv, c, c', if_true, eV, hp k a b c]
  have eq2 : eqv m (rv R (smv m p 8) m p w) (rv R (smv m' p' 8) m' p' w') := fun k a b c => by
    have c' : m' k = true := by rw [← hm k a b]; exact c
    simp only [rv, c, c', if_true, eV, hp k a b c]
  have eS : smv m (qv R (smv m p 8) m p v) 8 = smv m' (qv R (smv m' p' 8) m' p' v') 8 := smv_congr 8 (fun k a b => ⟨hm k a b, eq1 k a b⟩)
  unfold shF
  rw [eS]
  exact (gvN_w hm _ _ _ eq1 eq2).1
theorem shF_ok {R : Int} {m : Set8} {p v w : Vec} (hR : 0 ≤ R) (hp : ∀ k, 0 ≤ k → k < 8 → m k = true → 0 ≤ p k) (hV : 0 < smv m p 8) (hc : 0 < cntb m 8) : (∀ k, 0 ≤ k → k < 8 → m k = true → 0 ≤ (shF R m p v w).1 k) ∧ smv m (shF R m p v w).1 8 = R ∧ ∀ k, m k = false → (shF R m p v w).1 k = v k := by
  have hl := left_lt (R := R) (v := v) (m := m) (p := p) rfl hV hc
  have h := gvN_ok (m := m) (x := (qv R (smv m p 8) m p v, rv R (smv m p 8) m p w)) hc (R - smv m (qv R (smv m p 8) m p v) 8).toNat
  refine ⟨fun k a b c => ?_, ?_, fun k c => ?_⟩
  · have h1 := h.1 k
    have h2 : 0 ≤ qv R (smv m p 8) m p v k := by
      simp only [qv, c, if_true]
      exact Int.ediv_nonneg (Int.mul_nonneg hR (hp k a b c)) (by omega)
    exact Int.le_trans h2 h1
  · have h1 := h.2.1
    unfold shF
    rw [h1]
    show smv m (qv R (smv m p 8) m p v) 8 + _ = R
    omega
  · have h1 := h.2.2 k c
    unfold shF
    rw [h1]
    simp [qv, c]
theorem ev_cnt {m : Set8} {L : Int} (hL : 0 ≤ L) : ∀ n : Nat, smv m (fun j => if 0 < L - cntb m j.toNat then 1 else 0) n = min L (cntb m n) := by
  intro n
  induction n with
  | zero => simp [smv, cntb]; omega
  | succ n ih =>
    have e1 : smv m (fun j => if 0 < L - cntb m j.toNat then 1 else 0) (n + 1) = smv m (fun j => if 0 < L - cntb m j.toNat then 1 else 0) n + (if m (n : Int) = true then (if 0 < L - cntb m ((n : Int)).toNat then 1 else 0) else 0) := rfl
    have e2 : cntb m (n + 1) = cntb m n + (if m (n : Int) = true then 1 else 0) := rfl
    rw [e1, e2, ih, Int.toNat_natCast]
    split
    · split <;> omega
    · omega
theorem smv_const {m : Set8} {x : Int} : ∀ n : Nat, smv m (fun _ => x) n = x * cntb m n := by
  intro n
  induction n with
  | zero => simp [smv, cntb]
  | succ n ih =>
    unfold smv cntb
    rw [ih, Int.mul_add]
    split <;> simp
theorem evF_ok {R : Int} {m : Set8} {v : Vec} (hR : 0 ≤ R) (hc : 0 < cntb m 8) : (∀ k, 0 ≤ k → k < 8 → m k = true → 0 ≤ evF R m v k) ∧ smv m (evF R m v) 8 = R ∧ ∀ k, m k = false → evF R m v k = v k := by
  have hq : 0 ≤ R / cntb m 8 := Int.ediv_nonneg hR (by omega)
  refine ⟨fun k a b c => ?_, ?_, fun k c => ?_⟩
  · simp only [evF, c, if_true]
    split <;> omega
  · have e : smv m (evF R m v) 8 = smv m (fun j => R / cntb m 8 + (if 0 < R % cntb m 8 - cntb m j.toNat then 1 else 0)) 8 := smv_congr 8 (fun k a b => ⟨rfl, fun c => by simp [evF, c]⟩)
    have hmod : 0 ≤ R % cntb m 8 ∧ R % cntb m 8 < cntb m 8 := ⟨Int.emod_nonneg _ (by omega), Int.emod_lt_of_pos _ hc⟩
    rw [e, smv_add, smv_const, ev_cnt hmod.1]
    have := Int.mul_ediv_add_emod R (cntb m 8)
    rw [Int.mul_comm] at this
    omega
  · simp [evF, c]
/-- a row with one neighbour raised -/
def rsW (m : Set8) (k0 r : Int) (v : Vec) : Vec := if 0 < smv (wob m k0) v 8 then sh1 (1000 - (v k0 + (1000 - v k0) * r / 1000)) (wob m k0) v (upv v k0 (v k0 + (1000 - v k0) * r / 1000)) else evF (1000 - (v k0 + (1000 - v k0) * r / 1000)) (wob m k0) (upv v k0 (v k0 + (1000 - v k0) * r / 1000))
def rsF (fl : Int) (m : Set8) (k0 r : Int) (v : Vec) : Vec := if cntb (wob m k0) 8 = 0 then v else liF m fl (rsW m k0 r v)
theorem smv_wob {m : Set8} {v : Vec} {k0 : Int} (h0 : 0 ≤ k0) : ∀ n : Nat, smv m v n = smv (wob m k0) v n + (if k0 < (n : Int) ∧ m k0 = true then v k0 else 0) := by
  intro n
  induction n with
  | zero => simp [smv]; omega
  | succ n ih =>
    unfold smv
    rw [ih]
    by_cases hk : (n : Int) = k0
    · subst hk
      have e : wob m (n : Int) (n : Int) = false := by simp [wob]
      rw [e]
      by_cases hm : m (n : Int) = true
      · have hc : (n : Int) < ((n + 1 : Nat) : Int) ∧ m (n : Int) = true := ⟨by omega, hm⟩
        rw [if_pos hm, if_pos hc, if_neg (by omega)]; simp
      · rw [if_neg hm, if_neg (fun q => hm q.2)]; simp [hm]
    · have e : wob m k0 (n : Int) = m (n : Int) := by simp [wob, hk]
      rw [e]
      generalize (if m (n : Int) = true then v (n : Int) else 0) = t
      by_cases hc : k0 < (n : Int) ∧ m k0 = true
      · have hc2 : k0 < ((n + 1 : Nat) : Int) ∧ m k0 = true := ⟨by omega, hc.2⟩
        rw [if_pos hc, if_pos hc2]; omega
      · have hc2 : ¬ (k0 < ((n + 1 : Nat) : Int) ∧ m k0 = true) := fun q => hc ⟨by have := q.1; omega, q.2⟩
        rw [if_neg hc, if_neg hc2]; omega
theorem raise_num {s r : Int} (h1 : 0 ≤ s) (h2 : s ≤ 1000) (h3 : 0 ≤ r) (h4 : r ≤ 1000) : 0 ≤ (1000 - s) * r ∧ (1000 - s) * r ≤ 1000000 ∧ 0 ≤ (1000 - s) * r / 1000 ∧ s + (1000 - s) * r / 1000 ≤ 1000 := by
  have a1 : 0 ≤ (1000 - s) * r := Int.mul_nonneg (by omega) h3
  have a2 : (1000 - s) * r ≤ (1000 - s) * 1000 := Int.mul_le_mul_of_nonneg_left h4 (by omega)
  omega
theorem rsW_ok {m : Set8} {k0 r : Int} {v : Vec} (hk : 0 ≤ k0 ∧ k0 < 8) (hm : m k0 = true) (hr : 0 ≤ r ∧ r ≤ 1000) (hv : RV m v) (hc : ¬ cntb (wob m k0) 8 = 0) : RV m (rsW m k0 r v) ∧ ∀ k, m k = false → rsW m k0 r v k = v k := by
  have hc0 := cntb_rng (wob m k0) 8
  have hcp : 0 < cntb (wob m k0) 8 := by omega
  have hk0 := hv.1 k0 hk.1 hk.2 hm
  have hn := raise_num hk0.1 hk0.2 hr.1 hr.2
  have hcm := cntb_pos hk.1 hm 8 (by omega)
  generalize hs : v k0 + (1000 - v k0) * r / 1000 = s at *
  have hs0 : 0 ≤ s ∧ s ≤ 1000 := by omega
  have hw : ∀ k, 0 ≤ k → k < 8 → wob m k0 k = true → 0 ≤ v k := fun k a b c => by
    simp only [wob, Bool.and_eq_true] at c
    exact (hv.1 k a b c.1).1
  have hwk : wob m k0 k0 = false := by simp [wob]
  have key : ∀ w : Vec, ((∀ k, 0 ≤ k → k < 8 → wob m k0 k = true → 0 ≤ w k) ∧ smv (wob m k0) w 8 = 1000 - s ∧ ∀ k, wob m k0 k = false → w k = upv v k0 s k) → RV m w ∧ ∀ k, m k = false → w k = v k := by
    intro w hw3
    obtain ⟨w1, w2, w3⟩ := hw3
    have wk : w k0 = s := by rw [w3 k0 hwk, upv_eq]
    have hall : ∀ k, 0 ≤ k → k < 8 → m k = true → 0 ≤ w k := fun k a b c => by
      by_cases hkk : k = k0
      · subst hkk; omega
      · exact w1 k a b (by simp [wob, c, hkk])
    have hsum : smv m w 8 = 1000 := by rw [smv_wob hk.1, w2, if_pos ⟨by omega, hm⟩, wk]; omega
    refine ⟨⟨fun k a b c => ⟨hall k a b c, ?_⟩, fun _ => hsum⟩, fun k c => ?_⟩
    · have := smv_ge (m := m) (v := w) 8 (fun k a b c => hall k a (by omega) c) k a (by omega) c
      omega
    · have hkk : ¬ k = k0 := fun q => by rw [q, hm] at c; cases c
      rw [w3 k (by simp [wob, c]), upv_ne hkk]
  unfold rsW
  rw [hs]
  split
  · rename_i hV
    exact key _ (shF_ok (by omega) hw hV hcp)
  · exact key _ (evF_ok (by omega) hcp)
theorem rsF_ok {fl : Int} {m : Set8} {k0 r : Int} {v : Vec} (hf : 0 ≤ fl ∧ fl ≤ 100) (hk : 0 ≤ k0 ∧ k0 < 8) (hm : m k0 = true) (hr : 0 ≤ r ∧ r ≤ 1000) (hv : RV m v) : RV m (rsF fl m k0 r v) ∧ ∀ k, 0 ≤ k → k < 8 → m k = false → rsF fl m k0 r v k = v k := by
  unfold rsF
  split
  · exact ⟨hv, fun k _ _ _ => rfl⟩
  · rename_i hc
    have h1 := rsW_ok hk hm hr hv hc
    have h2 := dfv_le hf h1.1
    have h3 := liF_ok hf 1000 _ h1.1 (by omega)
    exact ⟨h3.1, fun k a b c => by rw [h3.2 k a b c, h1.2 k c]⟩
