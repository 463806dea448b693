/-! ===== rows of the two halves: what comes out is alike ===== -/
theorem liF_eqv {m m' : Set8} {fl : Int} {v v' : Vec} (hm : ∀ k : Int, 0 ≤ k → k < 8 → m k = m' k) (he : eqv m v v') : eqv m (liF m fl v) (liF m' fl v') := liN_congr hm 1000 v v' he
theorem evF_eqv {m m' : Set8} {R : Int} {v v' : Vec} (hm : ∀ k : Int, 0 ≤ k → k < 8 → m k = m' k) : eqv m (evF R m v) (evF R m' v') := by
  intro k a b c
  have e8 := cntb_congr (m := m) (m' := m') 8 (fun k a b => hm k a b)
  have ek := cntb_congr (m := m) (m' := m') k.toNat (fun j a1 b1 => hm j a1 (by omega))
  unfold evF
  have c' : m' k = true := by rw [← hm k a b]; exact c
  rw [if_pos c, if_pos c', e8, ek]
theorem wob_congr {m m' : Set8} {k0 : Int} (hm : ∀ k : Int, 0 ≤ k → k < 8 → m k = m' k) : ∀ k : Int, 0 ≤ k → k < 8 → wob m k0 k = wob m' k0 k := fun k a b => by unfold wob; rw [hm k a b]
theorem fdF_eqv {m m' : Set8} {fl e : Int} {v v' : Vec} (hm : ∀ k : Int, 0 ≤ k → k < 8 → m k = m' k) (he : eqv m v v') : eqv m (fdF fl m e v) (fdF fl m' e v') := by
  have e8 := cntb_congr (m := m) (m' := m') 8 (fun k a b => hm k a b)
  unfold fdF
  rw [← e8]
  by_cases c : cntb m 8 = 0
  · rw [if_pos c, if_pos c]; exact he
  · rw [if_neg c, if_neg c]
    refine liF_eqv hm ?_
    unfold sh1
    refine shF_eqv hm ?_
    intro k a b d
    unfold fdP
    rw [he k a b d, e8]
theorem dif_cnt {m m' : Set8} {v v' w w' : Vec} (hm : ∀ k : Int, 0 ≤ k → k < 8 → m k = m' k) (h1 : eqv m v v') (h2 : eqv m w w') : cntb (dif m v w) 8 = cntb (dif m' v' w') 8 := cntb_congr 8 (fun k a b => by
  have b' : k < 8 := b
  unfold dif
  by_cases c : m k = true
  · rw [h1 k a b' c, h2 k a b' c, hm k a b']
  · have c' : m k = false := by simpa using c
    rw [← hm k a b', c']; rfl)
theorem shF_off {R : Int} {m : Set8} {p v w : Vec} (hc : 0 < cntb m 8) {k : Int} (hk : m k = false) : (shF R m p v w).1 k = v k := by
  unfold shF
  rw [(gvN_ok hc _).2.2 k hk]
  unfold qv
  simp [hk]
theorem rsF_eqv {m m' : Set8} {fl k0 r : Int} {v v' : Vec} (hk0 : 0 ≤ k0 ∧ k0 < 8) (hmk : m k0 = true) (hm : ∀ k : Int, 0 ≤ k → k < 8 → m k = m' k) (he : eqv m v v') : eqv m (rsF fl m k0 r v) (rsF fl m' k0 r v') := by
  have hw := wob_congr (k0 := k0) hm
  have e8 := cntb_congr (m := wob m k0) (m' := wob m' k0) 8 (fun k a b => hw k a b)
  have hwm : ∀ k, wob m k0 k = true → m k = true := fun k h => by unfold wob at h; simp only [Bool.and_eq_true] at h; exact h.1
  have ev : eqv (wob m k0) v v' := fun k a b c => he k a b (hwm k c)
  have es : smv (wob m k0) v 8 = smv (wob m' k0) v' 8 := smv_congr 8 (fun k a b => ⟨hw k a b, fun c => ev k a b c⟩)
  have e0 := he k0 hk0.1 hk0.2 hmk
  unfold rsF
  rw [← e8]
  by_cases c : cntb (wob m k0) 8 = 0
  · rw [if_pos c, if_pos c]; exact he
  · rw [if_neg c, if_neg c]
    refine liF_eqv hm ?_
    have hc : 0 < cntb (wob m k0) 8 := by have := cntb_rng (wob m k0) 8; omega
    have hc' : 0 < cntb (wob m' k0) 8 := by rw [← e8]; exact hc
    have k0f : ∀ m : Set8, wob m k0 k0 = false := fun m => by unfold wob; simp
    unfold rsW
    rw [← es, ← e0]
    by_cases c2 : 0 < smv (wob m k0) v 8
    · rw [if_pos c2, if_pos c2]
      intro k a b d
      unfold sh1
      by_cases q : k = k0
      · rw [q, shF_off hc (k0f m), shF_off hc' (k0f m'), upv_eq, upv_eq]
      · exact shF_eqv hw ev k a b (by unfold wob; simp [d, q])
    · rw [if_neg c2, if_neg c2]
      intro k a b d
      by_cases q : k = k0
      · rw [q]
        unfold evF
        rw [k0f m, k0f m', if_neg (by simp), if_neg (by simp), upv_eq, upv_eq]
      · exact evF_eqv hw k a b (by unfold wob; simp [d, q])
