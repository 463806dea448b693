/-! ===== the heap after both constructors, and what it holds ===== -/
section
variable {E : ET} {S : SCR}
theorem c_init8 : Ctr E 5 43 [vr 0] (HH S 1 14 (fun c' => if c' = ((0 : Nat) : Int) then some (.inr (8, dfl 8)) else T0 c')) none (HH S 248 1900 (TX 64 12 3)) := by
  rw [cHH_0 (arr := arrX) (T := fun c' => if c' = ((0 : Nat) : Int) then some (.inr (8, dfl 8)) else T0 c') (c := 0) (ci := 8) (fs := dfl 8) rfl]
  rw [show cHH S 1 14 0 arrX (fun c' => if c' = ((0 : Nat) : Int) then some (.inr (8, dfl 8)) else T0 c') 0 8 (dfl 8) = cHH S 1 14 0 arrX T0 0 8 (dfl 8) from by
    unfold cHH
    congr 1
    funext c'
    unfold CT
    by_cases q : c' = 0
    · rw [if_pos q, if_pos q]
    · rw [if_neg q, if_neg q]
      dsimp only
      have q2 : ¬ c' = ((0 : Nat) : Int) := q
      rw [if_neg q2]]
  refine Ctr_of mi_X8_init mo_X8_init (Nat.le_of_ble_eq_true rfl) ⟨Nat.le_of_ble_eq_true rfl, Nat.le_of_ble_eq_true rfl⟩ (fun g => ?_)
  rw [show entL mi_X8_init.2.2.1 [vr 0] = [some (vr 0), none] from rfl]
  have l3 : (248 : Nat) ≤ ((HH S 248 1900 (TX 64 12 3)).1, (HH S 248 1900 (TX 64 12 3)).2.1).1 := Nat.le_refl 248
  have l4 : (1900 : Nat) ≤ ((HH S 248 1900 (TX 64 12 3)).1, (HH S 248 1900 (TX 64 12 3)).2.1).2 := Nat.le_refl 1900
  refine l_init8a l3 l4 ?_
  have hl := l_rows (E := E) (S := S) (g := g) l3 l4 (RT := fun v h'' => v = none ∧ h'' = HH S 248 1900 (TX 64 12 3)) (l_walk l3 l4 (l_kinds l3 l4 ⟨rfl, rfl⟩) 0 (by omega)) 0 (by omega)
  rw [← TX_000] at hl
  exact hl
/-- cells that are the same as far as they reach -/
def eqc : AC → AC → Prop
  | .inl (k, n, f), .inl (k', n', f') => k = k' ∧ n = n' ∧ ∀ j, 0 ≤ j → j < n → f j = f' j
  | .inr a, .inr b => a = b
  | _, _ => False
theorem crep_eqc {c : Int} {x y : AC} {H : Heap} (h : eqc x y) (hx : crep E c x H) : crep E c y H := by
  rcases x with ⟨k, n, f⟩ | a <;> rcases y with ⟨k', n', f'⟩ | b
  · obtain ⟨rfl, rfl, hf⟩ := h
    obtain ⟨h0, ce, h1, h2, h3, h4, h5, h6⟩ := hx
    exact ⟨h0, ce, h1, h2, h3, h4, h5, fun j hj => by rw [h6 j hj, hf j (by omega) (by omega)]⟩
  · exact h.elim
  · exact h.elim
  · have : a = b := h
    rw [← this]; exact hx
theorem G_rep {g : GT} {mi : MI} {d : Nat} {lm : Nat × Nat} {RT : RTy} {pc : Nat} {L : LV} {st : List AV} {h h' : AH} (h1 : h.1 = h'.1) (h2 : h.2.1 = h'.2.1) (hc : ∀ c y, h'.2.2 c = some y → ∃ x, h.2.2 c = some x ∧ eqc x y) (hg : G E g mi d lm RT pc L st h') : G E g mi d lm RT pc L st h := by
  obtain ⟨p, e, R, s, m, args, below, meth, c, Q, c0, s0⟩ := g
  intro ok H locs ls hR hS hL hI
  have hR' : Rep E h' H := by
    obtain ⟨a1, a2, a3⟩ := hR
    refine ⟨by rw [← h1]; exact a1, a2, fun c y hy => ?_⟩
    obtain ⟨x, hx, he⟩ := hc c y hy
    have := a3 c x hx
    exact ⟨by rw [← h1]; exact this.1, crep_eqc he this.2⟩
  have := hg ok H locs ls hR' hS hL (by unfold In4 at hI ⊢; rw [← h1, ← h2]; exact hI)
  rw [← h1, ← h2] at this
  exact this
end
/-- the memory at the start -/
def M0 : Mem := fun c z => if c = 0 then (if z = 8 then 20 else if z = 9 then 300 else 0) else if c = 14 then (if z = 0 then 1 else 0) else if c = 248 then (if z = 6 then 20 else if z = 7 then 300 else if z = 11 then 1 else 0) else if c = 253 then -9 else if 209 ≤ c ∧ c < 245 ∧ (c - 209) % 3 = 0 ∧ z = 8 then -9 else 0
def T9 : Int → Option AC := fun c' => if c' = ((248 : Nat) : Int) then some (.inr (9, dfl 9)) else TX 64 12 3 c'
def TF : Int → Option AC := lkT (CT T9 249 26 arr9 ((248 : Nat) : Int) 9 (fs9 249)) (((249 : Nat) : Int) + 4) 64
theorem M0_low {c z : Int} (h0 : ¬ c = 0) (h1 : ¬ c = 14) (h2 : ¬ c = 248) (h3 : ¬ c = 253) (h4 : ¬ (209 ≤ c ∧ c < 245 ∧ (c - 209) % 3 = 0 ∧ z = 8)) : M0 c z = 0 := by
  unfold M0
  rw [if_neg h0, if_neg h1, if_neg h2, if_neg h3, if_neg h4]
theorem TF_mid {c : Int} (h1 : 17 ≤ c) (h2 : c < 245) : TF c = some (if c < 209 then RWc c else WKc c) := by
  unfold TF lkT CT T9 TX
  rw [if_neg (by omega), if_neg (by omega), if_neg (by omega), if_neg (by omega), if_neg (by omega), if_neg (by omega), if_neg (by omega), if_neg (by omega), if_neg (by omega)]
  by_cases q : c < 209
  · have p : 17 ≤ c ∧ c < 17 + 3 * ((64 : Nat) : Int) := by omega
    rw [if_pos p, if_pos q]
  · have p : ¬ (17 ≤ c ∧ c < 17 + 3 * ((64 : Nat) : Int)) := by omega
    have p2 : 209 ≤ c ∧ c < 209 + 3 * ((12 : Nat) : Int) := by omega
    rw [if_neg p, if_pos p2, if_neg q]
theorem TF_ok : ∀ c y, celF M0 c = some y → ∃ x, TF c = some x ∧ eqc x y := by
  intro c y hy
  by_cases hm : 17 ≤ c ∧ c < 245
  · refine ⟨_, TF_mid hm.1 hm.2, ?_⟩
    by_cases q : c < 209
    · rw [if_pos q]
      obtain ⟨r, hr⟩ : ∃ r, r = (c - 17) / 3 := ⟨_, rfl⟩
      by_cases z : (c - 17) % 3 = 0
      · have es : shp c = some (15, 0) := by unfold shp; rw [if_pos (by omega), if_pos z]
        rw [cel_ob es (by omega)] at hy
        rw [← Option.some.inj hy]
        unfold RWc
        rw [if_pos z]
        show (5, [vr (c + 1), vr (c + 2), vi 0, vi 0, vi 0]) = (5, [vr (c + 1), vr (c + 2), vi (M0 c 2), vi (M0 c 3), vi (M0 c 4)])
        rw [M0_low (by omega) (by omega) (by omega) (by omega) (by omega), M0_low (by omega) (by omega) (by omega) (by omega) (by omega), M0_low (by omega) (by omega) (by omega) (by omega) (by omega)]
      · have es : shp c = some (0, 8) := by unfold shp; rw [if_pos (by omega), if_neg z]
        rw [cel_ar es (by omega)] at hy
        rw [← Option.some.inj hy]
        unfold RWc
        rw [if_neg z]
        refine ⟨rfl, rfl, fun j _ _ => ?_⟩
        show vi 0 = vi (M0 c j)
        rw [M0_low (by omega) (by omega) (by omega) (by omega) (by omega)]
    · rw [if_neg q]
      by_cases z : (c - 209) % 3 = 0
      · have es : shp c = some (17, 0) := by unfold shp; rw [if_neg (by omega), if_pos (by omega), if_pos z]
        rw [cel_ob es (by omega)] at hy
        rw [← Option.some.inj hy]
        unfold WKc
        rw [if_pos z]
        have e8 : M0 c 8 = -9 := by unfold M0; rw [if_neg (by omega), if_neg (by omega), if_neg (by omega), if_neg (by omega), if_pos (by omega)]
        have eo : ∀ j, ¬ j = 8 → M0 c j = 0 := fun j hj => M0_low (by omega) (by omega) (by omega) (by omega) (by omega)
        show (7, [vr (c + 1), vr (c + 2), vi 0, vi 0, vi 0, vi 0, vi 0, vi 0, vi (-9), vi 0, vi 0, vi 0, vi 0]) = (7, [vr (c + 1), vr (c + 2), vi (M0 c 2), vi (M0 c 3), vi (M0 c 4), vi (M0 c 5), vi (M0 c 6), vi (M0 c 7), vi (M0 c 8), vi (M0 c 9), vi (M0 c 10), vi (M0 c 11), vi (M0 c 12)])
        rw [e8, eo 2 (by omega), eo 3 (by omega), eo 4 (by omega), eo 5 (by omega), eo 6 (by omega), eo 7 (by omega), eo 9 (by omega), eo 10 (by omega), eo 11 (by omega), eo 12 (by omega)]
      · have es : shp c = some (0, 8) := by unfold shp; rw [if_neg (by omega), if_pos (by omega), if_neg z]
        rw [cel_ar es (by omega)] at hy
        rw [← Option.some.inj hy]
        unfold WKc
        rw [if_neg z]
        refine ⟨rfl, rfl, fun j _ _ => ?_⟩
        show vi 0 = vi (M0 c j)
        rw [M0_low (by omega) (by omega) (by omega) (by omega) (by omega)]
  · by_cases hc : 0 ≤ c ∧ c < 275
    · have hcc : c = 0 ∨ c = 1 ∨ c = 2 ∨ c = 3 ∨ c = 4 ∨ c = 5 ∨ c = 6 ∨ c = 7 ∨ c = 8 ∨ c = 9 ∨ c = 10 ∨ c = 11 ∨ c = 12 ∨ c = 13 ∨ c = 14 ∨ c = 15 ∨ c = 16 ∨ c = 245 ∨ c = 246 ∨ c = 247 ∨ c = 248 ∨ c = 249 ∨ c = 250 ∨ c = 251 ∨ c = 252 ∨ c = 253 ∨ c = 254 ∨ c = 255 ∨ c = 256 ∨ c = 257 ∨ c = 258 ∨ c = 259 ∨ c = 260 ∨ c = 261 ∨ c = 262 ∨ c = 263 ∨ c = 264 ∨ c = 265 ∨ c = 266 ∨ c = 267 ∨ c = 268 ∨ c = 269 ∨ c = 270 ∨ c = 271 ∨ c = 272 ∨ c = 273 ∨ c = 274 := by omega
      rcases hcc with rfl | rfl | rfl | rfl | rfl | rfl | rfl | rfl | rfl | rfl | rfl | rfl | rfl | rfl | rfl | rfl | rfl | rfl | rfl | rfl | rfl | rfl | rfl | rfl | rfl | rfl | rfl | rfl | rfl | rfl | rfl | rfl | rfl | rfl | rfl | rfl | rfl | rfl | rfl | rfl | rfl | rfl | rfl | rfl | rfl | rfl | rfl
      · refine ⟨_, rfl, ?_⟩
        rw [← Option.some.inj hy]
        rfl
      · refine ⟨_, rfl, ?_⟩
        rw [← Option.some.inj hy]
        rfl
      · refine ⟨_, rfl, ?_⟩
        rw [← Option.some.inj hy]
        exact ⟨rfl, rfl, fun j _ _ => rfl⟩
      · refine ⟨_, rfl, ?_⟩
        rw [← Option.some.inj hy]
        exact ⟨rfl, rfl, fun j _ _ => rfl⟩
      · refine ⟨_, rfl, ?_⟩
        rw [← Option.some.inj hy]
        exact ⟨rfl, rfl, fun j _ _ => rfl⟩
      · refine ⟨_, rfl, ?_⟩
        rw [← Option.some.inj hy]
        exact ⟨rfl, rfl, fun j _ _ => rfl⟩
      · refine ⟨_, rfl, ?_⟩
        rw [← Option.some.inj hy]
        exact ⟨rfl, rfl, fun j _ _ => rfl⟩
      · refine ⟨_, rfl, ?_⟩
        rw [← Option.some.inj hy]
        exact ⟨rfl, rfl, fun j a b => if_pos ⟨a, b⟩⟩
      · refine ⟨_, rfl, ?_⟩
        rw [← Option.some.inj hy]
        rfl
      · refine ⟨_, rfl, ?_⟩
        rw [← Option.some.inj hy]
        exact ⟨rfl, rfl, fun j _ _ => rfl⟩
      · refine ⟨_, rfl, ?_⟩
        rw [← Option.some.inj hy]
        exact ⟨rfl, rfl, fun j _ _ => rfl⟩
      · refine ⟨_, rfl, ?_⟩
        rw [← Option.some.inj hy]
        exact ⟨rfl, rfl, fun j _ _ => rfl⟩
      · refine ⟨_, rfl, ?_⟩
        rw [← Option.some.inj hy]
        exact ⟨rfl, rfl, fun j a b => if_pos ⟨a, b⟩⟩
      · refine ⟨_, rfl, ?_⟩
        rw [← Option.some.inj hy]
        refine ⟨rfl, rfl, fun j a b => ?_⟩
        show (if 0 ≤ j ∧ j < ((3 : Nat) : Int) then vr (245 + 1 * j) else vn) = vr (245 + j)
        rw [if_pos ⟨a, b⟩, Int.one_mul]
      · refine ⟨_, rfl, ?_⟩
        rw [← Option.some.inj hy]
        rfl
      · refine ⟨_, rfl, ?_⟩
        rw [← Option.some.inj hy]
        exact ⟨rfl, rfl, fun j _ _ => rfl⟩
      · refine ⟨_, rfl, ?_⟩
        rw [← Option.some.inj hy]
        exact ⟨rfl, rfl, fun j _ _ => rfl⟩
      · refine ⟨_, rfl, ?_⟩
        rw [← Option.some.inj hy]
        rfl
      · refine ⟨_, rfl, ?_⟩
        rw [← Option.some.inj hy]
        rfl
      · refine ⟨_, rfl, ?_⟩
        rw [← Option.some.inj hy]
        rfl
      · refine ⟨_, rfl, ?_⟩
        rw [← Option.some.inj hy]
        rfl
      · refine ⟨_, rfl, ?_⟩
        rw [← Option.some.inj hy]
        exact ⟨rfl, rfl, fun j _ _ => rfl⟩
      · refine ⟨_, rfl, ?_⟩
        rw [← Option.some.inj hy]
        exact ⟨rfl, rfl, fun j _ _ => rfl⟩
      · refine ⟨_, rfl, ?_⟩
        rw [← Option.some.inj hy]
        exact ⟨rfl, rfl, fun j _ _ => rfl⟩
      · refine ⟨_, rfl, ?_⟩
        rw [← Option.some.inj hy]
        exact ⟨rfl, rfl, fun j _ _ => rfl⟩
      · refine ⟨_, rfl, ?_⟩
        rw [← Option.some.inj hy]
        exact ⟨rfl, rfl, fun j a b => if_pos ⟨a, b⟩⟩
      · refine ⟨_, rfl, ?_⟩
        rw [← Option.some.inj hy]
        exact ⟨rfl, rfl, fun j _ _ => rfl⟩
      · refine ⟨_, rfl, ?_⟩
        rw [← Option.some.inj hy]
        exact ⟨rfl, rfl, fun j _ _ => rfl⟩
      · refine ⟨_, rfl, ?_⟩
        rw [← Option.some.inj hy]
        exact ⟨rfl, rfl, fun j _ _ => rfl⟩
      · refine ⟨_, rfl, ?_⟩
        rw [← Option.some.inj hy]
        exact ⟨rfl, rfl, fun j _ _ => rfl⟩
      · refine ⟨_, rfl, ?_⟩
        rw [← Option.some.inj hy]
        exact ⟨rfl, rfl, fun j _ _ => rfl⟩
      · refine ⟨_, rfl, ?_⟩
        rw [← Option.some.inj hy]
        exact ⟨rfl, rfl, fun j _ _ => rfl⟩
      · refine ⟨_, rfl, ?_⟩
        rw [← Option.some.inj hy]
        exact ⟨rfl, rfl, fun j _ _ => rfl⟩
      · refine ⟨_, rfl, ?_⟩
        rw [← Option.some.inj hy]
        exact ⟨rfl, rfl, fun j _ _ => rfl⟩
      · refine ⟨_, rfl, ?_⟩
        rw [← Option.some.inj hy]
        exact ⟨rfl, rfl, fun j _ _ => rfl⟩
      · refine ⟨_, rfl, ?_⟩
        rw [← Option.some.inj hy]
        exact ⟨rfl, rfl, fun j _ _ => rfl⟩
      · refine ⟨_, rfl, ?_⟩
        rw [← Option.some.inj hy]
        exact ⟨rfl, rfl, fun j _ _ => rfl⟩
      · refine ⟨_, rfl, ?_⟩
        rw [← Option.some.inj hy]
        exact ⟨rfl, rfl, fun j _ _ => rfl⟩
      · refine ⟨_, rfl, ?_⟩
        rw [← Option.some.inj hy]
        exact ⟨rfl, rfl, fun j _ _ => rfl⟩
      · refine ⟨_, rfl, ?_⟩
        rw [← Option.some.inj hy]
        exact ⟨rfl, rfl, fun j _ _ => rfl⟩
      · refine ⟨_, rfl, ?_⟩
        rw [← Option.some.inj hy]
        exact ⟨rfl, rfl, fun j _ _ => rfl⟩
      · refine ⟨_, rfl, ?_⟩
        rw [← Option.some.inj hy]
        exact ⟨rfl, rfl, fun j _ _ => rfl⟩
      · refine ⟨_, rfl, ?_⟩
        rw [← Option.some.inj hy]
        exact ⟨rfl, rfl, fun j _ _ => rfl⟩
      · refine ⟨_, rfl, ?_⟩
        rw [← Option.some.inj hy]
        exact ⟨rfl, rfl, fun j _ _ => rfl⟩
      · refine ⟨_, rfl, ?_⟩
        rw [← Option.some.inj hy]
        exact ⟨rfl, rfl, fun j _ _ => rfl⟩
      · refine ⟨_, rfl, ?_⟩
        rw [← Option.some.inj hy]
        exact ⟨rfl, rfl, fun j _ _ => rfl⟩
      · refine ⟨_, rfl, ?_⟩
        rw [← Option.some.inj hy]
        exact ⟨rfl, rfl, fun j _ _ => rfl⟩
    · exfalso
      have : celF M0 c = none := by
        unfold celF
        have es : shp c = none := by
          unfold shp
          rw [if_neg (by omega), if_neg (by omega), if_neg (by omega)]
          by_cases q : 245 ≤ c
          · rw [if_pos q]
            exact List.getElem?_eq_none (by simp; omega)
          · rw [if_neg q]
        rw [es]
      rw [this] at hy
      cases hy
