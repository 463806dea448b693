/-! ===== arrays ===== -/
theorem arr_of {E : ET} {U : State} {k : Nat} (hK : KK E U) (hk : k < 6) {cell : Cell} (h1 : cell.cls = eA E k) (h2 : ∀ q, cell.vm ≠ .statics q) : U.isArrayOf cell (ki k) := by
  obtain ⟨-, kA, hkA, comp, hcomp⟩ := (hK.2.1 k hk).1 0 (fun _ => .null)
  exact ⟨h2, kA, by rw [h1]; exact hkA, comp, hcomp⟩
theorem arr_of9 {E : ET} {U : State} (hK : KK E U) {cell : Cell} (h1 : cell.cls = eA E 9) (h2 : ∀ q, cell.vm ≠ .statics q) : U.isArrayOf cell .int := by
  obtain ⟨-, kA, hkA, comp, hcomp⟩ := hK.2.2 0 (fun _ => .null)
  exact ⟨h2, kA, by rw [h1]; exact hkA, comp, hcomp⟩
theorem arr_kept {E : ET} {c : Int} {k : Nat} {n : Int} {f : Int → AV} {H' : Heap} {cell : Cell} {z : Int} {v : AV} (hn : 0 ≤ n ∧ n ≤ 1000000) (hz : 0 ≤ z ∧ z < n) (a1 : H'[ad E c]? = some (cell.setSlot z.toNat (cv E v))) (q2 : cell.cls = eA E k) (q3 : cell.vm ≠ .unknown) (q4 : ∀ q, cell.vm ≠ .statics q) (q5 : cell.slots.size = n.toNat) (q6 : ∀ j : Nat, j < n.toNat → cell.slots[j]? = some (cv E (f (j : Int)))) : crep E c (.inl (k, n, updz f z v)) H' := by
  refine ⟨hn, _, a1, q2, q3, q4, ?_, fun j hj => ?_⟩
  · show (cell.slots.setIfInBounds _ _).size = _
    simp [q5]
  · show (cell.slots.setIfInBounds z.toNat (cv E v))[j]? = _
    unfold updz
    by_cases h : j = z.toNat
    · subst h
      rw [if_pos (by omega)]
      simp [q5, hj]
    · rw [if_neg (by omega)]
      rw [Array.getElem?_setIfInBounds_ne (by omega)]
      exact q6 j hj
section SA
variable {E : ET} {g : GT} {mi : MI} {d : Nat} {lm : Nat × Nat} {RT : RTy} {F : FT} {K : KT} {L : LV} {st : List AV} {h : AH} {pc : Nat}
theorem s_iald (hd : decode mi.2.1 pc = .ok (.iaload, 1)) (hK : ∀ pc L st h, K pc L st h → G E g mi d lm RT pc L st h) (hx : exI E d lm RT F K (38, 0, 0, pc + 1, []) L st h) : G E g mi d lm RT pc L st h := by
  obtain ⟨p, e, R, s, m, args, below, meth, c, Q, c0, s0⟩ := g
  intro ok H locs ls hR hS hL hI
  obtain ⟨e1, e2, e3, e4, e5, e6, e7, e8, e9, e10⟩ := id ok
  rcases st with _ | ⟨(z | z), _ | ⟨(x | x | (_ | cc)), st⟩⟩ <;> try exact hx.elim
  replace hx : (match alv h cc z 0 with | some v => K (pc + 1) L (v :: st) h | none => False) := hx
  split at hx
  · rename_i v hv
    have hkk := hK _ _ _ _ hx ok H locs ls hR hS hL hI
    unfold alv at hv
    split at hv
    · rename_i k n f hcell
      split at hv
      · rename_i hcond
        cases hv
        obtain ⟨hk, hz0, hz1⟩ := hcond
        obtain ⟨-, hn, cell, q1, q2, q3, q4, q5, q6⟩ := hR.2.2 _ _ hcell
        have harr : s.isArrayOf cell .int := by
          rcases hk with rfl | ⟨-, rfl⟩
          · exact arr_of e6 (k := 0) (by omega) q2 q4
          · exact arr_of9 e6 q2 q4
        have hq := q6 z.toNat (by omega)
        rw [Int.toNat_of_nonneg hz0] at hq
        exact W.iald (g := F0 m pc ls (.int (z3 z) :: .ref (ad E cc) :: st.map (cv E))) e1 e2 q1 harr q3 (z3_in hz0 (by omega) (by omega)) (by rw [z3_clamp hz0 (by omega)]; exact hq) rfl rfl hd hkk
      · cases hv
    · cases hv
  · exact hx.elim
theorem s_bald (hd : decode mi.2.1 pc = .ok (.baload, 1)) (hK : ∀ pc L st h, K pc L st h → G E g mi d lm RT pc L st h) (hx : exI E d lm RT F K (38, 1, 0, pc + 1, []) L st h) : G E g mi d lm RT pc L st h := by
  obtain ⟨p, e, R, s, m, args, below, meth, c, Q, c0, s0⟩ := g
  intro ok H locs ls hR hS hL hI
  obtain ⟨e1, e2, e3, e4, e5, e6, e7, e8, e9, e10⟩ := id ok
  rcases st with _ | ⟨(z | z), _ | ⟨(x | x | (_ | cc)), st⟩⟩ <;> try exact hx.elim
  replace hx : (match alv h cc z 1 with | some v => K (pc + 1) L (v :: st) h | none => False) := hx
  split at hx
  · rename_i v hv
    have hkk := hK _ _ _ _ hx ok H locs ls hR hS hL hI
    unfold alv at hv
    split at hv
    · rename_i k n f hcell
      split at hv
      · rename_i hcond
        cases hv
        obtain ⟨hk, hz0, hz1⟩ := hcond
        obtain ⟨-, hn, cell, q1, q2, q3, q4, q5, q6⟩ := hR.2.2 _ _ hcell
        have hk1 : k = 1 := by omega
        subst hk1
        have harr : s.isArrayOf cell .boolean := arr_of e6 (k := 1) (by omega) q2 q4
        have hq := q6 z.toNat (by omega)
        rw [Int.toNat_of_nonneg hz0] at hq
        exact W.zald (g := F0 m pc ls (.int (z3 z) :: .ref (ad E cc) :: st.map (cv E))) e1 e2 q1 harr q3 (z3_in hz0 (by omega) (by omega)) (by rw [z3_clamp hz0 (by omega)]; exact hq) rfl rfl hd hkk
      · cases hv
    · cases hv
  · exact hx.elim
theorem s_lald (hd : decode mi.2.1 pc = .ok (.laload, 1)) (hK : ∀ pc L st h, K pc L st h → G E g mi d lm RT pc L st h) (hx : exI E d lm RT F K (38, 2, 0, pc + 1, []) L st h) : G E g mi d lm RT pc L st h := by
  obtain ⟨p, e, R, s, m, args, below, meth, c, Q, c0, s0⟩ := g
  intro ok H locs ls hR hS hL hI
  obtain ⟨e1, e2, e3, e4, e5, e6, e7, e8, e9, e10⟩ := id ok
  rcases st with _ | ⟨(z | z), _ | ⟨(x | x | (_ | cc)), st⟩⟩ <;> try exact hx.elim
  replace hx : (match alv h cc z 2 with | some v => K (pc + 1) L (v :: st) h | none => False) := hx
  split at hx
  · rename_i v hv
    have hkk := hK _ _ _ _ hx ok H locs ls hR hS hL hI
    unfold alv at hv
    split at hv
    · rename_i k n f hcell
      split at hv
      · rename_i hcond
        cases hv
        obtain ⟨hk, hz0, hz1⟩ := hcond
        obtain ⟨-, hn, cell, q1, q2, q3, q4, q5, q6⟩ := hR.2.2 _ _ hcell
        have hk1 : k = 2 := by omega
        subst hk1
        have harr : s.isArrayOf cell .long := arr_of e6 (k := 2) (by omega) q2 q4
        have hq := q6 z.toNat (by omega)
        rw [Int.toNat_of_nonneg hz0] at hq
        exact W.lald (g := F0 m pc ls (.int (z3 z) :: .ref (ad E cc) :: st.map (cv E))) e1 e2 q1 harr q3 (z3_in hz0 (by omega) (by omega)) (by rw [z3_clamp hz0 (by omega)]; exact hq) rfl rfl hd hkk
      · cases hv
    · cases hv
  · exact hx.elim
theorem s_aald (hd : decode mi.2.1 pc = .ok (.aaload, 1)) (hK : ∀ pc L st h, K pc L st h → G E g mi d lm RT pc L st h) (hx : exI E d lm RT F K (49, 0, 0, pc + 1, []) L st h) : G E g mi d lm RT pc L st h := by
  obtain ⟨p, e, R, s, m, args, below, meth, c, Q, c0, s0⟩ := g
  intro ok H locs ls hR hS hL hI
  obtain ⟨e1, e2, e3, e4, e5, e6, e7, e8, e9, e10⟩ := id ok
  rcases st with _ | ⟨(z | z), _ | ⟨(x | x | (_ | cc)), st⟩⟩ <;> try exact hx.elim
  replace hx : (match alr h cc z with | some v => K (pc + 1) L (v :: st) h | none => False) := hx
  split at hx
  · rename_i v hv
    have hkk := hK _ _ _ _ hx ok H locs ls hR hS hL hI
    unfold alr at hv
    split at hv
    · rename_i k n f hcell
      split at hv
      · rename_i hcond
        cases hv
        obtain ⟨hk, hz0, hz1⟩ := hcond
        obtain ⟨-, hn, cell, q1, q2, q3, q4, q5, q6⟩ := hR.2.2 _ _ hcell
        have harr : s.isArrayOf cell (ki k) := arr_of e6 (by omega) q2 q4
        have hty : (ki k).isReference = true := by
          rcases (show k = 3 ∨ k = 4 ∨ k = 5 by omega) with rfl | rfl | rfl <;> rfl
        have hq := q6 z.toNat (by omega)
        rw [Int.toNat_of_nonneg hz0] at hq
        exact W.aald (g := F0 m pc ls (.int (z3 z) :: .ref (ad E cc) :: st.map (cv E))) e1 e2 q1 harr hty q3 (z3_in hz0 (by omega) (by omega)) (by rw [z3_clamp hz0 (by omega)]; exact hq) rfl rfl hd hkk
      · cases hv
    · cases hv
  · exact hx.elim
theorem s_iast (hd : decode mi.2.1 pc = .ok (.iastore, 1)) (hK : ∀ pc L st h, K pc L st h → G E g mi d lm RT pc L st h) (hx : exI E d lm RT F K (39, 0, 0, pc + 1, []) L st h) : G E g mi d lm RT pc L st h := by
  obtain ⟨p, e, R, s, m, args, below, meth, c, Q, c0, s0⟩ := g
  intro ok H locs ls hR hS hL hI
  obtain ⟨e1, e2, e3, e4, e5, e6, e7, e8, e9, e10⟩ := id ok
  rcases st with _ | ⟨v, _ | ⟨(z | z), _ | ⟨(x | x | (_ | cc)), st⟩⟩⟩ <;> try exact hx.elim
  obtain ⟨hfit, hc0, hx⟩ := hx
  replace hfit : fitk 0 v := hfit
  replace hx : (match h.2.2 cc with | some (.inl (k, n, f)) => k = 0 ∧ 0 ≤ z ∧ z < n ∧ K (pc + 1) L st (hset h cc (.inl (k, n, updz f z v))) | _ => False) := hx
  rcases v with v | v | v <;> try exact hfit.elim
  split at hx
  · rename_i k n f hcell
    obtain ⟨rfl, hz0, hz1, hx⟩ := hx
    obtain ⟨-, hn, cell, q1, q2, q3, q4, q5, q6⟩ := hR.2.2 _ _ hcell
    refine W.iast (g := F0 m pc ls (.int (z3 v) :: .int (z3 z) :: .ref (ad E cc) :: st.map (cv E))) e1 e2 q1 (arr_of e6 (k := 0) (by omega) q2 q4) q3 (z3_in hz0 (by omega) (by omega)) rfl rfl hd fun H' a1 a2 a3 => ?_
    rw [z3_clamp hz0 (by omega)] at a1
    exact hK _ _ _ _ hx ok H' _ ls (hR.set hcell (arr_kept hn ⟨hz0, hz1⟩ (v := vi v) a1 q2 q3 q4 q5 q6) a2 a3) (hS.put hc0 a3) hL hI
  · exact hx.elim
theorem s_last (hd : decode mi.2.1 pc = .ok (.lastore, 1)) (hK : ∀ pc L st h, K pc L st h → G E g mi d lm RT pc L st h) (hx : exI E d lm RT F K (39, 2, 0, pc + 1, []) L st h) : G E g mi d lm RT pc L st h := by
  obtain ⟨p, e, R, s, m, args, below, meth, c, Q, c0, s0⟩ := g
  intro ok H locs ls hR hS hL hI
  obtain ⟨e1, e2, e3, e4, e5, e6, e7, e8, e9, e10⟩ := id ok
  rcases st with _ | ⟨v, _ | ⟨(z | z), _ | ⟨(x | x | (_ | cc)), st⟩⟩⟩ <;> try exact hx.elim
  obtain ⟨hfit, hc0, hx⟩ := hx
  replace hfit : fitk 2 v := hfit
  replace hx : (match h.2.2 cc with | some (.inl (k, n, f)) => k = 2 ∧ 0 ≤ z ∧ z < n ∧ K (pc + 1) L st (hset h cc (.inl (k, n, updz f z v))) | _ => False) := hx
  rcases v with v | v | v <;> try exact hfit.elim
  split at hx
  · rename_i k n f hcell
    obtain ⟨rfl, hz0, hz1, hx⟩ := hx
    obtain ⟨-, hn, cell, q1, q2, q3, q4, q5, q6⟩ := hR.2.2 _ _ hcell
    refine W.last (g := F0 m pc ls (.long (z6 v) :: .int (z3 z) :: .ref (ad E cc) :: st.map (cv E))) e1 e2 q1 (arr_of e6 (k := 2) (by omega) q2 q4) q3 (z3_in hz0 (by omega) (by omega)) rfl rfl hd fun H' a1 a2 a3 => ?_
    rw [z3_clamp hz0 (by omega)] at a1
    exact hK _ _ _ _ hx ok H' _ ls (hR.set hcell (arr_kept hn ⟨hz0, hz1⟩ (v := vl v) a1 q2 q3 q4 q5 q6) a2 a3) (hS.put hc0 a3) hL hI
  · exact hx.elim
theorem s_bast (hd : decode mi.2.1 pc = .ok (.bastore, 1)) (hK : ∀ pc L st h, K pc L st h → G E g mi d lm RT pc L st h) (hx : exI E d lm RT F K (39, 1, 0, pc + 1, []) L st h) : G E g mi d lm RT pc L st h := by
  obtain ⟨p, e, R, s, m, args, below, meth, c, Q, c0, s0⟩ := g
  intro ok H locs ls hR hS hL hI
  obtain ⟨e1, e2, e3, e4, e5, e6, e7, e8, e9, e10⟩ := id ok
  rcases st with _ | ⟨v, _ | ⟨(z | z), _ | ⟨(x | x | (_ | cc)), st⟩⟩⟩ <;> try exact hx.elim
  obtain ⟨hfit, hc0, hx⟩ := hx
  replace hfit : fitk 1 v := hfit
  replace hx : (match h.2.2 cc with | some (.inl (k, n, f)) => k = 1 ∧ 0 ≤ z ∧ z < n ∧ K (pc + 1) L st (hset h cc (.inl (k, n, updz f z v))) | _ => False) := hx
  rcases v with v | v | v <;> try exact hfit.elim
  split at hx
  · rename_i k n f hcell
    obtain ⟨rfl, hz0, hz1, hx⟩ := hx
    obtain ⟨-, hn, cell, q1, q2, q3, q4, q5, q6⟩ := hR.2.2 _ _ hcell
    refine W.zast (g := F0 m pc ls (.int (z3 v) :: .int (z3 z) :: .ref (ad E cc) :: st.map (cv E))) e1 e2 q1 (arr_of e6 (k := 1) (by omega) q2 q4) q3 (z3_in hz0 (by omega) (by omega)) rfl rfl hd fun H' a1 a2 a3 => ?_
    rw [z3_clamp hz0 (by omega)] at a1
    rw [show narrow .boolean (.int (z3 v)) = cv E (vi v) from (cv_fit (E := E) (ty := .boolean) (v := vi v) hfit).1] at a1
    exact hK _ _ _ _ hx ok H' _ ls (hR.set hcell (arr_kept hn ⟨hz0, hz1⟩ (v := vi v) a1 q2 q3 q4 q5 q6) a2 a3) (hS.put hc0 a3) hL hI
  · exact hx.elim
theorem s_alen (hd : decode mi.2.1 pc = .ok (.arraylength, 1)) (hK : ∀ pc L st h, K pc L st h → G E g mi d lm RT pc L st h) (hx : exI E d lm RT F K (40, 0, 0, pc + 1, []) L st h) : G E g mi d lm RT pc L st h := by
  obtain ⟨p, e, R, s, m, args, below, meth, c, Q, c0, s0⟩ := g
  intro ok H locs ls hR hS hL hI
  obtain ⟨e1, e2, e3, e4, e5, e6, e7, e8, e9, e10⟩ := id ok
  rcases st with _ | ⟨(x | x | (_ | cc)), st⟩ <;> try exact hx.elim
  replace hx : (match h.2.2 cc with | some (.inl (k, n, f)) => (k < 6 ∨ k = 9) ∧ K (pc + 1) L (vi n :: st) h | _ => False) := hx
  split at hx
  · rename_i k n f hcell
    obtain ⟨h9, hx⟩ := hx
    have hkk := hK _ _ _ _ hx ok H locs ls hR hS hL hI
    obtain ⟨-, hn, cell, q1, q2, q3, q4, q5, q6⟩ := hR.2.2 _ _ hcell
    have hsz : cell.slots.size.toInt32 = z3 n := by
      rw [q5]
      apply Int32.toInt_inj.mp
      rw [z3_int (by omega) (by omega)]
      show (Int32.ofNat _).toInt = _
      rw [Int32.toInt_ofNat_of_lt (by omega)]
      omega
    rcases h9 with h6 | rfl
    · exact W.alen (g := F0 m pc ls (.ref (ad E cc) :: st.map (cv E))) e1 e2 q1 (arr_of e6 h6 q2 q4) hsz rfl rfl hd hkk
    · exact W.alen (g := F0 m pc ls (.ref (ad E cc) :: st.map (cv E))) e1 e2 q1 (arr_of9 e6 q2 q4) hsz rfl rfl hd hkk
  · exact hx.elim
end SA
