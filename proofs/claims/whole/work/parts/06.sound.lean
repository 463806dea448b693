/-! ===== what the abstract machine does, the machine does: stack, locals, numbers, branches ===== -/
def prs (E : ET) (L : LV) : List (Nat × Value) := (List.range L.length).filterMap fun i => match L[i]? with
  | some (some v) => some (i, cv E v)
  | _ => none
theorem mem_prs {E : ET} {L : LV} {i : Nat} {w : Value} : (i, w) ∈ prs E L ↔ ∃ v, L[i]? = some (some v) ∧ w = cv E v := by
  unfold prs
  rw [List.mem_filterMap]
  constructor
  · rintro ⟨j, hj, h⟩
    split at h
    · rename_i v hv
      cases h
      exact ⟨v, hv, rfl⟩
    · cases h
  · rintro ⟨v, hv, rfl⟩
    have hl : i < L.length := (List.getElem?_eq_some_iff.mp hv).1
    exact ⟨i, List.mem_range.mpr hl, by rw [hv]⟩
theorem LR.has {E : ET} {ls : Array Slot} {nL : Nat} {L : LV} (h : LR E ls nL L) : lv_has ls nL (prs E L) := by
  refine ⟨h.1, h.2.1, fun q hq => ?_⟩
  obtain ⟨i, w⟩ := q
  obtain ⟨v, hv, rfl⟩ := mem_prs.mp hq
  exact h.2.2.2 i v hv
theorem cv_cat2 {E : ET} {v : AV} (h : (cv E v).category = 2) : ∃ z, v = vl z := by
  rcases v with z | z | (_ | z)
  · cases h
  · exact ⟨z, rfl⟩
  · cases h
  · cases h
theorem LR.set1 {E : ET} {ls' : Array Slot} {nL : Nat} {L : LV} {i : Nat} {v : AV} (hn : L.length = nL) (hi : i < nL) (hk : lok L i = true) (h : lv_has ls' nL ((i, cv E v) :: (prs E L).filter (fun q => !(q.1 == i) && !(q.1 + 1 == i && q.2.category == 2)))) : LR E ls' nL (L.set i (some v)) := by
  refine ⟨h.1, h.2.1, by rw [List.length_set]; exact hn, fun j w hw => ?_⟩
  by_cases hj : i = j
  · subst hj
    rw [List.getElem?_set_self (by omega)] at hw
    cases hw
    exact h.2.2 (i, cv E v) List.mem_cons_self
  · rw [List.getElem?_set_ne hj] at hw
    refine h.2.2 (j, cv E w) (List.mem_cons_of_mem _ (List.mem_filter.mpr ⟨mem_prs.mpr ⟨w, hw, rfl⟩, ?_⟩))
    have h1 : (j == i) = false := by simpa using fun e => hj e.symm
    by_cases h2 : j + 1 = i
    · subst h2
      have : ¬ (cv E w).category = 2 := by
        intro hc
        obtain ⟨z, rfl⟩ := cv_cat2 hc
        simp [lok, hw] at hk
      simp [h1, this]
    · simp [h1, h2]
theorem LR.set2 {E : ET} {ls' : Array Slot} {nL : Nat} {L : LV} {i : Nat} {v : AV} (hn : L.length = nL) (hi : i + 1 < nL) (hk : lok L i = true) (h : lv_has ls' nL ((i, cv E v) :: (prs E L).filter (fun q => !(q.1 == i) && (!(q.1 == i + 1) && !(q.1 + 1 == i && q.2.category == 2))))) : LR E ls' nL ((L.set i (some v)).set (i + 1) none) := by
  refine ⟨h.1, h.2.1, by rw [List.length_set, List.length_set]; exact hn, fun j w hw => ?_⟩
  by_cases hj1 : i + 1 = j
  · subst hj1
    rw [List.getElem?_set_self (by rw [List.length_set]; omega)] at hw
    cases hw
  · rw [List.getElem?_set_ne hj1] at hw
    by_cases hj : i = j
    · subst hj
      rw [List.getElem?_set_self (by omega)] at hw
      cases hw
      exact h.2.2 (i, cv E v) List.mem_cons_self
    · rw [List.getElem?_set_ne hj] at hw
      refine h.2.2 (j, cv E w) (List.mem_cons_of_mem _ (List.mem_filter.mpr ⟨mem_prs.mpr ⟨w, hw, rfl⟩, ?_⟩))
      have h1 : (j == i) = false := by simpa using fun e => hj e.symm
      have h3 : (j == i + 1) = false := by simpa using fun e => hj1 e.symm
      by_cases h2 : j + 1 = i
      · subst h2
        have : ¬ (cv E w).category = 2 := by
          intro hc
          obtain ⟨z, rfl⟩ := cv_cat2 hc
          simp [lok, hw] at hk
        simp [h1, h3, this]
      · simp [h1, h2, h3]
section SG
variable {E : ET} {g : GT} {mi : MI} {d : Nat} {lm : Nat × Nat} {RT : RTy} {F : FT} {K : KT} {L : LV} {st : List AV} {h : AH} {pc : Nat}
theorem s_iconst {n : Int} (hd : decode mi.2.1 pc = .ok (.iconst n, 1)) (hK : ∀ pc L st h, K pc L st h → G E g mi d lm RT pc L st h) (hx : exI E d lm RT F K (0, n, 0, pc + 1, []) L st h) : G E g mi d lm RT pc L st h := by
  obtain ⟨p, e, R, s, m, args, below, meth, c, Q, c0, s0⟩ := g
  intro ok H locs ls hR hS hL hI
  obtain ⟨e1, e2, e3, e4, e5, e6, e7, e8, e9, e10⟩ := id ok
  exact lv_iconst (v := z3 n) e1 e2 hd rfl (hK _ _ _ _ hx ok H locs ls hR hS hL hI)
theorem z3_b8 {n : Int} (h1 : -128 ≤ n) (h2 : n < 128) : (Int8.ofInt n).toInt32 = z3 n := by
  apply Int32.toInt_inj.mp
  rw [Int8.toInt_toInt32, z3_int (by omega) (by omega), Int8.toInt_ofInt_of_le (by simpa using h1) (by simpa using h2)]
theorem z3_b16 {n : Int} (h1 : -32768 ≤ n) (h2 : n < 32768) : (Int16.ofInt n).toInt32 = z3 n := by
  apply Int32.toInt_inj.mp
  rw [Int16.toInt_toInt32, z3_int (by omega) (by omega), Int16.toInt_ofInt_of_le (by simpa using h1) (by simpa using h2)]
theorem s_bipush {n : Int} (hn : -128 ≤ n ∧ n < 128) (hd : decode mi.2.1 pc = .ok (.bipush n, 2)) (hK : ∀ pc L st h, K pc L st h → G E g mi d lm RT pc L st h) (hx : exI E d lm RT F K (0, n, 0, pc + 2, []) L st h) : G E g mi d lm RT pc L st h := by
  obtain ⟨p, e, R, s, m, args, below, meth, c, Q, c0, s0⟩ := g
  intro ok H locs ls hR hS hL hI
  obtain ⟨e1, e2, e3, e4, e5, e6, e7, e8, e9, e10⟩ := id ok
  exact lv_bipush (v := z3 n) e1 e2 hd (z3_b8 hn.1 hn.2) (hK _ _ _ _ hx ok H locs ls hR hS hL hI)
theorem s_sipush {n : Int} (hn : -32768 ≤ n ∧ n < 32768) (hd : decode mi.2.1 pc = .ok (.sipush n, 3)) (hK : ∀ pc L st h, K pc L st h → G E g mi d lm RT pc L st h) (hx : exI E d lm RT F K (0, n, 0, pc + 3, []) L st h) : G E g mi d lm RT pc L st h := by
  obtain ⟨p, e, R, s, m, args, below, meth, c, Q, c0, s0⟩ := g
  intro ok H locs ls hR hS hL hI
  obtain ⟨e1, e2, e3, e4, e5, e6, e7, e8, e9, e10⟩ := id ok
  exact lv_sipush (v := z3 n) e1 e2 hd (z3_b16 hn.1 hn.2) (hK _ _ _ _ hx ok H locs ls hR hS hL hI)
theorem s_ldc {i : Nat} {n : Int} (hw : Jvm.Cond.constant (ownS mi.1) i (z3 n) ∈ WS) (hd : decode mi.2.1 pc = .ok (.ldc i, 2)) (hK : ∀ pc L st h, K pc L st h → G E g mi d lm RT pc L st h) (hx : exI E d lm RT F K (0, n, 0, pc + 2, []) L st h) : G E g mi d lm RT pc L st h := by
  obtain ⟨p, e, R, s, m, args, below, meth, c, Q, c0, s0⟩ := g
  intro ok H locs ls hR hS hL hI
  obtain ⟨e1, e2, e3, e4, e5, e6, e7, e8, e9, e10⟩ := id ok
  exact lv_ldc (v := z3 n) e1 e2 e4 (e5 _ hw) hd (hK _ _ _ _ hx ok H locs ls hR hS hL hI)
theorem s_ldcw {i : Nat} {n : Int} (hw : Jvm.Cond.constant (ownS mi.1) i (z3 n) ∈ WS) (hd : decode mi.2.1 pc = .ok (.ldc_w i, 3)) (hK : ∀ pc L st h, K pc L st h → G E g mi d lm RT pc L st h) (hx : exI E d lm RT F K (0, n, 0, pc + 3, []) L st h) : G E g mi d lm RT pc L st h := by
  obtain ⟨p, e, R, s, m, args, below, meth, c, Q, c0, s0⟩ := g
  intro ok H locs ls hR hS hL hI
  obtain ⟨e1, e2, e3, e4, e5, e6, e7, e8, e9, e10⟩ := id ok
  exact lv_ldcw (v := z3 n) e1 e2 e4 (e5 _ hw) hd (hK _ _ _ _ hx ok H locs ls hR hS hL hI)
theorem s_lconst {n : Fin 2} (hd : decode mi.2.1 pc = .ok (.lconst n, 1)) (hK : ∀ pc L st h, K pc L st h → G E g mi d lm RT pc L st h) (hx : exI E d lm RT F K (27, (n.val : Int), 0, pc + 1, []) L st h) : G E g mi d lm RT pc L st h := by
  obtain ⟨p, e, R, s, m, args, below, meth, c, Q, c0, s0⟩ := g
  intro ok H locs ls hR hS hL hI
  obtain ⟨e1, e2, e3, e4, e5, e6, e7, e8, e9, e10⟩ := id ok
  exact lv_lconst (v := z6 (n.val : Int)) e1 e2 hd (by show Int64.ofNat _ = Int64.ofInt _; simp [Int64.ofInt_eq_ofNat]) (hK _ _ _ _ hx ok H locs ls hR hS hL hI)
theorem s_ldc2 {i : Nat} {n : Int} (hw : Jvm.Cond.constantLong (ownS mi.1) i (z6 n) ∈ WS) (hd : decode mi.2.1 pc = .ok (.ldc2_w i, 3)) (hK : ∀ pc L st h, K pc L st h → G E g mi d lm RT pc L st h) (hx : exI E d lm RT F K (27, n, 0, pc + 3, []) L st h) : G E g mi d lm RT pc L st h := by
  obtain ⟨p, e, R, s, m, args, below, meth, c, Q, c0, s0⟩ := g
  intro ok H locs ls hR hS hL hI
  obtain ⟨e1, e2, e3, e4, e5, e6, e7, e8, e9, e10⟩ := id ok
  exact lv_ldc2 (v := z6 n) e1 e2 e4 (e5 _ hw) hd (hK _ _ _ _ hx ok H locs ls hR hS hL hI)
theorem s_iload {i : Nat} (hd : decode mi.2.1 pc = .ok (.iload i, 2)) (hK : ∀ pc L st h, K pc L st h → G E g mi d lm RT pc L st h) (hx : exI E d lm RT F K (1, (i : Int), 0, pc + 2, []) L st h) : G E g mi d lm RT pc L st h := by
  obtain ⟨p, e, R, s, m, args, below, meth, c, Q, c0, s0⟩ := g
  intro ok H locs ls hR hS hL hI
  obtain ⟨e1, e2, e3, e4, e5, e6, e7, e8, e9, e10⟩ := id ok
  replace hx : (match L[((i : Nat) : Int).toNat]? with | some (some (.inl z)) => K (pc + 2) L (vi z :: st) h | _ => False) := hx
  rw [Int.toNat_natCast] at hx
  split at hx
  · rename_i z hz
    have hl := hL.2.2.2 _ _ hz
    exact lv_iload e1 e2 hd hl (hK _ _ _ _ hx ok H locs ls hR hS hL hI)
  · exact hx.elim
theorem s_iload_n {i : Fin 4} (hd : decode mi.2.1 pc = .ok (.iload_n i, 1)) (hK : ∀ pc L st h, K pc L st h → G E g mi d lm RT pc L st h) (hx : exI E d lm RT F K (1, (i.val : Int), 0, pc + 1, []) L st h) : G E g mi d lm RT pc L st h := by
  obtain ⟨p, e, R, s, m, args, below, meth, c, Q, c0, s0⟩ := g
  intro ok H locs ls hR hS hL hI
  obtain ⟨e1, e2, e3, e4, e5, e6, e7, e8, e9, e10⟩ := id ok
  replace hx : (match L[((i.val : Nat) : Int).toNat]? with | some (some (.inl z)) => K (pc + 1) L (vi z :: st) h | _ => False) := hx
  rw [Int.toNat_natCast] at hx
  split at hx
  · rename_i z hz
    have hl := hL.2.2.2 _ _ hz
    exact lv_iload_n e1 e2 hd rfl hl (hK _ _ _ _ hx ok H locs ls hR hS hL hI)
  · exact hx.elim
theorem s_aload {i : Nat} (hd : decode mi.2.1 pc = .ok (.aload i, 2)) (hK : ∀ pc L st h, K pc L st h → G E g mi d lm RT pc L st h) (hx : exI E d lm RT F K (2, (i : Int), 0, pc + 2, []) L st h) : G E g mi d lm RT pc L st h := by
  obtain ⟨p, e, R, s, m, args, below, meth, c, Q, c0, s0⟩ := g
  intro ok H locs ls hR hS hL hI
  obtain ⟨e1, e2, e3, e4, e5, e6, e7, e8, e9, e10⟩ := id ok
  replace hx : (match L[((i : Nat) : Int).toNat]? with | some (some (.inr (.inr (some z)))) => K (pc + 2) L (vr z :: st) h | _ => False) := hx
  rw [Int.toNat_natCast] at hx
  split at hx
  · rename_i z hz
    have hl := hL.2.2.2 _ _ hz
    exact lv_aload e1 e2 hd hl (hK _ _ _ _ hx ok H locs ls hR hS hL hI)
  · exact hx.elim
theorem s_aload_n {i : Fin 4} (hd : decode mi.2.1 pc = .ok (.aload_n i, 1)) (hK : ∀ pc L st h, K pc L st h → G E g mi d lm RT pc L st h) (hx : exI E d lm RT F K (2, (i.val : Int), 0, pc + 1, []) L st h) : G E g mi d lm RT pc L st h := by
  obtain ⟨p, e, R, s, m, args, below, meth, c, Q, c0, s0⟩ := g
  intro ok H locs ls hR hS hL hI
  obtain ⟨e1, e2, e3, e4, e5, e6, e7, e8, e9, e10⟩ := id ok
  replace hx : (match L[((i.val : Nat) : Int).toNat]? with | some (some (.inr (.inr (some z)))) => K (pc + 1) L (vr z :: st) h | _ => False) := hx
  rw [Int.toNat_natCast] at hx
  split at hx
  · rename_i z hz
    have hl := hL.2.2.2 _ _ hz
    exact lv_aload_n e1 e2 hd rfl hl (hK _ _ _ _ hx ok H locs ls hR hS hL hI)
  · exact hx.elim
theorem s_lload {i : Nat} (hd : decode mi.2.1 pc = .ok (.lload i, 2)) (hK : ∀ pc L st h, K pc L st h → G E g mi d lm RT pc L st h) (hx : exI E d lm RT F K (3, (i : Int), 0, pc + 2, []) L st h) : G E g mi d lm RT pc L st h := by
  obtain ⟨p, e, R, s, m, args, below, meth, c, Q, c0, s0⟩ := g
  intro ok H locs ls hR hS hL hI
  obtain ⟨e1, e2, e3, e4, e5, e6, e7, e8, e9, e10⟩ := id ok
  replace hx : (match L[((i : Nat) : Int).toNat]? with | some (some (.inr (.inl z))) => K (pc + 2) L (vl z :: st) h | _ => False) := hx
  rw [Int.toNat_natCast] at hx
  split at hx
  · rename_i z hz
    have hl := hL.2.2.2 _ _ hz
    exact lv_lload e1 e2 hd hl (hK _ _ _ _ hx ok H locs ls hR hS hL hI)
  · exact hx.elim
theorem s_lload_n {i : Fin 4} (hd : decode mi.2.1 pc = .ok (.lload_n i, 1)) (hK : ∀ pc L st h, K pc L st h → G E g mi d lm RT pc L st h) (hx : exI E d lm RT F K (3, (i.val : Int), 0, pc + 1, []) L st h) : G E g mi d lm RT pc L st h := by
  obtain ⟨p, e, R, s, m, args, below, meth, c, Q, c0, s0⟩ := g
  intro ok H locs ls hR hS hL hI
  obtain ⟨e1, e2, e3, e4, e5, e6, e7, e8, e9, e10⟩ := id ok
  replace hx : (match L[((i.val : Nat) : Int).toNat]? with | some (some (.inr (.inl z))) => K (pc + 1) L (vl z :: st) h | _ => False) := hx
  rw [Int.toNat_natCast] at hx
  split at hx
  · rename_i z hz
    have hl := hL.2.2.2 _ _ hz
    exact lv_lload_n e1 e2 hd rfl hl (hK _ _ _ _ hx ok H locs ls hR hS hL hI)
  · exact hx.elim
theorem s_istore {i : Nat} (hd : decode mi.2.1 pc = .ok (.istore i, 2)) (hK : ∀ pc L st h, K pc L st h → G E g mi d lm RT pc L st h) (hx : exI E d lm RT F K (4, (i : Int), 0, pc + 2, []) L st h) : G E g mi d lm RT pc L st h := by
  obtain ⟨p, e, R, s, m, args, below, meth, c, Q, c0, s0⟩ := g
  intro ok H locs ls hR hS hL hI
  obtain ⟨e1, e2, e3, e4, e5, e6, e7, e8, e9, e10⟩ := id ok
  rcases st with _ | ⟨(z | z), st⟩ <;> try exact hx.elim
  obtain ⟨⟨hi0, hk⟩, hx⟩ := hx
  simp only [Int.toNat_natCast] at hi0 hk hx
  have hi : i < mi.2.2.1 := by rw [← hL.2.2.1]; exact hi0
  exact lv_istore e1 e2 hd hL.has hi rfl (fun ls' h' => hK _ _ _ _ hx ok H locs ls' hR hS (LR.set1 (v := vi z) hL.2.2.1 hi hk h') hI)
theorem s_istore_n {i : Fin 4} (hd : decode mi.2.1 pc = .ok (.istore_n i, 1)) (hK : ∀ pc L st h, K pc L st h → G E g mi d lm RT pc L st h) (hx : exI E d lm RT F K (4, (i.val : Int), 0, pc + 1, []) L st h) : G E g mi d lm RT pc L st h := by
  obtain ⟨p, e, R, s, m, args, below, meth, c, Q, c0, s0⟩ := g
  intro ok H locs ls hR hS hL hI
  obtain ⟨e1, e2, e3, e4, e5, e6, e7, e8, e9, e10⟩ := id ok
  rcases st with _ | ⟨(z | z), st⟩ <;> try exact hx.elim
  obtain ⟨⟨hi0, hk⟩, hx⟩ := hx
  simp only [Int.toNat_natCast] at hi0 hk hx
  have hi : i.val < mi.2.2.1 := by rw [← hL.2.2.1]; exact hi0
  exact lv_istore_n e1 e2 hd rfl hL.has hi rfl (fun ls' h' => hK _ _ _ _ hx ok H locs ls' hR hS (LR.set1 (v := vi z) hL.2.2.1 hi hk h') hI)
theorem s_astore {i : Nat} (hd : decode mi.2.1 pc = .ok (.astore i, 2)) (hK : ∀ pc L st h, K pc L st h → G E g mi d lm RT pc L st h) (hx : exI E d lm RT F K (5, (i : Int), 0, pc + 2, []) L st h) : G E g mi d lm RT pc L st h := by
  obtain ⟨p, e, R, s, m, args, below, meth, c, Q, c0, s0⟩ := g
  intro ok H locs ls hR hS hL hI
  obtain ⟨e1, e2, e3, e4, e5, e6, e7, e8, e9, e10⟩ := id ok
  rcases st with _ | ⟨(z | z | (_ | z)), st⟩ <;> try exact hx.elim
  obtain ⟨⟨hi0, hk⟩, hx⟩ := hx
  simp only [Int.toNat_natCast] at hi0 hk hx
  have hi : i < mi.2.2.1 := by rw [← hL.2.2.1]; exact hi0
  exact lv_astore e1 e2 hd hL.has hi rfl (fun ls' h' => hK _ _ _ _ hx ok H locs ls' hR hS (LR.set1 (v := vr z) hL.2.2.1 hi hk h') hI)
theorem s_astore_n {i : Fin 4} (hd : decode mi.2.1 pc = .ok (.astore_n i, 1)) (hK : ∀ pc L st h, K pc L st h → G E g mi d lm RT pc L st h) (hx : exI E d lm RT F K (5, (i.val : Int), 0, pc + 1, []) L st h) : G E g mi d lm RT pc L st h := by
  obtain ⟨p, e, R, s, m, args, below, meth, c, Q, c0, s0⟩ := g
  intro ok H locs ls hR hS hL hI
  obtain ⟨e1, e2, e3, e4, e5, e6, e7, e8, e9, e10⟩ := id ok
  rcases st with _ | ⟨(z | z | (_ | z)), st⟩ <;> try exact hx.elim
  obtain ⟨⟨hi0, hk⟩, hx⟩ := hx
  simp only [Int.toNat_natCast] at hi0 hk hx
  have hi : i.val < mi.2.2.1 := by rw [← hL.2.2.1]; exact hi0
  exact lv_astore_n e1 e2 hd rfl hL.has hi rfl (fun ls' h' => hK _ _ _ _ hx ok H locs ls' hR hS (LR.set1 (v := vr z) hL.2.2.1 hi hk h') hI)
theorem s_lstore {i : Nat} (hd : decode mi.2.1 pc = .ok (.lstore i, 2)) (hK : ∀ pc L st h, K pc L st h → G E g mi d lm RT pc L st h) (hx : exI E d lm RT F K (6, (i : Int), 0, pc + 2, []) L st h) : G E g mi d lm RT pc L st h := by
  obtain ⟨p, e, R, s, m, args, below, meth, c, Q, c0, s0⟩ := g
  intro ok H locs ls hR hS hL hI
  obtain ⟨e1, e2, e3, e4, e5, e6, e7, e8, e9, e10⟩ := id ok
  rcases st with _ | ⟨(z | z | z), st⟩ <;> try exact hx.elim
  obtain ⟨⟨-, hk⟩, hi0, hx⟩ := hx
  simp only [Int.toNat_natCast] at hk hx hi0
  have hi : i + 1 < mi.2.2.1 := by rw [← hL.2.2.1]; exact hi0
  exact lv_lstore e1 e2 hd hL.has hi rfl (fun ls' h' => hK _ _ _ _ hx ok H locs ls' hR hS (LR.set2 (v := vl z) hL.2.2.1 hi hk h') hI)
theorem s_lstore_n {i : Fin 4} (hd : decode mi.2.1 pc = .ok (.lstore_n i, 1)) (hK : ∀ pc L st h, K pc L st h → G E g mi d lm RT pc L st h) (hx : exI E d lm RT F K (6, (i.val : Int), 0, pc + 1, []) L st h) : G E g mi d lm RT pc L st h := by
  obtain ⟨p, e, R, s, m, args, below, meth, c, Q, c0, s0⟩ := g
  intro ok H locs ls hR hS hL hI
  obtain ⟨e1, e2, e3, e4, e5, e6, e7, e8, e9, e10⟩ := id ok
  rcases st with _ | ⟨(z | z | z), st⟩ <;> try exact hx.elim
  obtain ⟨⟨-, hk⟩, hi0, hx⟩ := hx
  simp only [Int.toNat_natCast] at hk hx hi0
  have hi : i.val + 1 < mi.2.2.1 := by rw [← hL.2.2.1]; exact hi0
  exact lv_lstore_n e1 e2 hd rfl hL.has hi rfl (fun ls' h' => hK _ _ _ _ hx ok H locs ls' hR hS (LR.set2 (v := vl z) hL.2.2.1 hi hk h') hI)
theorem s_iinc {i : Nat} {n : Int} (hd : decode mi.2.1 pc = .ok (.iinc i n, 3)) (hK : ∀ pc L st h, K pc L st h → G E g mi d lm RT pc L st h) (hx : exI E d lm RT F K (7, (i : Int), n, pc + 3, []) L st h) : G E g mi d lm RT pc L st h := by
  obtain ⟨p, e, R, s, m, args, below, meth, c, Q, c0, s0⟩ := g
  intro ok H locs ls hR hS hL hI
  obtain ⟨e1, e2, e3, e4, e5, e6, e7, e8, e9, e10⟩ := id ok
  replace hx : (match L[((i : Nat) : Int).toNat]? with | some (some (.inl z)) => lok L ((i : Nat) : Int).toNat = true ∧ K (pc + 3) (L.set ((i : Nat) : Int).toNat (some (vi (z + n)))) st h | _ => False) := hx
  rw [Int.toNat_natCast] at hx
  split at hx
  · rename_i z hz
    obtain ⟨hk, hx⟩ := hx
    have hi0 : i < L.length := (List.getElem?_eq_some_iff.mp hz).1
    have hi : i < mi.2.2.1 := by rw [← hL.2.2.1]; exact hi0
    obtain ⟨q, hq⟩ := List.mem_iff_getElem?.mp (mem_prs.mpr ⟨_, hz, rfl⟩)
    exact lv_iinc (v := z3 (z + n)) e1 e2 hd hL.has hq (by rw [← z3_add]; rfl) hi rfl (fun ls' h' => hK _ _ _ _ hx ok H locs ls' hR hS (LR.set1 (v := vi (z + n)) hL.2.2.1 hi hk h') hI)
  · exact hx.elim
theorem s_iadd (hd : decode mi.2.1 pc = .ok (.iadd, 1)) (hK : ∀ pc L st h, K pc L st h → G E g mi d lm RT pc L st h) (hx : exI E d lm RT F K (8, 0, 0, pc + 1, []) L st h) : G E g mi d lm RT pc L st h := by
  obtain ⟨p, e, R, s, m, args, below, meth, c, Q, c0, s0⟩ := g
  intro ok H locs ls hR hS hL hI
  obtain ⟨e1, e2, e3, e4, e5, e6, e7, e8, e9, e10⟩ := id ok
  rcases st with _ | ⟨(y | y), _ | ⟨(x | x), st⟩⟩ <;> try exact hx.elim
  exact lv_iadd e1 e2 hd (by rw [z3_add]; exact hK _ _ _ _ hx ok H locs ls hR hS hL hI)
theorem s_isub (hd : decode mi.2.1 pc = .ok (.isub, 1)) (hK : ∀ pc L st h, K pc L st h → G E g mi d lm RT pc L st h) (hx : exI E d lm RT F K (9, 0, 0, pc + 1, []) L st h) : G E g mi d lm RT pc L st h := by
  obtain ⟨p, e, R, s, m, args, below, meth, c, Q, c0, s0⟩ := g
  intro ok H locs ls hR hS hL hI
  obtain ⟨e1, e2, e3, e4, e5, e6, e7, e8, e9, e10⟩ := id ok
  rcases st with _ | ⟨(y | y), _ | ⟨(x | x), st⟩⟩ <;> try exact hx.elim
  exact lv_isub e1 e2 hd (by rw [z3_sub]; exact hK _ _ _ _ hx ok H locs ls hR hS hL hI)
theorem s_imul (hd : decode mi.2.1 pc = .ok (.imul, 1)) (hK : ∀ pc L st h, K pc L st h → G E g mi d lm RT pc L st h) (hx : exI E d lm RT F K (10, 0, 0, pc + 1, []) L st h) : G E g mi d lm RT pc L st h := by
  obtain ⟨p, e, R, s, m, args, below, meth, c, Q, c0, s0⟩ := g
  intro ok H locs ls hR hS hL hI
  obtain ⟨e1, e2, e3, e4, e5, e6, e7, e8, e9, e10⟩ := id ok
  rcases st with _ | ⟨(y | y), _ | ⟨(x | x), st⟩⟩ <;> try exact hx.elim
  exact lv_imul e1 e2 hd (by rw [z3_mul]; exact hK _ _ _ _ hx ok H locs ls hR hS hL hI)
theorem s_idiv (hd : decode mi.2.1 pc = .ok (.idiv, 1)) (hK : ∀ pc L st h, K pc L st h → G E g mi d lm RT pc L st h) (hx : exI E d lm RT F K (11, 0, 0, pc + 1, []) L st h) : G E g mi d lm RT pc L st h := by
  obtain ⟨p, e, R, s, m, args, below, meth, c, Q, c0, s0⟩ := g
  intro ok H locs ls hR hS hL hI
  obtain ⟨e1, e2, e3, e4, e5, e6, e7, e8, e9, e10⟩ := id ok
  rcases st with _ | ⟨(y | y), _ | ⟨(x | x), st⟩⟩ <;> try exact hx.elim
  obtain ⟨hy, hx⟩ := hx
  have hk := hK _ _ _ _ hx ok H locs ls hR hS hL hI
  simp only [List.map_cons, cv, idv, z3_toInt] at hk
  exact lv_idiv e1 e2 hd hy hk
theorem s_irem (hd : decode mi.2.1 pc = .ok (.irem, 1)) (hK : ∀ pc L st h, K pc L st h → G E g mi d lm RT pc L st h) (hx : exI E d lm RT F K (12, 0, 0, pc + 1, []) L st h) : G E g mi d lm RT pc L st h := by
  obtain ⟨p, e, R, s, m, args, below, meth, c, Q, c0, s0⟩ := g
  intro ok H locs ls hR hS hL hI
  obtain ⟨e1, e2, e3, e4, e5, e6, e7, e8, e9, e10⟩ := id ok
  rcases st with _ | ⟨(y | y), _ | ⟨(x | x), st⟩⟩ <;> try exact hx.elim
  obtain ⟨hy, hx⟩ := hx
  have hk := hK _ _ _ _ hx ok H locs ls hR hS hL hI
  simp only [List.map_cons, cv, irm, z3_toInt] at hk
  exact lv_irem e1 e2 hd hy hk
theorem s_iand (hd : decode mi.2.1 pc = .ok (.iand, 1)) (hK : ∀ pc L st h, K pc L st h → G E g mi d lm RT pc L st h) (hx : exI E d lm RT F K (13, 0, 0, pc + 1, []) L st h) : G E g mi d lm RT pc L st h := by
  obtain ⟨p, e, R, s, m, args, below, meth, c, Q, c0, s0⟩ := g
  intro ok H locs ls hR hS hL hI
  obtain ⟨e1, e2, e3, e4, e5, e6, e7, e8, e9, e10⟩ := id ok
  rcases st with _ | ⟨(y | y), _ | ⟨(x | x), st⟩⟩ <;> try exact hx.elim
  have hk := hK _ _ _ _ hx ok H locs ls hR hS hL hI
  simp only [List.map_cons, cv, ian, z3_toInt] at hk
  exact lv_iand e1 e2 hd hk
theorem s_ior (hd : decode mi.2.1 pc = .ok (.ior, 1)) (hK : ∀ pc L st h, K pc L st h → G E g mi d lm RT pc L st h) (hx : exI E d lm RT F K (14, 0, 0, pc + 1, []) L st h) : G E g mi d lm RT pc L st h := by
  obtain ⟨p, e, R, s, m, args, below, meth, c, Q, c0, s0⟩ := g
  intro ok H locs ls hR hS hL hI
  obtain ⟨e1, e2, e3, e4, e5, e6, e7, e8, e9, e10⟩ := id ok
  rcases st with _ | ⟨(y | y), _ | ⟨(x | x), st⟩⟩ <;> try exact hx.elim
  have hk := hK _ _ _ _ hx ok H locs ls hR hS hL hI
  simp only [List.map_cons, cv, ior, z3_toInt] at hk
  exact lv_ior e1 e2 hd hk
theorem s_ixor (hd : decode mi.2.1 pc = .ok (.ixor, 1)) (hK : ∀ pc L st h, K pc L st h → G E g mi d lm RT pc L st h) (hx : exI E d lm RT F K (15, 0, 0, pc + 1, []) L st h) : G E g mi d lm RT pc L st h := by
  obtain ⟨p, e, R, s, m, args, below, meth, c, Q, c0, s0⟩ := g
  intro ok H locs ls hR hS hL hI
  obtain ⟨e1, e2, e3, e4, e5, e6, e7, e8, e9, e10⟩ := id ok
  rcases st with _ | ⟨(y | y), _ | ⟨(x | x), st⟩⟩ <;> try exact hx.elim
  have hk := hK _ _ _ _ hx ok H locs ls hR hS hL hI
  simp only [List.map_cons, cv, ixo, z3_toInt] at hk
  exact lv_ixor e1 e2 hd hk
theorem s_ishl (hd : decode mi.2.1 pc = .ok (.ishl, 1)) (hK : ∀ pc L st h, K pc L st h → G E g mi d lm RT pc L st h) (hx : exI E d lm RT F K (16, 0, 0, pc + 1, []) L st h) : G E g mi d lm RT pc L st h := by
  obtain ⟨p, e, R, s, m, args, below, meth, c, Q, c0, s0⟩ := g
  intro ok H locs ls hR hS hL hI
  obtain ⟨e1, e2, e3, e4, e5, e6, e7, e8, e9, e10⟩ := id ok
  rcases st with _ | ⟨(y | y), _ | ⟨(x | x), st⟩⟩ <;> try exact hx.elim
  have hk := hK _ _ _ _ hx ok H locs ls hR hS hL hI
  simp only [List.map_cons, cv, isl, z3_toInt] at hk
  exact lv_ishl e1 e2 hd hk
theorem s_ishr (hd : decode mi.2.1 pc = .ok (.ishr, 1)) (hK : ∀ pc L st h, K pc L st h → G E g mi d lm RT pc L st h) (hx : exI E d lm RT F K (17, 0, 0, pc + 1, []) L st h) : G E g mi d lm RT pc L st h := by
  obtain ⟨p, e, R, s, m, args, below, meth, c, Q, c0, s0⟩ := g
  intro ok H locs ls hR hS hL hI
  obtain ⟨e1, e2, e3, e4, e5, e6, e7, e8, e9, e10⟩ := id ok
  rcases st with _ | ⟨(y | y), _ | ⟨(x | x), st⟩⟩ <;> try exact hx.elim
  have hk := hK _ _ _ _ hx ok H locs ls hR hS hL hI
  simp only [List.map_cons, cv, isr, z3_toInt] at hk
  exact lv_ishr e1 e2 hd hk
theorem s_iushr (hd : decode mi.2.1 pc = .ok (.iushr, 1)) (hK : ∀ pc L st h, K pc L st h → G E g mi d lm RT pc L st h) (hx : exI E d lm RT F K (18, 0, 0, pc + 1, []) L st h) : G E g mi d lm RT pc L st h := by
  obtain ⟨p, e, R, s, m, args, below, meth, c, Q, c0, s0⟩ := g
  intro ok H locs ls hR hS hL hI
  obtain ⟨e1, e2, e3, e4, e5, e6, e7, e8, e9, e10⟩ := id ok
  rcases st with _ | ⟨(y | y), _ | ⟨(x | x), st⟩⟩ <;> try exact hx.elim
  have hk := hK _ _ _ _ hx ok H locs ls hR hS hL hI
  simp only [List.map_cons, cv, ius, z3_toInt] at hk
  exact lv_iushr e1 e2 hd rfl hk
theorem s_ladd (hd : decode mi.2.1 pc = .ok (.ladd, 1)) (hK : ∀ pc L st h, K pc L st h → G E g mi d lm RT pc L st h) (hx : exI E d lm RT F K (19, 0, 0, pc + 1, []) L st h) : G E g mi d lm RT pc L st h := by
  obtain ⟨p, e, R, s, m, args, below, meth, c, Q, c0, s0⟩ := g
  intro ok H locs ls hR hS hL hI
  obtain ⟨e1, e2, e3, e4, e5, e6, e7, e8, e9, e10⟩ := id ok
  rcases st with _ | ⟨(y | y | y), _ | ⟨(x | x | x), st⟩⟩ <;> try exact hx.elim
  exact lv_ladd e1 e2 hd (by rw [z6_add]; exact hK _ _ _ _ hx ok H locs ls hR hS hL hI)
theorem s_lsub (hd : decode mi.2.1 pc = .ok (.lsub, 1)) (hK : ∀ pc L st h, K pc L st h → G E g mi d lm RT pc L st h) (hx : exI E d lm RT F K (20, 0, 0, pc + 1, []) L st h) : G E g mi d lm RT pc L st h := by
  obtain ⟨p, e, R, s, m, args, below, meth, c, Q, c0, s0⟩ := g
  intro ok H locs ls hR hS hL hI
  obtain ⟨e1, e2, e3, e4, e5, e6, e7, e8, e9, e10⟩ := id ok
  rcases st with _ | ⟨(y | y | y), _ | ⟨(x | x | x), st⟩⟩ <;> try exact hx.elim
  exact lv_lsub e1 e2 hd (by rw [z6_sub]; exact hK _ _ _ _ hx ok H locs ls hR hS hL hI)
theorem s_lmul (hd : decode mi.2.1 pc = .ok (.lmul, 1)) (hK : ∀ pc L st h, K pc L st h → G E g mi d lm RT pc L st h) (hx : exI E d lm RT F K (21, 0, 0, pc + 1, []) L st h) : G E g mi d lm RT pc L st h := by
  obtain ⟨p, e, R, s, m, args, below, meth, c, Q, c0, s0⟩ := g
  intro ok H locs ls hR hS hL hI
  obtain ⟨e1, e2, e3, e4, e5, e6, e7, e8, e9, e10⟩ := id ok
  rcases st with _ | ⟨(y | y | y), _ | ⟨(x | x | x), st⟩⟩ <;> try exact hx.elim
  exact lv_lmul e1 e2 hd (by rw [z6_mul]; exact hK _ _ _ _ hx ok H locs ls hR hS hL hI)
theorem s_ldiv (hd : decode mi.2.1 pc = .ok (.ldiv, 1)) (hK : ∀ pc L st h, K pc L st h → G E g mi d lm RT pc L st h) (hx : exI E d lm RT F K (22, 0, 0, pc + 1, []) L st h) : G E g mi d lm RT pc L st h := by
  obtain ⟨p, e, R, s, m, args, below, meth, c, Q, c0, s0⟩ := g
  intro ok H locs ls hR hS hL hI
  obtain ⟨e1, e2, e3, e4, e5, e6, e7, e8, e9, e10⟩ := id ok
  rcases st with _ | ⟨(y | y | y), _ | ⟨(x | x | x), st⟩⟩ <;> try exact hx.elim
  obtain ⟨hy, hx⟩ := hx
  have hk := hK _ _ _ _ hx ok H locs ls hR hS hL hI
  simp only [List.map_cons, cv, ldv, z6_toInt] at hk
  exact lv_ldiv e1 e2 hd hy hk
theorem s_lrem (hd : decode mi.2.1 pc = .ok (.lrem, 1)) (hK : ∀ pc L st h, K pc L st h → G E g mi d lm RT pc L st h) (hx : exI E d lm RT F K (23, 0, 0, pc + 1, []) L st h) : G E g mi d lm RT pc L st h := by
  obtain ⟨p, e, R, s, m, args, below, meth, c, Q, c0, s0⟩ := g
  intro ok H locs ls hR hS hL hI
  obtain ⟨e1, e2, e3, e4, e5, e6, e7, e8, e9, e10⟩ := id ok
  rcases st with _ | ⟨(y | y | y), _ | ⟨(x | x | x), st⟩⟩ <;> try exact hx.elim
  obtain ⟨hy, hx⟩ := hx
  have hk := hK _ _ _ _ hx ok H locs ls hR hS hL hI
  simp only [List.map_cons, cv, lrm, z6_toInt] at hk
  exact lv_lrem e1 e2 hd hy hk
theorem s_lcmp (hd : decode mi.2.1 pc = .ok (.lcmp, 1)) (hK : ∀ pc L st h, K pc L st h → G E g mi d lm RT pc L st h) (hx : exI E d lm RT F K (24, 0, 0, pc + 1, []) L st h) : G E g mi d lm RT pc L st h := by
  obtain ⟨p, e, R, s, m, args, below, meth, c, Q, c0, s0⟩ := g
  intro ok H locs ls hR hS hL hI
  obtain ⟨e1, e2, e3, e4, e5, e6, e7, e8, e9, e10⟩ := id ok
  rcases st with _ | ⟨(y | y | y), _ | ⟨(x | x | x), st⟩⟩ <;> try exact hx.elim
  have hk := hK _ _ _ _ hx ok H locs ls hR hS hL hI
  simp only [List.map_cons, cv, lcp, z3_toInt] at hk
  exact W.lcmp e1 e2 hd hk
theorem s_i2l (hd : decode mi.2.1 pc = .ok (.i2l, 1)) (hK : ∀ pc L st h, K pc L st h → G E g mi d lm RT pc L st h) (hx : exI E d lm RT F K (25, 0, 0, pc + 1, []) L st h) : G E g mi d lm RT pc L st h := by
  obtain ⟨p, e, R, s, m, args, below, meth, c, Q, c0, s0⟩ := g
  intro ok H locs ls hR hS hL hI
  obtain ⟨e1, e2, e3, e4, e5, e6, e7, e8, e9, e10⟩ := id ok
  rcases st with _ | ⟨(x | x), st⟩ <;> try exact hx.elim
  have hk := hK _ _ _ _ hx ok H locs ls hR hS hL hI
  simp only [List.map_cons, cv, i2l, z6_toInt] at hk
  exact lv_i2l e1 e2 hd rfl hk
theorem s_l2i (hd : decode mi.2.1 pc = .ok (.l2i, 1)) (hK : ∀ pc L st h, K pc L st h → G E g mi d lm RT pc L st h) (hx : exI E d lm RT F K (26, 0, 0, pc + 1, []) L st h) : G E g mi d lm RT pc L st h := by
  obtain ⟨p, e, R, s, m, args, below, meth, c, Q, c0, s0⟩ := g
  intro ok H locs ls hR hS hL hI
  obtain ⟨e1, e2, e3, e4, e5, e6, e7, e8, e9, e10⟩ := id ok
  rcases st with _ | ⟨(x | x | x), st⟩ <;> try exact hx.elim
  have hk := hK _ _ _ _ hx ok H locs ls hR hS hL hI
  simp only [List.map_cons, cv, l2i, z3_toInt] at hk
  exact lv_l2i e1 e2 hd rfl hk
theorem cv_cat1 {E : ET} {v : AV} (h : cat1 v = true) : (cv E v).category = 1 := by
  rcases v with z | z | (_ | z)
  · rfl
  · cases h
  · rfl
  · rfl
theorem s_dup (hd : decode mi.2.1 pc = .ok (.dup, 1)) (hK : ∀ pc L st h, K pc L st h → G E g mi d lm RT pc L st h) (hx : exI E d lm RT F K (28, 0, 0, pc + 1, []) L st h) : G E g mi d lm RT pc L st h := by
  obtain ⟨p, e, R, s, m, args, below, meth, c, Q, c0, s0⟩ := g
  intro ok H locs ls hR hS hL hI
  obtain ⟨e1, e2, e3, e4, e5, e6, e7, e8, e9, e10⟩ := id ok
  rcases st with _ | ⟨v, st⟩ <;> try exact hx.elim
  exact lv_dup e1 e2 hd (cv_cat1 hx.1) (hK _ _ _ _ hx.2 ok H locs ls hR hS hL hI)
theorem s_dup2 (hd : decode mi.2.1 pc = .ok (.dup2, 1)) (hK : ∀ pc L st h, K pc L st h → G E g mi d lm RT pc L st h) (hx : exI E d lm RT F K (29, 0, 0, pc + 1, []) L st h) : G E g mi d lm RT pc L st h := by
  obtain ⟨p, e, R, s, m, args, below, meth, c, Q, c0, s0⟩ := g
  intro ok H locs ls hR hS hL hI
  obtain ⟨e1, e2, e3, e4, e5, e6, e7, e8, e9, e10⟩ := id ok
  rcases st with _ | ⟨v, _ | ⟨w, st⟩⟩ <;> try exact hx.elim
  exact lv_dup2_11 e1 e2 hd (cv_cat1 hx.1) (cv_cat1 hx.2.1) (hK _ _ _ _ hx.2.2 ok H locs ls hR hS hL hI)
theorem s_pop (hd : decode mi.2.1 pc = .ok (.pop, 1)) (hK : ∀ pc L st h, K pc L st h → G E g mi d lm RT pc L st h) (hx : exI E d lm RT F K (30, 0, 0, pc + 1, []) L st h) : G E g mi d lm RT pc L st h := by
  obtain ⟨p, e, R, s, m, args, below, meth, c, Q, c0, s0⟩ := g
  intro ok H locs ls hR hS hL hI
  obtain ⟨e1, e2, e3, e4, e5, e6, e7, e8, e9, e10⟩ := id ok
  rcases st with _ | ⟨v, st⟩ <;> try exact hx.elim
  exact lv_pop e1 e2 hd (cv_cat1 hx.1) (hK _ _ _ _ hx.2 ok H locs ls hR hS hL hI)
theorem s_icmp {cc : ClassFile.Cond} {off : Int} (ho : 0 ≤ (pc : Int) + off) (hd : decode mi.2.1 pc = .ok (.if_icmp cc off, 3)) (hK : ∀ pc L st h, K pc L st h → G E g mi d lm RT pc L st h) (hx : exI E d lm RT F K (32, cn cc, (pc : Int) + off, pc + 3, []) L st h) : G E g mi d lm RT pc L st h := by
  obtain ⟨p, e, R, s, m, args, below, meth, c, Q, c0, s0⟩ := g
  intro ok H locs ls hR hS hL hI
  obtain ⟨e1, e2, e3, e4, e5, e6, e7, e8, e9, e10⟩ := id ok
  rcases st with _ | ⟨(y | y), _ | ⟨(x | x), st⟩⟩ <;> try exact hx.elim
  obtain ⟨ht, hf⟩ := hx
  have hk1 := fun q => hK _ _ _ _ (ht q) ok H locs ls hR hS hL hI
  have hk2 := fun q => hK _ _ _ _ (hf q) ok H locs ls hR hS hL hI
  have htg : (pc : Int) + off = (((pc : Int) + off).toNat : Int) := by omega
  have hz : z3 0 = 0 := rfl
  cases cc
  · exact lv_icmp_eq e1 e2 hd htg (fun q => hk1 q) (fun q => hk2 q)
  · exact lv_icmp_ne e1 e2 hd htg (fun q => hk1 q) (fun q => hk2 (fun q2 => q2 q))
  · exact lv_icmp_lt e1 e2 hd htg (fun q => hk1 q) (fun q => hk2 q)
  · exact lv_icmp_ge e1 e2 hd htg (fun q => hk1 q) (fun q => hk2 q)
  · exact lv_icmp_gt e1 e2 hd htg (fun q => hk1 q) (fun q => hk2 q)
  · exact lv_icmp_le e1 e2 hd htg (fun q => hk1 q) (fun q => hk2 q)
theorem s_if {cc : ClassFile.Cond} {off : Int} (ho : 0 ≤ (pc : Int) + off) (hd : decode mi.2.1 pc = .ok (.ifCond cc off, 3)) (hK : ∀ pc L st h, K pc L st h → G E g mi d lm RT pc L st h) (hx : exI E d lm RT F K (31, cn cc, (pc : Int) + off, pc + 3, []) L st h) : G E g mi d lm RT pc L st h := by
  obtain ⟨p, e, R, s, m, args, below, meth, c, Q, c0, s0⟩ := g
  intro ok H locs ls hR hS hL hI
  obtain ⟨e1, e2, e3, e4, e5, e6, e7, e8, e9, e10⟩ := id ok
  rcases st with _ | ⟨(x | x), st⟩ <;> try exact hx.elim
  obtain ⟨ht, hf⟩ := hx
  have hk1 := fun q => hK _ _ _ _ (ht q) ok H locs ls hR hS hL hI
  have hk2 := fun q => hK _ _ _ _ (hf q) ok H locs ls hR hS hL hI
  have htg : (pc : Int) + off = (((pc : Int) + off).toNat : Int) := by omega
  have hz : z3 0 = 0 := rfl
  cases cc
  · exact lv_if_eq e1 e2 hd htg (fun q => hk1 q) (fun q => hk2 q)
  · exact lv_if_ne e1 e2 hd htg (fun q => hk1 q) (fun q => hk2 (fun q2 => q2 q))
  · exact lv_if_lt e1 e2 hd htg (fun q => hk1 q) (fun q => hk2 q)
  · exact lv_if_ge e1 e2 hd htg (fun q => hk1 q) (fun q => hk2 q)
  · exact lv_if_gt e1 e2 hd htg (fun q => hk1 q) (fun q => hk2 q)
  · exact lv_if_le e1 e2 hd htg (fun q => hk1 q) (fun q => hk2 q)
theorem s_goto {off : Int} (ho : 0 ≤ (pc : Int) + off) (hd : decode mi.2.1 pc = .ok (.goto off, 3)) (hK : ∀ pc L st h, K pc L st h → G E g mi d lm RT pc L st h) (hx : exI E d lm RT F K (33, (pc : Int) + off, 0, 0, []) L st h) : G E g mi d lm RT pc L st h := by
  obtain ⟨p, e, R, s, m, args, below, meth, c, Q, c0, s0⟩ := g
  intro ok H locs ls hR hS hL hI
  obtain ⟨e1, e2, e3, e4, e5, e6, e7, e8, e9, e10⟩ := id ok
  have htg : (pc : Int) + off = (((pc : Int) + off).toNat : Int) := by omega
  exact lv_goto e1 e2 hd htg (hK _ _ _ _ hx ok H locs ls hR hS hL hI)
theorem s_tsw {df lo hi : Int} {offs : Array Int} {len : Nat} (h1 : hi + 1 = lo + offs.toList.length ∧ 0 ≤ (pc : Int) + df) (h2 : ∀ o ∈ offs.toList, 0 ≤ (pc : Int) + o) (hd : decode mi.2.1 pc = .ok (.tableswitch df lo hi offs, len)) (hK : ∀ pc L st h, K pc L st h → G E g mi d lm RT pc L st h) (hx : exI E d lm RT F K (34, lo, (pc : Int) + df, 0, offs.toList.map (fun o => ((pc : Int) + o).toNat)) L st h) : G E g mi d lm RT pc L st h := by
  obtain ⟨p, e, R, s, m, args, below, meth, c, Q, c0, s0⟩ := g
  intro ok H locs ls hR hS hL hI
  obtain ⟨e1, e2, e3, e4, e5, e6, e7, e8, e9, e10⟩ := id ok
  rcases st with _ | ⟨(x | x), st⟩ <;> try exact hx.elim
  obtain ⟨ht, hf⟩ := hx
  dsimp only at ht hf
  rw [List.length_map] at ht
  by_cases hc : (z3 x).toInt < lo ∨ lo + offs.toList.length ≤ (z3 x).toInt
  · exact lv_tableOut e1 e2 hd (by omega) (by omega) (hK _ _ _ _ (ht hc) ok H locs ls hR hS hL hI)
  · have hlt : ((z3 x).toInt - lo).toNat < offs.toList.length := by omega
    have ho : offs[((z3 x).toInt - lo).toNat]? = some (offs.toList[((z3 x).toInt - lo).toNat]) := by
      rw [← Array.getElem?_toList]
      exact List.getElem?_eq_getElem hlt
    have hge := h2 _ (List.getElem_mem hlt)
    have hx2 := hf ((z3 x).toInt - lo).toNat ((pc : Int) + offs.toList[((z3 x).toInt - lo).toNat]).toNat (by rw [List.getElem?_map, List.getElem?_eq_getElem hlt]; rfl) (by omega)
    exact lv_tableIn e1 e2 hd (by omega) (by omega) ho (by omega) (hK _ _ _ _ hx2 ok H locs ls hR hS hL hI)
end SG
