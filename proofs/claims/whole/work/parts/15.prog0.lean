/-! ===== programs: resolved instructions, and a rule for each place ===== -/
theorem tOk_pm {mi : MI} {T : List (Nat × PT)} (h : tOk mi T = true) {cs : List Nat} {pc : Nat} {pt : PT} (hp : (if cs.contains pc then none else T.lookup pc) = some pt) : okPt mi pc pt := by
  split at hp
  · cases hp
  · refine tOk_spec h ?_
    clear h
    induction T with
    | nil => cases hp
    | cons e T ih =>
      obtain ⟨k, v⟩ := e
      rw [List.lookup_cons] at hp
      split at hp
      · rename_i hb
        cases hp
        have : pc = k := by simpa using hb
        subst this
        exact List.mem_cons_self
      · exact List.mem_cons_of_mem _ (ih hp)
theorem tOk_cut {mi : MI} {T : List (Nat × PT)} (n : Nat) (hn : 0 < n) (h : ∀ q, q * n < T.length → tOk mi ((T.drop (q * n)).take n) = true) : tOk mi T = true := by
  unfold tOk
  rw [List.all_eq_true]
  intro e he
  obtain ⟨i, hi, rfl⟩ := List.mem_iff_getElem.mp he
  have h1 := h (i / n) (Nat.lt_of_le_of_lt (Nat.div_mul_le_self i n) hi)
  refine List.all_eq_true.mp h1 _ ?_
  refine List.mem_of_getElem? (i := i % n) ?_
  rw [List.getElem?_take_of_lt (Nat.mod_lt _ hn), List.getElem?_drop]
  have : i / n * n + i % n = i := by rw [Nat.mul_comm]; exact Nat.div_add_mod i n
  rw [this]
  exact List.getElem?_eq_getElem hi
def mi_J6_bitCount_0f7a4 : MI := (11, cJ6_bitCount_0f7a4, 1, 0, false)
theorem mo_J6_bitCount_0f7a4 : miOk mi_J6_bitCount_0f7a4 (mt 145) = true := by decide +kernel
def tl_J6_bitCount_0f7a4 : List (Nat × PT) := [(0, (1, ((0 : Nat) : Int), 0, 1, [])),
  (1, (1, ((0 : Nat) : Int), 0, 2, [])),
  (2, (0, 1, 0, 3, [])),
  (3, (18, 0, 0, 4, [])),
  (4, (0, 1431655765, 0, 7, [])),
  (7, (13, 0, 0, 8, [])),
  (8, (9, 0, 0, 9, [])),
  (9, (4, ((0 : Nat) : Int), 0, 10, [])),
  (10, (1, ((0 : Nat) : Int), 0, 11, [])),
  (11, (0, 858993459, 0, 14, [])),
  (14, (13, 0, 0, 15, [])),
  (15, (1, ((0 : Nat) : Int), 0, 16, [])),
  (16, (0, 2, 0, 17, [])),
  (17, (18, 0, 0, 18, [])),
  (18, (0, 858993459, 0, 21, [])),
  (21, (13, 0, 0, 22, [])),
  (22, (8, 0, 0, 23, [])),
  (23, (4, ((0 : Nat) : Int), 0, 24, [])),
  (24, (1, ((0 : Nat) : Int), 0, 25, [])),
  (25, (1, ((0 : Nat) : Int), 0, 26, [])),
  (26, (0, 4, 0, 27, [])),
  (27, (18, 0, 0, 28, [])),
  (28, (8, 0, 0, 29, [])),
  (29, (0, 252645135, 0, 32, [])),
  (32, (13, 0, 0, 33, [])),
  (33, (4, ((0 : Nat) : Int), 0, 34, [])),
  (34, (1, ((0 : Nat) : Int), 0, 35, [])),
  (35, (1, ((0 : Nat) : Int), 0, 36, [])),
  (36, (0, 8, 0, 38, [])),
  (38, (18, 0, 0, 39, [])),
  (39, (8, 0, 0, 40, [])),
  (40, (4, ((0 : Nat) : Int), 0, 41, [])),
  (41, (1, ((0 : Nat) : Int), 0, 42, [])),
  (42, (1, ((0 : Nat) : Int), 0, 43, [])),
  (43, (0, 16, 0, 45, [])),
  (45, (18, 0, 0, 46, [])),
  (46, (8, 0, 0, 47, [])),
  (47, (4, ((0 : Nat) : Int), 0, 48, [])),
  (48, (1, ((0 : Nat) : Int), 0, 49, [])),
  (49, (0, 63, 0, 51, [])),
  (51, (13, 0, 0, 52, [])),
  (52, (48, ((0 : Nat) : Int), 0, 0, []))]
theorem tk_J6_bitCount_0f7a4 : tOk mi_J6_bitCount_0f7a4 tl_J6_bitCount_0f7a4 = true := by decide +kernel
def pm_J6_bitCount_0f7a4 (pc : Nat) : Option PT := if [].contains pc then none else tl_J6_bitCount_0f7a4.lookup pc
theorem pk_J6_bitCount_0f7a4 : ∀ pc pt, pm_J6_bitCount_0f7a4 pc = some pt → okPt mi_J6_bitCount_0f7a4 pc pt := fun pc pt h => tOk_pm tk_J6_bitCount_0f7a4 h
section
variable {E : ET} {g : GT} {d : Nat} {lm : Nat × Nat} {RT : RTy} {F : FT} {n : Nat} {L : LV} {st : List AV} {h : AH}
theorem r_J6_bitCount_0f7a4_0 : run E g mi_J6_bitCount_0f7a4 d lm RT F pm_J6_bitCount_0f7a4 (n + 1) 0 L st h = exI E d lm RT F (run E g mi_J6_bitCount_0f7a4 d lm RT F pm_J6_bitCount_0f7a4 n) (1, ((0 : Nat) : Int), 0, 1, []) L st h := run_s rfl
theorem r_J6_bitCount_0f7a4_1 : run E g mi_J6_bitCount_0f7a4 d lm RT F pm_J6_bitCount_0f7a4 (n + 1) 1 L st h = exI E d lm RT F (run E g mi_J6_bitCount_0f7a4 d lm RT F pm_J6_bitCount_0f7a4 n) (1, ((0 : Nat) : Int), 0, 2, []) L st h := run_s rfl
theorem r_J6_bitCount_0f7a4_2 : run E g mi_J6_bitCount_0f7a4 d lm RT F pm_J6_bitCount_0f7a4 (n + 1) 2 L st h = exI E d lm RT F (run E g mi_J6_bitCount_0f7a4 d lm RT F pm_J6_bitCount_0f7a4 n) (0, 1, 0, 3, []) L st h := run_s rfl
theorem r_J6_bitCount_0f7a4_3 : run E g mi_J6_bitCount_0f7a4 d lm RT F pm_J6_bitCount_0f7a4 (n + 1) 3 L st h = exI E d lm RT F (run E g mi_J6_bitCount_0f7a4 d lm RT F pm_J6_bitCount_0f7a4 n) (18, 0, 0, 4, []) L st h := run_s rfl
theorem r_J6_bitCount_0f7a4_4 : run E g mi_J6_bitCount_0f7a4 d lm RT F pm_J6_bitCount_0f7a4 (n + 1) 4 L st h = exI E d lm RT F (run E g mi_J6_bitCount_0f7a4 d lm RT F pm_J6_bitCount_0f7a4 n) (0, 1431655765, 0, 7, []) L st h := run_s rfl
theorem r_J6_bitCount_0f7a4_7 : run E g mi_J6_bitCount_0f7a4 d lm RT F pm_J6_bitCount_0f7a4 (n + 1) 7 L st h = exI E d lm RT F (run E g mi_J6_bitCount_0f7a4 d lm RT F pm_J6_bitCount_0f7a4 n) (13, 0, 0, 8, []) L st h := run_s rfl
theorem r_J6_bitCount_0f7a4_8 : run E g mi_J6_bitCount_0f7a4 d lm RT F pm_J6_bitCount_0f7a4 (n + 1) 8 L st h = exI E d lm RT F (run E g mi_J6_bitCount_0f7a4 d lm RT F pm_J6_bitCount_0f7a4 n) (9, 0, 0, 9, []) L st h := run_s rfl
theorem r_J6_bitCount_0f7a4_9 : run E g mi_J6_bitCount_0f7a4 d lm RT F pm_J6_bitCount_0f7a4 (n + 1) 9 L st h = exI E d lm RT F (run E g mi_J6_bitCount_0f7a4 d lm RT F pm_J6_bitCount_0f7a4 n) (4, ((0 : Nat) : Int), 0, 10, []) L st h := run_s rfl
theorem r_J6_bitCount_0f7a4_10 : run E g mi_J6_bitCount_0f7a4 d lm RT F pm_J6_bitCount_0f7a4 (n + 1) 10 L st h = exI E d lm RT F (run E g mi_J6_bitCount_0f7a4 d lm RT F pm_J6_bitCount_0f7a4 n) (1, ((0 : Nat) : Int), 0, 11, []) L st h := run_s rfl
theorem r_J6_bitCount_0f7a4_11 : run E g mi_J6_bitCount_0f7a4 d lm RT F pm_J6_bitCount_0f7a4 (n + 1) 11 L st h = exI E d lm RT F (run E g mi_J6_bitCount_0f7a4 d lm RT F pm_J6_bitCount_0f7a4 n) (0, 858993459, 0, 14, []) L st h := run_s rfl
theorem r_J6_bitCount_0f7a4_14 : run E g mi_J6_bitCount_0f7a4 d lm RT F pm_J6_bitCount_0f7a4 (n + 1) 14 L st h = exI E d lm RT F (run E g mi_J6_bitCount_0f7a4 d lm RT F pm_J6_bitCount_0f7a4 n) (13, 0, 0, 15, []) L st h := run_s rfl
theorem r_J6_bitCount_0f7a4_15 : run E g mi_J6_bitCount_0f7a4 d lm RT F pm_J6_bitCount_0f7a4 (n + 1) 15 L st h = exI E d lm RT F (run E g mi_J6_bitCount_0f7a4 d lm RT F pm_J6_bitCount_0f7a4 n) (1, ((0 : Nat) : Int), 0, 16, []) L st h := run_s rfl
theorem r_J6_bitCount_0f7a4_16 : run E g mi_J6_bitCount_0f7a4 d lm RT F pm_J6_bitCount_0f7a4 (n + 1) 16 L st h = exI E d lm RT F (run E g mi_J6_bitCount_0f7a4 d lm RT F pm_J6_bitCount_0f7a4 n) (0, 2, 0, 17, []) L st h := run_s rfl
theorem r_J6_bitCount_0f7a4_17 : run E g mi_J6_bitCount_0f7a4 d lm RT F pm_J6_bitCount_0f7a4 (n + 1) 17 L st h = exI E d lm RT F (run E g mi_J6_bitCount_0f7a4 d lm RT F pm_J6_bitCount_0f7a4 n) (18, 0, 0, 18, []) L st h := run_s rfl
theorem r_J6_bitCount_0f7a4_18 : run E g mi_J6_bitCount_0f7a4 d lm RT F pm_J6_bitCount_0f7a4 (n + 1) 18 L st h = exI E d lm RT F (run E g mi_J6_bitCount_0f7a4 d lm RT F pm_J6_bitCount_0f7a4 n) (0, 858993459, 0, 21, []) L st h := run_s rfl
theorem r_J6_bitCount_0f7a4_21 : run E g mi_J6_bitCount_0f7a4 d lm RT F pm_J6_bitCount_0f7a4 (n + 1) 21 L st h = exI E d lm RT F (run E g mi_J6_bitCount_0f7a4 d lm RT F pm_J6_bitCount_0f7a4 n) (13, 0, 0, 22, []) L st h := run_s rfl
theorem r_J6_bitCount_0f7a4_22 : run E g mi_J6_bitCount_0f7a4 d lm RT F pm_J6_bitCount_0f7a4 (n + 1) 22 L st h = exI E d lm RT F (run E g mi_J6_bitCount_0f7a4 d lm RT F pm_J6_bitCount_0f7a4 n) (8, 0, 0, 23, []) L st h := run_s rfl
theorem r_J6_bitCount_0f7a4_23 : run E g mi_J6_bitCount_0f7a4 d lm RT F pm_J6_bitCount_0f7a4 (n + 1) 23 L st h = exI E d lm RT F (run E g mi_J6_bitCount_0f7a4 d lm RT F pm_J6_bitCount_0f7a4 n) (4, ((0 : Nat) : Int), 0, 24, []) L st h := run_s rfl
theorem r_J6_bitCount_0f7a4_24 : run E g mi_J6_bitCount_0f7a4 d lm RT F pm_J6_bitCount_0f7a4 (n + 1) 24 L st h = exI E d lm RT F (run E g mi_J6_bitCount_0f7a4 d lm RT F pm_J6_bitCount_0f7a4 n) (1, ((0 : Nat) : Int), 0, 25, []) L st h := run_s rfl
theorem r_J6_bitCount_0f7a4_25 : run E g mi_J6_bitCount_0f7a4 d lm RT F pm_J6_bitCount_0f7a4 (n + 1) 25 L st h = exI E d lm RT F (run E g mi_J6_bitCount_0f7a4 d lm RT F pm_J6_bitCount_0f7a4 n) (1, ((0 : Nat) : Int), 0, 26, []) L st h := run_s rfl
theorem r_J6_bitCount_0f7a4_26 : run E g mi_J6_bitCount_0f7a4 d lm RT F pm_J6_bitCount_0f7a4 (n + 1) 26 L st h = exI E d lm RT F (run E g mi_J6_bitCount_0f7a4 d lm RT F pm_J6_bitCount_0f7a4 n) (0, 4, 0, 27, []) L st h := run_s rfl
theorem r_J6_bitCount_0f7a4_27 : run E g mi_J6_bitCount_0f7a4 d lm RT F pm_J6_bitCount_0f7a4 (n + 1) 27 L st h = exI E d lm RT F (run E g mi_J6_bitCount_0f7a4 d lm RT F pm_J6_bitCount_0f7a4 n) (18, 0, 0, 28, []) L st h := run_s rfl
theorem r_J6_bitCount_0f7a4_28 : run E g mi_J6_bitCount_0f7a4 d lm RT F pm_J6_bitCount_0f7a4 (n + 1) 28 L st h = exI E d lm RT F (run E g mi_J6_bitCount_0f7a4 d lm RT F pm_J6_bitCount_0f7a4 n) (8, 0, 0, 29, []) L st h := run_s rfl
theorem r_J6_bitCount_0f7a4_29 : run E g mi_J6_bitCount_0f7a4 d lm RT F pm_J6_bitCount_0f7a4 (n + 1) 29 L st h = exI E d lm RT F (run E g mi_J6_bitCount_0f7a4 d lm RT F pm_J6_bitCount_0f7a4 n) (0, 252645135, 0, 32, []) L st h := run_s rfl
theorem r_J6_bitCount_0f7a4_32 : run E g mi_J6_bitCount_0f7a4 d lm RT F pm_J6_bitCount_0f7a4 (n + 1) 32 L st h = exI E d lm RT F (run E g mi_J6_bitCount_0f7a4 d lm RT F pm_J6_bitCount_0f7a4 n) (13, 0, 0, 33, []) L st h := run_s rfl
theorem r_J6_bitCount_0f7a4_33 : run E g mi_J6_bitCount_0f7a4 d lm RT F pm_J6_bitCount_0f7a4 (n + 1) 33 L st h = exI E d lm RT F (run E g mi_J6_bitCount_0f7a4 d lm RT F pm_J6_bitCount_0f7a4 n) (4, ((0 : Nat) : Int), 0, 34, []) L st h := run_s rfl
theorem r_J6_bitCount_0f7a4_34 : run E g mi_J6_bitCount_0f7a4 d lm RT F pm_J6_bitCount_0f7a4 (n + 1) 34 L st h = exI E d lm RT F (run E g mi_J6_bitCount_0f7a4 d lm RT F pm_J6_bitCount_0f7a4 n) (1, ((0 : Nat) : Int), 0, 35, []) L st h := run_s rfl
theorem r_J6_bitCount_0f7a4_35 : run E g mi_J6_bitCount_0f7a4 d lm RT F pm_J6_bitCount_0f7a4 (n + 1) 35 L st h = exI E d lm RT F (run E g mi_J6_bitCount_0f7a4 d lm RT F pm_J6_bitCount_0f7a4 n) (1, ((0 : Nat) : Int), 0, 36, []) L st h := run_s rfl
theorem r_J6_bitCount_0f7a4_36 : run E g mi_J6_bitCount_0f7a4 d lm RT F pm_J6_bitCount_0f7a4 (n + 1) 36 L st h = exI E d lm RT F (run E g mi_J6_bitCount_0f7a4 d lm RT F pm_J6_bitCount_0f7a4 n) (0, 8, 0, 38, []) L st h := run_s rfl
theorem r_J6_bitCount_0f7a4_38 : run E g mi_J6_bitCount_0f7a4 d lm RT F pm_J6_bitCount_0f7a4 (n + 1) 38 L st h = exI E d lm RT F (run E g mi_J6_bitCount_0f7a4 d lm RT F pm_J6_bitCount_0f7a4 n) (18, 0, 0, 39, []) L st h := run_s rfl
theorem r_J6_bitCount_0f7a4_39 : run E g mi_J6_bitCount_0f7a4 d lm RT F pm_J6_bitCount_0f7a4 (n + 1) 39 L st h = exI E d lm RT F (run E g mi_J6_bitCount_0f7a4 d lm RT F pm_J6_bitCount_0f7a4 n) (8, 0, 0, 40, []) L st h := run_s rfl
theorem r_J6_bitCount_0f7a4_40 : run E g mi_J6_bitCount_0f7a4 d lm RT F pm_J6_bitCount_0f7a4 (n + 1) 40 L st h = exI E d lm RT F (run E g mi_J6_bitCount_0f7a4 d lm RT F pm_J6_bitCount_0f7a4 n) (4, ((0 : Nat) : Int), 0, 41, []) L st h := run_s rfl
theorem r_J6_bitCount_0f7a4_41 : run E g mi_J6_bitCount_0f7a4 d lm RT F pm_J6_bitCount_0f7a4 (n + 1) 41 L st h = exI E d lm RT F (run E g mi_J6_bitCount_0f7a4 d lm RT F pm_J6_bitCount_0f7a4 n) (1, ((0 : Nat) : Int), 0, 42, []) L st h := run_s rfl
theorem r_J6_bitCount_0f7a4_42 : run E g mi_J6_bitCount_0f7a4 d lm RT F pm_J6_bitCount_0f7a4 (n + 1) 42 L st h = exI E d lm RT F (run E g mi_J6_bitCount_0f7a4 d lm RT F pm_J6_bitCount_0f7a4 n) (1, ((0 : Nat) : Int), 0, 43, []) L st h := run_s rfl
theorem r_J6_bitCount_0f7a4_43 : run E g mi_J6_bitCount_0f7a4 d lm RT F pm_J6_bitCount_0f7a4 (n + 1) 43 L st h = exI E d lm RT F (run E g mi_J6_bitCount_0f7a4 d lm RT F pm_J6_bitCount_0f7a4 n) (0, 16, 0, 45, []) L st h := run_s rfl
theorem r_J6_bitCount_0f7a4_45 : run E g mi_J6_bitCount_0f7a4 d lm RT F pm_J6_bitCount_0f7a4 (n + 1) 45 L st h = exI E d lm RT F (run E g mi_J6_bitCount_0f7a4 d lm RT F pm_J6_bitCount_0f7a4 n) (18, 0, 0, 46, []) L st h := run_s rfl
theorem r_J6_bitCount_0f7a4_46 : run E g mi_J6_bitCount_0f7a4 d lm RT F pm_J6_bitCount_0f7a4 (n + 1) 46 L st h = exI E d lm RT F (run E g mi_J6_bitCount_0f7a4 d lm RT F pm_J6_bitCount_0f7a4 n) (8, 0, 0, 47, []) L st h := run_s rfl
theorem r_J6_bitCount_0f7a4_47 : run E g mi_J6_bitCount_0f7a4 d lm RT F pm_J6_bitCount_0f7a4 (n + 1) 47 L st h = exI E d lm RT F (run E g mi_J6_bitCount_0f7a4 d lm RT F pm_J6_bitCount_0f7a4 n) (4, ((0 : Nat) : Int), 0, 48, []) L st h := run_s rfl
theorem r_J6_bitCount_0f7a4_48 : run E g mi_J6_bitCount_0f7a4 d lm RT F pm_J6_bitCount_0f7a4 (n + 1) 48 L st h = exI E d lm RT F (run E g mi_J6_bitCount_0f7a4 d lm RT F pm_J6_bitCount_0f7a4 n) (1, ((0 : Nat) : Int), 0, 49, []) L st h := run_s rfl
theorem r_J6_bitCount_0f7a4_49 : run E g mi_J6_bitCount_0f7a4 d lm RT F pm_J6_bitCount_0f7a4 (n + 1) 49 L st h = exI E d lm RT F (run E g mi_J6_bitCount_0f7a4 d lm RT F pm_J6_bitCount_0f7a4 n) (0, 63, 0, 51, []) L st h := run_s rfl
theorem r_J6_bitCount_0f7a4_51 : run E g mi_J6_bitCount_0f7a4 d lm RT F pm_J6_bitCount_0f7a4 (n + 1) 51 L st h = exI E d lm RT F (run E g mi_J6_bitCount_0f7a4 d lm RT F pm_J6_bitCount_0f7a4 n) (13, 0, 0, 52, []) L st h := run_s rfl
theorem r_J6_bitCount_0f7a4_52 : run E g mi_J6_bitCount_0f7a4 d lm RT F pm_J6_bitCount_0f7a4 (n + 1) 52 L st h = exI E d lm RT F (run E g mi_J6_bitCount_0f7a4 d lm RT F pm_J6_bitCount_0f7a4 n) (48, ((0 : Nat) : Int), 0, 0, []) L st h := run_s rfl
theorem e_J6_bitCount_0f7a4 (n : Nat) {pc : Nat} (hF : FOk E d F) (hx : run E g mi_J6_bitCount_0f7a4 d lm RT F pm_J6_bitCount_0f7a4 n pc L st h) : G E g mi_J6_bitCount_0f7a4 d lm RT pc L st h := run_sound hF pk_J6_bitCount_0f7a4 n pc L st h hx
end
def mi_J9_max_7cf53 : MI := (12, cJ9_max_7cf53, 2, 0, false)
theorem mo_J9_max_7cf53 : miOk mi_J9_max_7cf53 (mt 146) = true := by decide +kernel
def tl_J9_max_7cf53 : List (Nat × PT) := [(0, (1, ((0 : Nat) : Int), 0, 1, [])),
  (1, (1, ((1 : Nat) : Int), 0, 2, [])),
  (2, (32, 2, ((9 : Nat) : Int), 5, [])),
  (5, (1, ((0 : Nat) : Int), 0, 6, [])),
  (6, (33, ((10 : Nat) : Int), 0, 0, [])),
  (9, (1, ((1 : Nat) : Int), 0, 10, [])),
  (10, (48, ((0 : Nat) : Int), 0, 0, []))]
theorem tk_J9_max_7cf53 : tOk mi_J9_max_7cf53 tl_J9_max_7cf53 = true := by decide +kernel
def pm_J9_max_7cf53 (pc : Nat) : Option PT := if [].contains pc then none else tl_J9_max_7cf53.lookup pc
theorem pk_J9_max_7cf53 : ∀ pc pt, pm_J9_max_7cf53 pc = some pt → okPt mi_J9_max_7cf53 pc pt := fun pc pt h => tOk_pm tk_J9_max_7cf53 h
section
variable {E : ET} {g : GT} {d : Nat} {lm : Nat × Nat} {RT : RTy} {F : FT} {n : Nat} {L : LV} {st : List AV} {h : AH}
theorem r_J9_max_7cf53_0 : run E g mi_J9_max_7cf53 d lm RT F pm_J9_max_7cf53 (n + 1) 0 L st h = exI E d lm RT F (run E g mi_J9_max_7cf53 d lm RT F pm_J9_max_7cf53 n) (1, ((0 : Nat) : Int), 0, 1, []) L st h := run_s rfl
theorem r_J9_max_7cf53_1 : run E g mi_J9_max_7cf53 d lm RT F pm_J9_max_7cf53 (n + 1) 1 L st h = exI E d lm RT F (run E g mi_J9_max_7cf53 d lm RT F pm_J9_max_7cf53 n) (1, ((1 : Nat) : Int), 0, 2, []) L st h := run_s rfl
theorem r_J9_max_7cf53_2 : run E g mi_J9_max_7cf53 d lm RT F pm_J9_max_7cf53 (n + 1) 2 L st h = exI E d lm RT F (run E g mi_J9_max_7cf53 d lm RT F pm_J9_max_7cf53 n) (32, 2, ((9 : Nat) : Int), 5, []) L st h := run_s rfl
theorem r_J9_max_7cf53_5 : run E g mi_J9_max_7cf53 d lm RT F pm_J9_max_7cf53 (n + 1) 5 L st h = exI E d lm RT F (run E g mi_J9_max_7cf53 d lm RT F pm_J9_max_7cf53 n) (1, ((0 : Nat) : Int), 0, 6, []) L st h := run_s rfl
theorem r_J9_max_7cf53_6 : run E g mi_J9_max_7cf53 d lm RT F pm_J9_max_7cf53 (n + 1) 6 L st h = exI E d lm RT F (run E g mi_J9_max_7cf53 d lm RT F pm_J9_max_7cf53 n) (33, ((10 : Nat) : Int), 0, 0, []) L st h := run_s rfl
theorem r_J9_max_7cf53_9 : run E g mi_J9_max_7cf53 d lm RT F pm_J9_max_7cf53 (n + 1) 9 L st h = exI E d lm RT F (run E g mi_J9_max_7cf53 d lm RT F pm_J9_max_7cf53 n) (1, ((1 : Nat) : Int), 0, 10, []) L st h := run_s rfl
theorem r_J9_max_7cf53_10 : run E g mi_J9_max_7cf53 d lm RT F pm_J9_max_7cf53 (n + 1) 10 L st h = exI E d lm RT F (run E g mi_J9_max_7cf53 d lm RT F pm_J9_max_7cf53 n) (48, ((0 : Nat) : Int), 0, 0, []) L st h := run_s rfl
theorem e_J9_max_7cf53 (n : Nat) {pc : Nat} (hF : FOk E d F) (hx : run E g mi_J9_max_7cf53 d lm RT F pm_J9_max_7cf53 n pc L st h) : G E g mi_J9_max_7cf53 d lm RT pc L st h := run_sound hF pk_J9_max_7cf53 n pc L st h hx
end
def mi_J9_min_7cf53 : MI := (12, cJ9_min_7cf53, 2, 0, false)
theorem mo_J9_min_7cf53 : miOk mi_J9_min_7cf53 (mt 147) = true := by decide +kernel
def tl_J9_min_7cf53 : List (Nat × PT) := [(0, (1, ((0 : Nat) : Int), 0, 1, [])),
  (1, (1, ((1 : Nat) : Int), 0, 2, [])),
  (2, (32, 4, ((9 : Nat) : Int), 5, [])),
  (5, (1, ((0 : Nat) : Int), 0, 6, [])),
  (6, (33, ((10 : Nat) : Int), 0, 0, [])),
  (9, (1, ((1 : Nat) : Int), 0, 10, [])),
  (10, (48, ((0 : Nat) : Int), 0, 0, []))]
theorem tk_J9_min_7cf53 : tOk mi_J9_min_7cf53 tl_J9_min_7cf53 = true := by decide +kernel
def pm_J9_min_7cf53 (pc : Nat) : Option PT := if [].contains pc then none else tl_J9_min_7cf53.lookup pc
theorem pk_J9_min_7cf53 : ∀ pc pt, pm_J9_min_7cf53 pc = some pt → okPt mi_J9_min_7cf53 pc pt := fun pc pt h => tOk_pm tk_J9_min_7cf53 h
section
variable {E : ET} {g : GT} {d : Nat} {lm : Nat × Nat} {RT : RTy} {F : FT} {n : Nat} {L : LV} {st : List AV} {h : AH}
theorem r_J9_min_7cf53_0 : run E g mi_J9_min_7cf53 d lm RT F pm_J9_min_7cf53 (n + 1) 0 L st h = exI E d lm RT F (run E g mi_J9_min_7cf53 d lm RT F pm_J9_min_7cf53 n) (1, ((0 : Nat) : Int), 0, 1, []) L st h := run_s rfl
theorem r_J9_min_7cf53_1 : run E g mi_J9_min_7cf53 d lm RT F pm_J9_min_7cf53 (n + 1) 1 L st h = exI E d lm RT F (run E g mi_J9_min_7cf53 d lm RT F pm_J9_min_7cf53 n) (1, ((1 : Nat) : Int), 0, 2, []) L st h := run_s rfl
theorem r_J9_min_7cf53_2 : run E g mi_J9_min_7cf53 d lm RT F pm_J9_min_7cf53 (n + 1) 2 L st h = exI E d lm RT F (run E g mi_J9_min_7cf53 d lm RT F pm_J9_min_7cf53 n) (32, 4, ((9 : Nat) : Int), 5, []) L st h := run_s rfl
theorem r_J9_min_7cf53_5 : run E g mi_J9_min_7cf53 d lm RT F pm_J9_min_7cf53 (n + 1) 5 L st h = exI E d lm RT F (run E g mi_J9_min_7cf53 d lm RT F pm_J9_min_7cf53 n) (1, ((0 : Nat) : Int), 0, 6, []) L st h := run_s rfl
theorem r_J9_min_7cf53_6 : run E g mi_J9_min_7cf53 d lm RT F pm_J9_min_7cf53 (n + 1) 6 L st h = exI E d lm RT F (run E g mi_J9_min_7cf53 d lm RT F pm_J9_min_7cf53 n) (33, ((10 : Nat) : Int), 0, 0, []) L st h := run_s rfl
theorem r_J9_min_7cf53_9 : run E g mi_J9_min_7cf53 d lm RT F pm_J9_min_7cf53 (n + 1) 9 L st h = exI E d lm RT F (run E g mi_J9_min_7cf53 d lm RT F pm_J9_min_7cf53 n) (1, ((1 : Nat) : Int), 0, 10, []) L st h := run_s rfl
theorem r_J9_min_7cf53_10 : run E g mi_J9_min_7cf53 d lm RT F pm_J9_min_7cf53 (n + 1) 10 L st h = exI E d lm RT F (run E g mi_J9_min_7cf53 d lm RT F pm_J9_min_7cf53 n) (48, ((0 : Nat) : Int), 0, 0, []) L st h := run_s rfl
theorem e_J9_min_7cf53 (n : Nat) {pc : Nat} (hF : FOk E d F) (hx : run E g mi_J9_min_7cf53 d lm RT F pm_J9_min_7cf53 n pc L st h) : G E g mi_J9_min_7cf53 d lm RT pc L st h := run_sound hF pk_J9_min_7cf53 n pc L st h hx
end
def mi_X9_within : MI := (9, cX9_within, 3, 1, false)
theorem mo_X9_within : miOk mi_X9_within (mt 90) = true := by decide +kernel
def tl_X9_within : List (Nat × PT) := [(0, (1, ((0 : Nat) : Int), 0, 1, [])),
  (1, (1, ((1 : Nat) : Int), 0, 2, [])),
  (2, (32, 2, ((14 : Nat) : Int), 5, [])),
  (5, (1, ((0 : Nat) : Int), 0, 6, [])),
  (6, (1, ((2 : Nat) : Int), 0, 7, [])),
  (7, (32, 4, ((14 : Nat) : Int), 10, [])),
  (10, (0, 1, 0, 11, [])),
  (11, (33, ((15 : Nat) : Int), 0, 0, [])),
  (14, (0, 0, 0, 15, [])),
  (15, (48, ((1 : Nat) : Int), 0, 0, []))]
theorem tk_X9_within : tOk mi_X9_within tl_X9_within = true := by decide +kernel
def pm_X9_within (pc : Nat) : Option PT := if [].contains pc then none else tl_X9_within.lookup pc
theorem pk_X9_within : ∀ pc pt, pm_X9_within pc = some pt → okPt mi_X9_within pc pt := fun pc pt h => tOk_pm tk_X9_within h
section
variable {E : ET} {g : GT} {d : Nat} {lm : Nat × Nat} {RT : RTy} {F : FT} {n : Nat} {L : LV} {st : List AV} {h : AH}
theorem r_X9_within_0 : run E g mi_X9_within d lm RT F pm_X9_within (n + 1) 0 L st h = exI E d lm RT F (run E g mi_X9_within d lm RT F pm_X9_within n) (1, ((0 : Nat) : Int), 0, 1, []) L st h := run_s rfl
theorem r_X9_within_1 : run E g mi_X9_within d lm RT F pm_X9_within (n + 1) 1 L st h = exI E d lm RT F (run E g mi_X9_within d lm RT F pm_X9_within n) (1, ((1 : Nat) : Int), 0, 2, []) L st h := run_s rfl
theorem r_X9_within_2 : run E g mi_X9_within d lm RT F pm_X9_within (n + 1) 2 L st h = exI E d lm RT F (run E g mi_X9_within d lm RT F pm_X9_within n) (32, 2, ((14 : Nat) : Int), 5, []) L st h := run_s rfl
theorem r_X9_within_5 : run E g mi_X9_within d lm RT F pm_X9_within (n + 1) 5 L st h = exI E d lm RT F (run E g mi_X9_within d lm RT F pm_X9_within n) (1, ((0 : Nat) : Int), 0, 6, []) L st h := run_s rfl
theorem r_X9_within_6 : run E g mi_X9_within d lm RT F pm_X9_within (n + 1) 6 L st h = exI E d lm RT F (run E g mi_X9_within d lm RT F pm_X9_within n) (1, ((2 : Nat) : Int), 0, 7, []) L st h := run_s rfl
theorem r_X9_within_7 : run E g mi_X9_within d lm RT F pm_X9_within (n + 1) 7 L st h = exI E d lm RT F (run E g mi_X9_within d lm RT F pm_X9_within n) (32, 4, ((14 : Nat) : Int), 10, []) L st h := run_s rfl
theorem r_X9_within_10 : run E g mi_X9_within d lm RT F pm_X9_within (n + 1) 10 L st h = exI E d lm RT F (run E g mi_X9_within d lm RT F pm_X9_within n) (0, 1, 0, 11, []) L st h := run_s rfl
theorem r_X9_within_11 : run E g mi_X9_within d lm RT F pm_X9_within (n + 1) 11 L st h = exI E d lm RT F (run E g mi_X9_within d lm RT F pm_X9_within n) (33, ((15 : Nat) : Int), 0, 0, []) L st h := run_s rfl
theorem r_X9_within_14 : run E g mi_X9_within d lm RT F pm_X9_within (n + 1) 14 L st h = exI E d lm RT F (run E g mi_X9_within d lm RT F pm_X9_within n) (0, 0, 0, 15, []) L st h := run_s rfl
theorem r_X9_within_15 : run E g mi_X9_within d lm RT F pm_X9_within (n + 1) 15 L st h = exI E d lm RT F (run E g mi_X9_within d lm RT F pm_X9_within n) (48, ((1 : Nat) : Int), 0, 0, []) L st h := run_s rfl
theorem e_X9_within (n : Nat) {pc : Nat} (hF : FOk E d F) (hx : run E g mi_X9_within d lm RT F pm_X9_within n pc L st h) : G E g mi_X9_within d lm RT pc L st h := run_sound hF pk_X9_within n pc L st h hx
end
def mi_X9_isNode : MI := (9, cX9_isNode, 1, 1, false)
theorem mo_X9_isNode : miOk mi_X9_isNode (mt 91) = true := by decide +kernel
def tl_X9_isNode : List (Nat × PT) := [(0, (1, ((0 : Nat) : Int), 0, 1, [])),
  (1, (0, 0, 0, 2, [])),
  (2, (0, 7, 0, 4, [])),
  (4, (45, ((90 : Nat) : Int), ((3 : Nat) : Int), 7, [])),
  (7, (48, ((1 : Nat) : Int), 0, 0, []))]
theorem tk_X9_isNode : tOk mi_X9_isNode tl_X9_isNode = true := by decide +kernel
def pm_X9_isNode (pc : Nat) : Option PT := if [].contains pc then none else tl_X9_isNode.lookup pc
theorem pk_X9_isNode : ∀ pc pt, pm_X9_isNode pc = some pt → okPt mi_X9_isNode pc pt := fun pc pt h => tOk_pm tk_X9_isNode h
section
variable {E : ET} {g : GT} {d : Nat} {lm : Nat × Nat} {RT : RTy} {F : FT} {n : Nat} {L : LV} {st : List AV} {h : AH}
theorem r_X9_isNode_0 : run E g mi_X9_isNode d lm RT F pm_X9_isNode (n + 1) 0 L st h = exI E d lm RT F (run E g mi_X9_isNode d lm RT F pm_X9_isNode n) (1, ((0 : Nat) : Int), 0, 1, []) L st h := run_s rfl
theorem r_X9_isNode_1 : run E g mi_X9_isNode d lm RT F pm_X9_isNode (n + 1) 1 L st h = exI E d lm RT F (run E g mi_X9_isNode d lm RT F pm_X9_isNode n) (0, 0, 0, 2, []) L st h := run_s rfl
theorem r_X9_isNode_2 : run E g mi_X9_isNode d lm RT F pm_X9_isNode (n + 1) 2 L st h = exI E d lm RT F (run E g mi_X9_isNode d lm RT F pm_X9_isNode n) (0, 7, 0, 4, []) L st h := run_s rfl
theorem r_X9_isNode_4 : run E g mi_X9_isNode d lm RT F pm_X9_isNode (n + 1) 4 L st h = exI E d lm RT F (run E g mi_X9_isNode d lm RT F pm_X9_isNode n) (45, ((90 : Nat) : Int), ((3 : Nat) : Int), 7, []) L st h := run_s rfl
theorem r_X9_isNode_7 : run E g mi_X9_isNode d lm RT F pm_X9_isNode (n + 1) 7 L st h = exI E d lm RT F (run E g mi_X9_isNode d lm RT F pm_X9_isNode n) (48, ((1 : Nat) : Int), 0, 0, []) L st h := run_s rfl
theorem e_X9_isNode (n : Nat) {pc : Nat} (hF : FOk E d F) (hx : run E g mi_X9_isNode d lm RT F pm_X9_isNode n pc L st h) : G E g mi_X9_isNode d lm RT pc L st h := run_sound hF pk_X9_isNode n pc L st h hx
end
def mi_X9_isNext : MI := (9, cX9_isNext, 3, 1, false)
theorem mo_X9_isNext : miOk mi_X9_isNext (mt 92) = true := by decide +kernel
def tl_X9_isNext : List (Nat × PT) := [(0, (2, ((0 : Nat) : Int), 0, 1, [])),
  (1, (35, ((9 : Nat) : Int), ((4 : Nat) : Int), 4, [])),
  (4, (0, 8, 0, 6, [])),
  (6, (1, ((1 : Nat) : Int), 0, 7, [])),
  (7, (10, 0, 0, 8, [])),
  (8, (1, ((2 : Nat) : Int), 0, 9, [])),
  (9, (8, 0, 0, 10, [])),
  (10, (38, 0, 0, 11, [])),
  (11, (0, (-9), 0, 13, [])),
  (13, (32, 0, ((20 : Nat) : Int), 16, [])),
  (16, (0, 1, 0, 17, [])),
  (17, (33, ((21 : Nat) : Int), 0, 0, [])),
  (20, (0, 0, 0, 21, [])),
  (21, (48, ((1 : Nat) : Int), 0, 0, []))]
theorem tk_X9_isNext : tOk mi_X9_isNext tl_X9_isNext = true := by decide +kernel
def pm_X9_isNext (pc : Nat) : Option PT := if [].contains pc then none else tl_X9_isNext.lookup pc
theorem pk_X9_isNext : ∀ pc pt, pm_X9_isNext pc = some pt → okPt mi_X9_isNext pc pt := fun pc pt h => tOk_pm tk_X9_isNext h
section
variable {E : ET} {g : GT} {d : Nat} {lm : Nat × Nat} {RT : RTy} {F : FT} {n : Nat} {L : LV} {st : List AV} {h : AH}
theorem r_X9_isNext_0 : run E g mi_X9_isNext d lm RT F pm_X9_isNext (n + 1) 0 L st h = exI E d lm RT F (run E g mi_X9_isNext d lm RT F pm_X9_isNext n) (2, ((0 : Nat) : Int), 0, 1, []) L st h := run_s rfl
theorem r_X9_isNext_1 : run E g mi_X9_isNext d lm RT F pm_X9_isNext (n + 1) 1 L st h = exI E d lm RT F (run E g mi_X9_isNext d lm RT F pm_X9_isNext n) (35, ((9 : Nat) : Int), ((4 : Nat) : Int), 4, []) L st h := run_s rfl
theorem r_X9_isNext_4 : run E g mi_X9_isNext d lm RT F pm_X9_isNext (n + 1) 4 L st h = exI E d lm RT F (run E g mi_X9_isNext d lm RT F pm_X9_isNext n) (0, 8, 0, 6, []) L st h := run_s rfl
theorem r_X9_isNext_6 : run E g mi_X9_isNext d lm RT F pm_X9_isNext (n + 1) 6 L st h = exI E d lm RT F (run E g mi_X9_isNext d lm RT F pm_X9_isNext n) (1, ((1 : Nat) : Int), 0, 7, []) L st h := run_s rfl
theorem r_X9_isNext_7 : run E g mi_X9_isNext d lm RT F pm_X9_isNext (n + 1) 7 L st h = exI E d lm RT F (run E g mi_X9_isNext d lm RT F pm_X9_isNext n) (10, 0, 0, 8, []) L st h := run_s rfl
theorem r_X9_isNext_8 : run E g mi_X9_isNext d lm RT F pm_X9_isNext (n + 1) 8 L st h = exI E d lm RT F (run E g mi_X9_isNext d lm RT F pm_X9_isNext n) (1, ((2 : Nat) : Int), 0, 9, []) L st h := run_s rfl
theorem r_X9_isNext_9 : run E g mi_X9_isNext d lm RT F pm_X9_isNext (n + 1) 9 L st h = exI E d lm RT F (run E g mi_X9_isNext d lm RT F pm_X9_isNext n) (8, 0, 0, 10, []) L st h := run_s rfl
theorem r_X9_isNext_10 : run E g mi_X9_isNext d lm RT F pm_X9_isNext (n + 1) 10 L st h = exI E d lm RT F (run E g mi_X9_isNext d lm RT F pm_X9_isNext n) (38, 0, 0, 11, []) L st h := run_s rfl
theorem r_X9_isNext_11 : run E g mi_X9_isNext d lm RT F pm_X9_isNext (n + 1) 11 L st h = exI E d lm RT F (run E g mi_X9_isNext d lm RT F pm_X9_isNext n) (0, (-9), 0, 13, []) L st h := run_s rfl
theorem r_X9_isNext_13 : run E g mi_X9_isNext d lm RT F pm_X9_isNext (n + 1) 13 L st h = exI E d lm RT F (run E g mi_X9_isNext d lm RT F pm_X9_isNext n) (32, 0, ((20 : Nat) : Int), 16, []) L st h := run_s rfl
theorem r_X9_isNext_16 : run E g mi_X9_isNext d lm RT F pm_X9_isNext (n + 1) 16 L st h = exI E d lm RT F (run E g mi_X9_isNext d lm RT F pm_X9_isNext n) (0, 1, 0, 17, []) L st h := run_s rfl
theorem r_X9_isNext_17 : run E g mi_X9_isNext d lm RT F pm_X9_isNext (n + 1) 17 L st h = exI E d lm RT F (run E g mi_X9_isNext d lm RT F pm_X9_isNext n) (33, ((21 : Nat) : Int), 0, 0, []) L st h := run_s rfl
theorem r_X9_isNext_20 : run E g mi_X9_isNext d lm RT F pm_X9_isNext (n + 1) 20 L st h = exI E d lm RT F (run E g mi_X9_isNext d lm RT F pm_X9_isNext n) (0, 0, 0, 21, []) L st h := run_s rfl
theorem r_X9_isNext_21 : run E g mi_X9_isNext d lm RT F pm_X9_isNext (n + 1) 21 L st h = exI E d lm RT F (run E g mi_X9_isNext d lm RT F pm_X9_isNext n) (48, ((1 : Nat) : Int), 0, 0, []) L st h := run_s rfl
theorem e_X9_isNext (n : Nat) {pc : Nat} (hF : FOk E d F) (hx : run E g mi_X9_isNext d lm RT F pm_X9_isNext n pc L st h) : G E g mi_X9_isNext d lm RT pc L st h := run_sound hF pk_X9_isNext n pc L st h hx
end
def mi_X9_manyNext : MI := (9, cX9_manyNext, 4, 0, false)
theorem mo_X9_manyNext : miOk mi_X9_manyNext (mt 93) = true := by decide +kernel
def tl_X9_manyNext : List (Nat × PT) := [(0, (0, 0, 0, 1, [])),
  (1, (4, ((2 : Nat) : Int), 0, 2, [])),
  (2, (0, 0, 0, 3, [])),
  (3, (4, ((3 : Nat) : Int), 0, 4, [])),
  (4, (1, ((3 : Nat) : Int), 0, 5, [])),
  (5, (0, 8, 0, 7, [])),
  (7, (32, 3, ((33 : Nat) : Int), 10, [])),
  (10, (1, ((2 : Nat) : Int), 0, 11, [])),
  (11, (2, ((0 : Nat) : Int), 0, 12, [])),
  (12, (1, ((1 : Nat) : Int), 0, 13, [])),
  (13, (1, ((3 : Nat) : Int), 0, 14, [])),
  (14, (52, ((92 : Nat) : Int), ((3 : Nat) : Int), 17, [9])),
  (17, (31, 0, ((24 : Nat) : Int), 20, [])),
  (20, (0, 1, 0, 21, [])),
  (21, (33, ((25 : Nat) : Int), 0, 0, [])),
  (24, (0, 0, 0, 25, [])),
  (25, (8, 0, 0, 26, [])),
  (26, (4, ((2 : Nat) : Int), 0, 27, [])),
  (27, (7, ((3 : Nat) : Int), 1, 30, [])),
  (30, (33, ((4 : Nat) : Int), 0, 0, [])),
  (33, (1, ((2 : Nat) : Int), 0, 34, [])),
  (34, (48, ((0 : Nat) : Int), 0, 0, []))]
theorem tk_X9_manyNext : tOk mi_X9_manyNext tl_X9_manyNext = true := by decide +kernel
def pm_X9_manyNext (pc : Nat) : Option PT := if [4].contains pc then none else tl_X9_manyNext.lookup pc
theorem pk_X9_manyNext : ∀ pc pt, pm_X9_manyNext pc = some pt → okPt mi_X9_manyNext pc pt := fun pc pt h => tOk_pm tk_X9_manyNext h
section
variable {E : ET} {g : GT} {d : Nat} {lm : Nat × Nat} {RT : RTy} {F : FT} {n : Nat} {L : LV} {st : List AV} {h : AH}
theorem r_X9_manyNext_0 : run E g mi_X9_manyNext d lm RT F pm_X9_manyNext (n + 1) 0 L st h = exI E d lm RT F (run E g mi_X9_manyNext d lm RT F pm_X9_manyNext n) (0, 0, 0, 1, []) L st h := run_s rfl
theorem r_X9_manyNext_1 : run E g mi_X9_manyNext d lm RT F pm_X9_manyNext (n + 1) 1 L st h = exI E d lm RT F (run E g mi_X9_manyNext d lm RT F pm_X9_manyNext n) (4, ((2 : Nat) : Int), 0, 2, []) L st h := run_s rfl
theorem r_X9_manyNext_2 : run E g mi_X9_manyNext d lm RT F pm_X9_manyNext (n + 1) 2 L st h = exI E d lm RT F (run E g mi_X9_manyNext d lm RT F pm_X9_manyNext n) (0, 0, 0, 3, []) L st h := run_s rfl
theorem r_X9_manyNext_3 : run E g mi_X9_manyNext d lm RT F pm_X9_manyNext (n + 1) 3 L st h = exI E d lm RT F (run E g mi_X9_manyNext d lm RT F pm_X9_manyNext n) (4, ((3 : Nat) : Int), 0, 4, []) L st h := run_s rfl
theorem r_X9_manyNext_4 : run E g mi_X9_manyNext d lm RT F pm_X9_manyNext (n + 1) 4 L st h = G E g mi_X9_manyNext d lm RT 4 L st h := run_c rfl
theorem q_X9_manyNext_4 (n : Nat) (hF : FOk E d F) (hx : exI E d lm RT F (run E g mi_X9_manyNext d lm RT F pm_X9_manyNext n) (1, ((3 : Nat) : Int), 0, 5, []) L st h) : G E g mi_X9_manyNext d lm RT 4 L st h := sstep hF (tOk_spec tk_X9_manyNext (by decide +kernel)) (run_sound hF pk_X9_manyNext n) hx
theorem r_X9_manyNext_5 : run E g mi_X9_manyNext d lm RT F pm_X9_manyNext (n + 1) 5 L st h = exI E d lm RT F (run E g mi_X9_manyNext d lm RT F pm_X9_manyNext n) (0, 8, 0, 7, []) L st h := run_s rfl
theorem r_X9_manyNext_7 : run E g mi_X9_manyNext d lm RT F pm_X9_manyNext (n + 1) 7 L st h = exI E d lm RT F (run E g mi_X9_manyNext d lm RT F pm_X9_manyNext n) (32, 3, ((33 : Nat) : Int), 10, []) L st h := run_s rfl
theorem r_X9_manyNext_10 : run E g mi_X9_manyNext d lm RT F pm_X9_manyNext (n + 1) 10 L st h = exI E d lm RT F (run E g mi_X9_manyNext d lm RT F pm_X9_manyNext n) (1, ((2 : Nat) : Int), 0, 11, []) L st h := run_s rfl
theorem r_X9_manyNext_11 : run E g mi_X9_manyNext d lm RT F pm_X9_manyNext (n + 1) 11 L st h = exI E d lm RT F (run E g mi_X9_manyNext d lm RT F pm_X9_manyNext n) (2, ((0 : Nat) : Int), 0, 12, []) L st h := run_s rfl
theorem r_X9_manyNext_12 : run E g mi_X9_manyNext d lm RT F pm_X9_manyNext (n + 1) 12 L st h = exI E d lm RT F (run E g mi_X9_manyNext d lm RT F pm_X9_manyNext n) (1, ((1 : Nat) : Int), 0, 13, []) L st h := run_s rfl
theorem r_X9_manyNext_13 : run E g mi_X9_manyNext d lm RT F pm_X9_manyNext (n + 1) 13 L st h = exI E d lm RT F (run E g mi_X9_manyNext d lm RT F pm_X9_manyNext n) (1, ((3 : Nat) : Int), 0, 14, []) L st h := run_s rfl
theorem r_X9_manyNext_14 : run E g mi_X9_manyNext d lm RT F pm_X9_manyNext (n + 1) 14 L st h = exI E d lm RT F (run E g mi_X9_manyNext d lm RT F pm_X9_manyNext n) (52, ((92 : Nat) : Int), ((3 : Nat) : Int), 17, [9]) L st h := run_s rfl
theorem r_X9_manyNext_17 : run E g mi_X9_manyNext d lm RT F pm_X9_manyNext (n + 1) 17 L st h = exI E d lm RT F (run E g mi_X9_manyNext d lm RT F pm_X9_manyNext n) (31, 0, ((24 : Nat) : Int), 20, []) L st h := run_s rfl
theorem r_X9_manyNext_20 : run E g mi_X9_manyNext d lm RT F pm_X9_manyNext (n + 1) 20 L st h = exI E d lm RT F (run E g mi_X9_manyNext d lm RT F pm_X9_manyNext n) (0, 1, 0, 21, []) L st h := run_s rfl
theorem r_X9_manyNext_21 : run E g mi_X9_manyNext d lm RT F pm_X9_manyNext (n + 1) 21 L st h = exI E d lm RT F (run E g mi_X9_manyNext d lm RT F pm_X9_manyNext n) (33, ((25 : Nat) : Int), 0, 0, []) L st h := run_s rfl
theorem r_X9_manyNext_24 : run E g mi_X9_manyNext d lm RT F pm_X9_manyNext (n + 1) 24 L st h = exI E d lm RT F (run E g mi_X9_manyNext d lm RT F pm_X9_manyNext n) (0, 0, 0, 25, []) L st h := run_s rfl
theorem r_X9_manyNext_25 : run E g mi_X9_manyNext d lm RT F pm_X9_manyNext (n + 1) 25 L st h = exI E d lm RT F (run E g mi_X9_manyNext d lm RT F pm_X9_manyNext n) (8, 0, 0, 26, []) L st h := run_s rfl
theorem r_X9_manyNext_26 : run E g mi_X9_manyNext d lm RT F pm_X9_manyNext (n + 1) 26 L st h = exI E d lm RT F (run E g mi_X9_manyNext d lm RT F pm_X9_manyNext n) (4, ((2 : Nat) : Int), 0, 27, []) L st h := run_s rfl
theorem r_X9_manyNext_27 : run E g mi_X9_manyNext d lm RT F pm_X9_manyNext (n + 1) 27 L st h = exI E d lm RT F (run E g mi_X9_manyNext d lm RT F pm_X9_manyNext n) (7, ((3 : Nat) : Int), 1, 30, []) L st h := run_s rfl
theorem r_X9_manyNext_30 : run E g mi_X9_manyNext d lm RT F pm_X9_manyNext (n + 1) 30 L st h = exI E d lm RT F (run E g mi_X9_manyNext d lm RT F pm_X9_manyNext n) (33, ((4 : Nat) : Int), 0, 0, []) L st h := run_s rfl
theorem r_X9_manyNext_33 : run E g mi_X9_manyNext d lm RT F pm_X9_manyNext (n + 1) 33 L st h = exI E d lm RT F (run E g mi_X9_manyNext d lm RT F pm_X9_manyNext n) (1, ((2 : Nat) : Int), 0, 34, []) L st h := run_s rfl
theorem r_X9_manyNext_34 : run E g mi_X9_manyNext d lm RT F pm_X9_manyNext (n + 1) 34 L st h = exI E d lm RT F (run E g mi_X9_manyNext d lm RT F pm_X9_manyNext n) (48, ((0 : Nat) : Int), 0, 0, []) L st h := run_s rfl
theorem e_X9_manyNext (n : Nat) {pc : Nat} (hF : FOk E d F) (hx : run E g mi_X9_manyNext d lm RT F pm_X9_manyNext n pc L st h) : G E g mi_X9_manyNext d lm RT pc L st h := run_sound hF pk_X9_manyNext n pc L st h hx
end
def mi_X9_rowOf : MI := (9, cX9_rowOf, 2, 0, false)
theorem mo_X9_rowOf : miOk mi_X9_rowOf (mt 94) = true := by decide +kernel
def tl_X9_rowOf : List (Nat × PT) := [(0, (0, 8, 0, 2, [])),
  (2, (0, 8, 0, 4, [])),
  (4, (1, ((0 : Nat) : Int), 0, 5, [])),
  (5, (10, 0, 0, 6, [])),
  (6, (1, ((1 : Nat) : Int), 0, 7, [])),
  (7, (8, 0, 0, 8, [])),
  (8, (10, 0, 0, 9, [])),
  (9, (48, ((0 : Nat) : Int), 0, 0, []))]
theorem tk_X9_rowOf : tOk mi_X9_rowOf tl_X9_rowOf = true := by decide +kernel
def pm_X9_rowOf (pc : Nat) : Option PT := if [].contains pc then none else tl_X9_rowOf.lookup pc
theorem pk_X9_rowOf : ∀ pc pt, pm_X9_rowOf pc = some pt → okPt mi_X9_rowOf pc pt := fun pc pt h => tOk_pm tk_X9_rowOf h
section
variable {E : ET} {g : GT} {d : Nat} {lm : Nat × Nat} {RT : RTy} {F : FT} {n : Nat} {L : LV} {st : List AV} {h : AH}
theorem r_X9_rowOf_0 : run E g mi_X9_rowOf d lm RT F pm_X9_rowOf (n + 1) 0 L st h = exI E d lm RT F (run E g mi_X9_rowOf d lm RT F pm_X9_rowOf n) (0, 8, 0, 2, []) L st h := run_s rfl
theorem r_X9_rowOf_2 : run E g mi_X9_rowOf d lm RT F pm_X9_rowOf (n + 1) 2 L st h = exI E d lm RT F (run E g mi_X9_rowOf d lm RT F pm_X9_rowOf n) (0, 8, 0, 4, []) L st h := run_s rfl
theorem r_X9_rowOf_4 : run E g mi_X9_rowOf d lm RT F pm_X9_rowOf (n + 1) 4 L st h = exI E d lm RT F (run E g mi_X9_rowOf d lm RT F pm_X9_rowOf n) (1, ((0 : Nat) : Int), 0, 5, []) L st h := run_s rfl
theorem r_X9_rowOf_5 : run E g mi_X9_rowOf d lm RT F pm_X9_rowOf (n + 1) 5 L st h = exI E d lm RT F (run E g mi_X9_rowOf d lm RT F pm_X9_rowOf n) (10, 0, 0, 6, []) L st h := run_s rfl
theorem r_X9_rowOf_6 : run E g mi_X9_rowOf d lm RT F pm_X9_rowOf (n + 1) 6 L st h = exI E d lm RT F (run E g mi_X9_rowOf d lm RT F pm_X9_rowOf n) (1, ((1 : Nat) : Int), 0, 7, []) L st h := run_s rfl
theorem r_X9_rowOf_7 : run E g mi_X9_rowOf d lm RT F pm_X9_rowOf (n + 1) 7 L st h = exI E d lm RT F (run E g mi_X9_rowOf d lm RT F pm_X9_rowOf n) (8, 0, 0, 8, []) L st h := run_s rfl
theorem r_X9_rowOf_8 : run E g mi_X9_rowOf d lm RT F pm_X9_rowOf (n + 1) 8 L st h = exI E d lm RT F (run E g mi_X9_rowOf d lm RT F pm_X9_rowOf n) (10, 0, 0, 9, []) L st h := run_s rfl
theorem r_X9_rowOf_9 : run E g mi_X9_rowOf d lm RT F pm_X9_rowOf (n + 1) 9 L st h = exI E d lm RT F (run E g mi_X9_rowOf d lm RT F pm_X9_rowOf n) (48, ((0 : Nat) : Int), 0, 0, []) L st h := run_s rfl
theorem e_X9_rowOf (n : Nat) {pc : Nat} (hF : FOk E d F) (hx : run E g mi_X9_rowOf d lm RT F pm_X9_rowOf n pc L st h) : G E g mi_X9_rowOf d lm RT pc L st h := run_sound hF pk_X9_rowOf n pc L st h hx
end
