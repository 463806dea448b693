/-! ===== programs: resolved instructions, and a rule for each place ===== -/
theorem tOk_pm {mi : MI} {T : List (Nat × PT)} (h : tOk mi T = true) {cs : List Nat} {pc : Nat} {pt : PT} (hp : (if cs.contains pc then none else T.lookup pc) = some pt) : okPt mi pc pt := by
  split at hp
  · cases hp
  · refine tOk_spec h ?_
    clear h
    induction T with
    | nil => cases hp
    | cons e T ih =>
      obtain ⟨k, v⟩ := e
      rw [List.lookup_cons] at hp
      split at hp
      · rename_i hb
        cases hp
        have : pc = k := by simpa using hb
        subst this
        exact List.mem_cons_self
      · exact List.mem_cons_of_mem _ (ih hp)
theorem tOk_cut {mi : MI} {T : List (Nat × PT)} (n : Nat) (hn : 0 < n) (h : ∀ q, q * n < T.length → tOk mi ((T.drop (q * n)).take n) = true) : tOk mi T = true := by
  unfold tOk
  rw [List.all_eq_true]
  intro e he
  obtain ⟨i, hi, rfl⟩ := List.mem_iff_getElem.mp he
  have h1 := h (i / n) (Nat.lt_of_le_of_lt (Nat.div_mul_le_self i n) hi)
  refine List.all_eq_true.mp h1 _ ?_
  refine List.mem_of_getElem? (i := i % n) ?_
  rw [List.getElem?_take_of_lt (Nat.mod_lt _ hn), List.getElem?_drop]
  have : i / n * n + i % n = i := by rw [Nat.mul_comm]; exact Nat.div_add_mod i n
  rw [this]
  exact List.getElem?_eq_getElem hi
def mi_J6_bitCount_0f7a4 : MI := (11, cJ6_bitCount_0f7a4, 1, 0, false)
theorem mo_J6_bitCount_0f7a4 : miOk mi_J6_bitCount_0f7a4 (mt 145) = true := by decide +kernel
def tl_J6_bitCount_0f7a4 : List (Nat × PT) := [(0, (1, ((0 : Nat) : Int), 0, 1, [])),
  (1, (1, ((0 : Nat) : Int), 0, 2, [])),
  (2, (0, 1, 0, 3, [])),
  (3, (18, 0, 0, 4, [])),
  (4, (0, 1431655765, 0, 7, [])),
  (7, (13, 0, 0, 8, [])),
  (8, (9, 0, 0, 9, [])),
  (9, (4, ((0 : Nat) : Int), 0, 10, [])),
  (10, (1, ((0 : Nat) : Int), 0, 11, [])),
  (11, (0, 858993459, 0, 14, [])),
  (14, (13, 0, 0, 15, [])),
  (15, (1, ((0 : Nat) : Int), 0, 16, [])),
  (16, (0, 2, 0, 17, [])),
  (17, (18, 0, 0, 18, [])),
  (18, (0, 858993459, 0, 21, [])),
  (21, (13, 0, 0, 22, [])),
  (22, (8, 0, 0, 23, [])),
  (23, (4, ((0 : Nat) : Int), 0, 24, [])),
  (24, (1, ((0 : Nat) : Int), 0, 25, [])),
  (25, (1, ((0 : Nat) : Int), 0, 26, [])),
  (26, (0, 4, 0, 27, [])),
  (27, (18, 0, 0, 28, [])),
  (28, (8, 0, 0, 29, [])),
  (29, (0, 252645135, 0, 32, [])),
  (32, (13, 0, 0, 33, [])),
  (33, (4, ((0 : Nat) : Int), 0, 34, [])),
  (34, (1, ((0 : Nat) : Int), 0, 35, [])),
  (35, (1, ((0 : Nat) : Int), 0, 36, [])),
  (36, (0, 8, 0, 38, [])),
  (38, (18, 0, 0, 39, [])),
  (39, (8, 0, 0, 40, [])),
  (40, (4, ((0 : Nat) : Int), 0, 41, [])),
  (41, (1, ((0 : Nat) : Int), 0, 42, [])),
  (42, (1, ((0 : Nat) : Int), 0, 43, [])),
  (43, (0, 16, 0, 45, [])),
  (45, (18, 0, 0, 46, [])),
  (46, (8, 0, 0, 47, [])),
  (47, (4, ((0 : Nat) : Int), 0, 48, [])),
  (48, (1, ((0 : Nat) : Int), 0, 49, [])),
  (49, (0, 63, 0, 51, [])),
  (51, (13, 0, 0, 52, [])),
  (52, (48, 0, 0, 0, []))]
theorem tk_J6_bitCount_0f7a4 : tOk mi_J6_bitCount_0f7a4 tl_J6_bitCount_0f7a4 = true := by decide +kernel
def pm_J6_bitCount_0f7a4 (pc : Nat) : Option PT := if [].contains pc then none else tl_J6_bitCount_0f7a4.lookup pc
theorem pk_J6_bitCount_0f7a4 : ∀ pc pt, pm_J6_bitCount_0f7a4 pc = some pt → okPt mi_J6_bitCount_0f7a4 pc pt := fun pc pt h => tOk_pm tk_J6_bitCount_0f7a4 h
section
variable {E : ET} {g : GT} {d : Nat} {lm : Nat × Nat} {RT : RTy} {F : FT} {n : Nat} {L : LV} {st : List AV} {h : AH}
theorem r_J6_bitCount_0f7a4_0 : run E g mi_J6_bitCount_0f7a4 d lm RT F pm_J6_bitCount_0f7a4 (n + 1) 0 L st h = exI E d lm RT F (run E g mi_J6_bitCount_0f7a4 d lm RT F pm_J6_bitCount_0f7a4 n) (1, ((0 : Nat) : Int), 0, 1, []) L st h := run_s rfl
theorem r_J6_bitCount_0f7a4_1 : run E g mi_J6_bitCount_0f7a4 d lm RT F pm_J6_bitCount_0f7a4 (n + 1) 1 L st h = exI E d lm RT F (run E g mi_J6_bitCount_0f7a4 d lm RT F pm_J6_bitCount_0f7a4 n) (1, ((0 : Nat) : Int), 0, 2, []) L st h := run_s rfl
theorem r_J6_bitCount_0f7a4_2 : run E g mi_J6_bitCount_0f7a4 d lm RT F pm_J6_bitCount_0f7a4 (n + 1) 2 L st h = exI E d lm RT F (run E g mi_J6_bitCount_0f7a4 d lm RT F pm_J6_bitCount_0f7a4 n) (0, 1, 0, 3, []) L st h := run_s rfl
theorem r_J6_bitCount_0f7a4_3 : run E g mi_J6_bitCount_0f7a4 d lm RT F pm_J6_bitCount_0f7a4 (n + 1) 3 L st h = exI E d lm RT F (run E g mi_J6_bitCount_0f7a4 d lm RT F pm_J6_bitCount_0f7a4 n) (18, 0, 0, 4, []) L st h := run_s rfl
theorem r_J6_bitCount_0f7a4_4 : run E g mi_J6_bitCount_0f7a4 d lm RT F pm_J6_bitCount_0f7a4 (n + 1) 4 L st h = exI E d lm RT F (run E g mi_J6_bitCount_0f7a4 d lm RT F pm_J6_bitCount_0f7a4 n) (0, 1431655765, 0, 7, []) L st h := run_s rfl
theorem r_J6_bitCount_0f7a4_7 : run E g mi_J6_bitCount_0f7a4 d lm RT F pm_J6_bitCount_0f7a4 (n + 1) 7 L st h = exI E d lm RT F (run E g mi_J6_bitCount_0f7a4 d lm RT F pm_J6_bitCount_0f7a4 n) (13, 0, 0, 8, []) L st h := run_s rfl
theorem r_J6_bitCount_0f7a4_8 : run E g mi_J6_bitCount_0f7a4 d lm RT F pm_J6_bitCount_0f7a4 (n + 1) 8 L st h = exI E d lm RT F (run E g mi_J6_bitCount_0f7a4 d lm RT F pm_J6_bitCount_0f7a4 n) (9, 0, 0, 9, []) L st h := run_s rfl
theorem r_J6_bitCount_0f7a4_9 : run E g mi_J6_bitCount_0f7a4 d lm RT F pm_J6_bitCount_0f7a4 (n + 1) 9 L st h = exI E d lm RT F (run E g mi_J6_bitCount_0f7a4 d lm RT F pm_J6_bitCount_0f7a4 n) (4, ((0 : Nat) : Int), 0, 10, []) L st h := run_s rfl
theorem r_J6_bitCount_0f7a4_10 : run E g mi_J6_bitCount_0f7a4 d lm RT F pm_J6_bitCount_0f7a4 (n + 1) 10 L st h = exI E d lm RT F (run E g mi_J6_bitCount_0f7a4 d lm RT F pm_J6_bitCount_0f7a4 n) (1, ((0 : Nat) : Int), 0, 11, []) L st h := run_s rfl
theorem r_J6_bitCount_0f7a4_11 : run E g mi_J6_bitCount_0f7a4 d lm RT F pm_J6_bitCount_0f7a4 (n + 1) 11 L st h = exI E d lm RT F (run E g mi_J6_bitCount_0f7a4 d lm RT F pm_J6_bitCount_0f7a4 n) (0, 858993459, 0, 14, []) L st h := run_s rfl
theorem r_J6_bitCount_0f7a4_14 : run E g mi_J6_bitCount_0f7a4 d lm RT F pm_J6_bitCount_0f7a4 (n + 1) 14 L st h = exI E d lm RT F (run E g mi_J6_bitCount_0f7a4 d lm RT F pm_J6_bitCount_0f7a4 n) (13, 0, 0, 15, []) L st h := run_s rfl
theorem r_J6_bitCount_0f7a4_15 : run E g mi_J6_bitCount_0f7a4 d lm RT F pm_J6_bitCount_0f7a4 (n + 1) 15 L st h = exI E d lm RT F (run E g mi_J6_bitCount_0f7a4 d lm RT F pm_J6_bitCount_0f7a4 n) (1, ((0 : Nat) : Int), 0, 16, []) L st h := run_s rfl
theorem r_J6_bitCount_0f7a4_16 : run E g mi_J6_bitCount_0f7a4 d lm RT F pm_J6_bitCount_0f7a4 (n + 1) 16 L st h = exI E d lm RT F (run E g mi_J6_bitCount_0f7a4 d lm RT F pm_J6_bitCount_0f7a4 n) (0, 2, 0, 17, []) L st h := run_s rfl
theorem r_J6_bitCount_0f7a4_17 : run E g mi_J6_bitCount_0f7a4 d lm RT F pm_J6_bitCount_0f7a4 (n + 1) 17 L st h = exI E d lm RT F (run E g mi_J6_bitCount_0f7a4 d lm RT F pm_J6_bitCount_0f7a4 n) (18, 0, 0, 18, []) L st h := run_s rfl
theorem r_J6_bitCount_0f7a4_18 : run E g mi_J6_bitCount_0f7a4 d lm RT F pm_J6_bitCount_0f7a4 (n + 1) 18 L st h = exI E d lm RT F (run E g mi_J6_bitCount_0f7a4 d lm RT F pm_J6_bitCount_0f7a4 n) (0, 858993459, 0, 21, []) L st h := run_s rfl
theorem r_J6_bitCount_0f7a4_21 : run E g mi_J6_bitCount_0f7a4 d lm RT F pm_J6_bitCount_0f7a4 (n + 1) 21 L st h = exI E d lm RT F (run E g mi_J6_bitCount_0f7a4 d lm RT F pm_J6_bitCount_0f7a4 n) (13, 0, 0, 22, []) L st h := run_s rfl
theorem r_J6_bitCount_0f7a4_22 : run E g mi_J6_bitCount_0f7a4 d lm RT F pm_J6_bitCount_0f7a4 (n + 1) 22 L st h = exI E d lm RT F (run E g mi_J6_bitCount_0f7a4 d lm RT F pm_J6_bitCount_0f7a4 n) (8, 0, 0, 23, []) L st h := run_s rfl
theorem r_J6_bitCount_0f7a4_23 : run E g mi_J6_bitCount_0f7a4 d lm RT F pm_J6_bitCount_0f7a4 (n + 1) 23 L st h = exI E d lm RT F (run E g mi_J6_bitCount_0f7a4 d lm RT F pm_J6_bitCount_0f7a4 n) (4, ((0 : Nat) : Int), 0, 24, []) L st h := run_s rfl
theorem r_J6_bitCount_0f7a4_24 : run E g mi_J6_bitCount_0f7a4 d lm RT F pm_J6_bitCount_0f7a4 (n + 1) 24 L st h = exI E d lm RT F (run E g mi_J6_bitCount_0f7a4 d lm RT F pm_J6_bitCount_0f7a4 n) (1, ((0 : Nat) : Int), 0, 25, []) L st h := run_s rfl
theorem r_J6_bitCount_0f7a4_25 : run E g mi_J6_bitCount_0f7a4 d lm RT F pm_J6_bitCount_0f7a4 (n + 1) 25 L st h = exI E d lm RT F (run E g mi_J6_bitCount_0f7a4 d lm RT F pm_J6_bitCount_0f7a4 n) (1, ((0 : Nat) : Int), 0, 26, []) L st h := run_s rfl
theorem r_J6_bitCount_0f7a4_26 : run E g mi_J6_bitCount_0f7a4 d lm RT F pm_J6_bitCount_0f7a4 (n + 1) 26 L st h = exI E d lm RT F (run E g mi_J6_bitCount_0f7a4 d lm RT F pm_J6_bitCount_0f7a4 n) (0, 4, 0, 27, []) L st h := run_s rfl
theorem r_J6_bitCount_0f7a4_27 : run E g mi_J6_bitCount_0f7a4 d lm RT F pm_J6_bitCount_0f7a4 (n + 1) 27 L st h = exI E d lm RT F (run E g mi_J6_bitCount_0f7a4 d lm RT F pm_J6_bitCount_0f7a4 n) (18, 0, 0, 28, []) L st h := run_s rfl
theorem r_J6_bitCount_0f7a4_28 : run E g mi_J6_bitCount_0f7a4 d lm RT F pm_J6_bitCount_0f7a4 (n + 1) 28 L st h = exI E d lm RT F (run E g mi_J6_bitCount_0f7a4 d lm RT F pm_J6_bitCount_0f7a4 n) (8, 0, 0, 29, []) L st h := run_s rfl
theorem r_J6_bitCount_0f7a4_29 : run E g mi_J6_bitCount_0f7a4 d lm RT F pm_J6_bitCount_0f7a4 (n + 1) 29 L st h = exI E d lm RT F (run E g mi_J6_bitCount_0f7a4 d lm RT F pm_J6_bitCount_0f7a4 n) (0, 252645135, 0, 32, []) L st h := run_s rfl
theorem r_J6_bitCount_0f7a4_32 : run E g mi_J6_bitCount_0f7a4 d lm RT F pm_J6_bitCount_0f7a4 (n + 1) 32 L st h = exI E d lm RT F (run E g mi_J6_bitCount_0f7a4 d lm RT F pm_J6_bitCount_0f7a4 n) (13, 0, 0, 33, []) L st h := run_s rfl
theorem r_J6_bitCount_0f7a4_33 : run E g mi_J6_bitCount_0f7a4 d lm RT F pm_J6_bitCount_0f7a4 (n + 1) 33 L st h = exI E d lm RT F (run E g mi_J6_bitCount_0f7a4 d lm RT F pm_J6_bitCount_0f7a4 n) (4, ((0 : Nat) : Int), 0, 34, []) L st h := run_s rfl
theorem r_J6_bitCount_0f7a4_34 : run E g mi_J6_bitCount_0f7a4 d lm RT F pm_J6_bitCount_0f7a4 (n + 1) 34 L st h = exI E d lm RT F (run E g mi_J6_bitCount_0f7a4 d lm RT F pm_J6_bitCount_0f7a4 n) (1, ((0 : Nat) : Int), 0, 35, []) L st h := run_s rfl
theorem r_J6_bitCount_0f7a4_35 : run E g mi_J6_bitCount_0f7a4 d lm RT F pm_J6_bitCount_0f7a4 (n + 1) 35 L st h = exI E d lm RT F (run E g mi_J6_bitCount_0f7a4 d lm RT F pm_J6_bitCount_0f7a4 n) (1, ((0 : Nat) : Int), 0, 36, []) L st h := run_s rfl
theorem r_J6_bitCount_0f7a4_36 : run E g mi_J6_bitCount_0f7a4 d lm RT F pm_J6_bitCount_0f7a4 (n + 1) 36 L st h = exI E d lm RT F (run E g mi_J6_bitCount_0f7a4 d lm RT F pm_J6_bitCount_0f7a4 n) (0, 8, 0, 38, []) L st h := run_s rfl
theorem r_J6_bitCount_0f7a4_38 : run E g mi_J6_bitCount_0f7a4 d lm RT F pm_J6_bitCount_0f7a4 (n + 1) 38 L st h = exI E d lm RT F (run E g mi_J6_bitCount_0f7a4 d lm RT F pm_J6_bitCount_0f7a4 n) (18, 0, 0, 39, []) L st h := run_s rfl
theorem r_J6_bitCount_0f7a4_39 : run E g mi_J6_bitCount_0f7a4 d lm RT F pm_J6_bitCount_0f7a4 (n + 1) 39 L st h = exI E d lm RT F (run E g mi_J6_bitCount_0f7a4 d lm RT F pm_J6_bitCount_0f7a4 n) (8, 0, 0, 40, []) L st h := run_s rfl
theorem r_J6_bitCount_0f7a4_40 : run E g mi_J6_bitCount_0f7a4 d lm RT F pm_J6_bitCount_0f7a4 (n + 1) 40 L st h = exI E d lm RT F (run E g mi_J6_bitCount_0f7a4 d lm RT F pm_J6_bitCount_0f7a4 n) (4, ((0 : Nat) : Int), 0, 41, []) L st h := run_s rfl
theorem r_J6_bitCount_0f7a4_41 : run E g mi_J6_bitCount_0f7a4 d lm RT F pm_J6_bitCount_0f7a4 (n + 1) 41 L st h = exI E d lm RT F (run E g mi_J6_bitCount_0f7a4 d lm RT F pm_J6_bitCount_0f7a4 n) (1, ((0 : Nat) : Int), 0, 42, []) L st h := run_s rfl
theorem r_J6_bitCount_0f7a4_42 : run E g mi_J6_bitCount_0f7a4 d lm RT F pm_J6_bitCount_0f7a4 (n + 1) 42 L st h = exI E d lm RT F (run E g mi_J6_bitCount_0f7a4 d lm RT F pm_J6_bitCount_0f7a4 n) (1, ((0 : Nat) : Int), 0, 43, []) L st h := run_s rfl
theorem r_J6_bitCount_0f7a4_43 : run E g mi_J6_bitCount_0f7a4 d lm RT F pm_J6_bitCount_0f7a4 (n + 1) 43 L st h = exI E d lm RT F (run E g mi_J6_bitCount_0f7a4 d lm RT F pm_J6_bitCount_0f7a4 n) (0, 16, 0, 45, []) L st h := run_s rfl
theorem r_J6_bitCount_0f7a4_45 : run E g mi_J6_bitCount_0f7a4 d lm RT F pm_J6_bitCount_0f7a4 (n + 1) 45 L st h = exI E d lm RT F (run E g mi_J6_bitCount_0f7a4 d lm RT F pm_J6_bitCount_0f7a4 n) (18, 0, 0, 46, []) L st h := run_s rfl
theorem r_J6_bitCount_0f7a4_46 : run E g mi_J6_bitCount_0f7a4 d lm RT F pm_J6_bitCount_0f7a4 (n + 1) 46 L st h = exI E d lm RT F (run E g mi_J6_bitCount_0f7a4 d lm RT F pm_J6_bitCount_0f7a4 n) (8, 0, 0, 47, []) L st h := run_s rfl
theorem r_J6_bitCount_0f7a4_47 : run E g mi_J6_bitCount_0f7a4 d lm RT F pm_J6_bitCount_0f7a4 (n + 1) 47 L st h = exI E d lm RT F (run E g mi_J6_bitCount_0f7a4 d lm RT F pm_J6_bitCount_0f7a4 n) (4, ((0 : Nat) : Int), 0, 48, []) L st h := run_s rfl
theorem r_J6_bitCount_0f7a4_48 : run E g mi_J6_bitCount_0f7a4 d lm RT F pm_J6_bitCount_0f7a4 (n + 1) 48 L st h = exI E d lm RT F (run E g mi_J6_bitCount_0f7a4 d lm RT F pm_J6_bitCount_0f7a4 n) (1, ((0 : Nat) : Int), 0, 49, []) L st h := run_s rfl
theorem r_J6_bitCount_0f7a4_49 : run E g mi_J6_bitCount_0f7a4 d lm RT F pm_J6_bitCount_0f7a4 (n + 1) 49 L st h = exI E d lm RT F (run E g mi_J6_bitCount_0f7a4 d lm RT F pm_J6_bitCount_0f7a4 n) (0, 63, 0, 51, []) L st h := run_s rfl
theorem r_J6_bitCount_0f7a4_51 : run E g mi_J6_bitCount_0f7a4 d lm RT F pm_J6_bitCount_0f7a4 (n + 1) 51 L st h = exI E d lm RT F (run E g mi_J6_bitCount_0f7a4 d lm RT F pm_J6_bitCount_0f7a4 n) (13, 0, 0, 52, []) L st h := run_s rfl
theorem r_J6_bitCount_0f7a4_52 : run E g mi_J6_bitCount_0f7a4 d lm RT F pm_J6_bitCount_0f7a4 (n + 1) 52 L st h = exI E d lm RT F (run E g mi_J6_bitCount_0f7a4 d lm RT F pm_J6_bitCount_0f7a4 n) (48, 0, 0, 0, []) L st h := run_s rfl
theorem e_J6_bitCount_0f7a4 (n : Nat) {pc : Nat} (hF : FOk E d F) (hx : run E g mi_J6_bitCount_0f7a4 d lm RT F pm_J6_bitCount_0f7a4 n pc L st h) : G E g mi_J6_bitCount_0f7a4 d lm RT pc L st h := run_sound hF pk_J6_bitCount_0f7a4 n pc L st h hx
end
def mi_J9_max_7cf53 : MI := (12, cJ9_max_7cf53, 2, 0, false)
theorem mo_J9_max_7cf53 : miOk mi_J9_max_7cf53 (mt 146) = true := by decide +kernel
def tl_J9_max_7cf53 : List (Nat × PT) := [(0, (1, ((0 : Nat) : Int), 0, 1, [])),
  (1, (1, ((1 : Nat) : Int), 0, 2, [])),
  (2, (32, 2, ((9 : Nat) : Int), 5, [])),
  (5, (1, ((0 : Nat) : Int), 0, 6, [])),
  (6, (33, ((10 : Nat) : Int), 0, 0, [])),
  (9, (1, ((1 : Nat) : Int), 0, 10, [])),
  (10, (48, 0, 0, 0, []))]
theorem tk_J9_max_7cf53 : tOk mi_J9_max_7cf53 tl_J9_max_7cf53 = true := by decide +kernel
def pm_J9_max_7cf53 (pc : Nat) : Option PT := if [].contains pc then none else tl_J9_max_7cf53.lookup pc
theorem pk_J9_max_7cf53 : ∀ pc pt, pm_J9_max_7cf53 pc = some pt → okPt mi_J9_max_7cf53 pc pt := fun pc pt h => tOk_pm tk_J9_max_7cf53 h
section
variable {E : ET} {g : GT} {d : Nat} {lm : Nat × Nat} {RT : RTy} {F : FT} {n : Nat} {L : LV} {st : List AV} {h : AH}
theorem r_J9_max_7cf53_0 : run E g mi_J9_max_7cf53 d lm RT F pm_J9_max_7cf53 (n + 1) 0 L st h = exI E d lm RT F (run E g mi_J9_max_7cf53 d lm RT F pm_J9_max_7cf53 n) (1, ((0 : Nat) : Int), 0, 1, []) L st h := run_s rfl
theorem r_J9_max_7cf53_1 : run E g mi_J9_max_7cf53 d lm RT F pm_J9_max_7cf53 (n + 1) 1 L st h = exI E d lm RT F (run E g mi_J9_max_7cf53 d lm RT F pm_J9_max_7cf53 n) (1, ((1 : Nat) : Int), 0, 2, []) L st h := run_s rfl
theorem r_J9_max_7cf53_2 : run E g mi_J9_max_7cf53 d lm RT F pm_J9_max_7cf53 (n + 1) 2 L st h = exI E d lm RT F (run E g mi_J9_max_7cf53 d lm RT F pm_J9_max_7cf53 n) (32, 2, ((9 : Nat) : Int), 5, []) L st h := run_s rfl
theorem r_J9_max_7cf53_5 : run E g mi_J9_max_7cf53 d lm RT F pm_J9_max_7cf53 (n + 1) 5 L st h = exI E d lm RT F (run E g mi_J9_max_7cf53 d lm RT F pm_J9_max_7cf53 n) (1, ((0 : Nat) : Int), 0, 6, []) L st h := run_s rfl
theorem r_J9_max_7cf53_6 : run E g mi_J9_max_7cf53 d lm RT F pm_J9_max_7cf53 (n + 1) 6 L st h = exI E d lm RT F (run E g mi_J9_max_7cf53 d lm RT F pm_J9_max_7cf53 n) (33, ((10 : Nat) : Int), 0, 0, []) L st h := run_s rfl
theorem r_J9_max_7cf53_9 : run E g mi_J9_max_7cf53 d lm RT F pm_J9_max_7cf53 (n + 1) 9 L st h = exI E d lm RT F (run E g mi_J9_max_7cf53 d lm RT F pm_J9_max_7cf53 n) (1, ((1 : Nat) : Int), 0, 10, []) L st h := run_s rfl
theorem r_J9_max_7cf53_10 : run E g mi_J9_max_7cf53 d lm RT F pm_J9_max_7cf53 (n + 1) 10 L st h = exI E d lm RT F (run E g mi_J9_max_7cf53 d lm RT F pm_J9_max_7cf53 n) (48, 0, 0, 0, []) L st h := run_s rfl
theorem e_J9_max_7cf53 (n : Nat) {pc : Nat} (hF : FOk E d F) (hx : run E g mi_J9_max_7cf53 d lm RT F pm_J9_max_7cf53 n pc L st h) : G E g mi_J9_max_7cf53 d lm RT pc L st h := run_sound hF pk_J9_max_7cf53 n pc L st h hx
end
def mi_J9_min_7cf53 : MI := (12, cJ9_min_7cf53, 2, 0, false)
theorem mo_J9_min_7cf53 : miOk mi_J9_min_7cf53 (mt 147) = true := by decide +kernel
def tl_J9_min_7cf53 : List (Nat × PT) := [(0, (1, ((0 : Nat) : Int), 0, 1, [])),
  (1, (1, ((1 : Nat) : Int), 0, 2, [])),
  (2, (32, 4, ((9 : Nat) : Int), 5, [])),
  (5, (1, ((0 : Nat) : Int), 0, 6, [])),
  (6, (33, ((10 : Nat) : Int), 0, 0, [])),
  (9, (1, ((1 : Nat) : Int), 0, 10, [])),
  (10, (48, 0, 0, 0, []))]
theorem tk_J9_min_7cf53 : tOk mi_J9_min_7cf53 tl_J9_min_7cf53 = true := by decide +kernel
def pm_J9_min_7cf53 (pc : Nat) : Option PT := if [].contains pc then none else tl_J9_min_7cf53.lookup pc
theorem pk_J9_min_7cf53 : ∀ pc pt, pm_J9_min_7cf53 pc = some pt → okPt mi_J9_min_7cf53 pc pt := fun pc pt h => tOk_pm tk_J9_min_7cf53 h
section
variable {E : ET} {g : GT} {d : Nat} {lm : Nat × Nat} {RT : RTy} {F : FT} {n : Nat} {L : LV} {st : List AV} {h : AH}
theorem r_J9_min_7cf53_0 : run E g mi_J9_min_7cf53 d lm RT F pm_J9_min_7cf53 (n + 1) 0 L st h = exI E d lm RT F (run E g mi_J9_min_7cf53 d lm RT F pm_J9_min_7cf53 n) (1, ((0 : Nat) : Int), 0, 1, []) L st h := run_s rfl
theorem r_J9_min_7cf53_1 : run E g mi_J9_min_7cf53 d lm RT F pm_J9_min_7cf53 (n + 1) 1 L st h = exI E d lm RT F (run E g mi_J9_min_7cf53 d lm RT F pm_J9_min_7cf53 n) (1, ((1 : Nat) : Int), 0, 2, []) L st h := run_s rfl
theorem r_J9_min_7cf53_2 : run E g mi_J9_min_7cf53 d lm RT F pm_J9_min_7cf53 (n + 1) 2 L st h = exI E d lm RT F (run E g mi_J9_min_7cf53 d lm RT F pm_J9_min_7cf53 n) (32, 4, ((9 : Nat) : Int), 5, []) L st h := run_s rfl
theorem r_J9_min_7cf53_5 : run E g mi_J9_min_7cf53 d lm RT F pm_J9_min_7cf53 (n + 1) 5 L st h = exI E d lm RT F (run E g mi_J9_min_7cf53 d lm RT F pm_J9_min_7cf53 n) (1, ((0 : Nat) : Int), 0, 6, []) L st h := run_s rfl
theorem r_J9_min_7cf53_6 : run E g mi_J9_min_7cf53 d lm RT F pm_J9_min_7cf53 (n + 1) 6 L st h = exI E d lm RT F (run E g mi_J9_min_7cf53 d lm RT F pm_J9_min_7cf53 n) (33, ((10 : Nat) : Int), 0, 0, []) L st h := run_s rfl
theorem r_J9_min_7cf53_9 : run E g mi_J9_min_7cf53 d lm RT F pm_J9_min_7cf53 (n + 1) 9 L st h = exI E d lm RT F (run E g mi_J9_min_7cf53 d lm RT F pm_J9_min_7cf53 n) (1, ((1 : Nat) : Int), 0, 10, []) L st h := run_s rfl
theorem r_J9_min_7cf53_10 : run E g mi_J9_min_7cf53 d lm RT F pm_J9_min_7cf53 (n + 1) 10 L st h = exI E d lm RT F (run E g mi_J9_min_7cf53 d lm RT F pm_J9_min_7cf53 n) (48, 0, 0, 0, []) L st h := run_s rfl
theorem e_J9_min_7cf53 (n : Nat) {pc : Nat} (hF : FOk E d F) (hx : run E g mi_J9_min_7cf53 d lm RT F pm_J9_min_7cf53 n pc L st h) : G E g mi_J9_min_7cf53 d lm RT pc L st h := run_sound hF pk_J9_min_7cf53 n pc L st h hx
end
def mi_X9_within : MI := (9, cX9_within, 3, 1, false)
theorem mo_X9_within : miOk mi_X9_within (mt 90) = true := by decide +kernel
def tl_X9_within : List (Nat × PT) := [(0, (1, ((0 : Nat) : Int), 0, 1, [])),
  (1, (1, ((1 : Nat) : Int), 0, 2, [])),
  (2, (32, 2, ((14 : Nat) : Int), 5, [])),
  (5, (1, ((0 : Nat) : Int), 0, 6, [])),
  (6, (1, ((2 : Nat) : Int), 0, 7, [])),
  (7, (32, 4, ((14 : Nat) : Int), 10, [])),
  (10, (0, 1, 0, 11, [])),
  (11, (33, ((15 : Nat) : Int), 0, 0, [])),
  (14, (0, 0, 0, 15, [])),
  (15, (48, 1, 0, 0, []))]
theorem tk_X9_within : tOk mi_X9_within tl_X9_within = true := by decide +kernel
def pm_X9_within (pc : Nat) : Option PT := if [].contains pc then none else tl_X9_within.lookup pc
theorem pk_X9_within : ∀ pc pt, pm_X9_within pc = some pt → okPt mi_X9_within pc pt := fun pc pt h => tOk_pm tk_X9_within h
section
variable {E : ET} {g : GT} {d : Nat} {lm : Nat × Nat} {RT : RTy} {F : FT} {n : Nat} {L : LV} {st : List AV} {h : AH}
theorem r_X9_within_0 : run E g mi_X9_within d lm RT F pm_X9_within (n + 1) 0 L st h = exI E d lm RT F (run E g mi_X9_within d lm RT F pm_X9_within n) (1, ((0 : Nat) : Int), 0, 1, []) L st h := run_s rfl
theorem r_X9_within_1 : run E g mi_X9_within d lm RT F pm_X9_within (n + 1) 1 L st h = exI E d lm RT F (run E g mi_X9_within d lm RT F pm_X9_within n) (1, ((1 : Nat) : Int), 0, 2, []) L st h := run_s rfl
theorem r_X9_within_2 : run E g mi_X9_within d lm RT F pm_X9_within (n + 1) 2 L st h = exI E d lm RT F (run E g mi_X9_within d lm RT F pm_X9_within n) (32, 2, ((14 : Nat) : Int), 5, []) L st h := run_s rfl
theorem r_X9_within_5 : run E g mi_X9_within d lm RT F pm_X9_within (n + 1) 5 L st h = exI E d lm RT F (run E g mi_X9_within d lm RT F pm_X9_within n) (1, ((0 : Nat) : Int), 0, 6, []) L st h := run_s rfl
theorem r_X9_within_6 : run E g mi_X9_within d lm RT F pm_X9_within (n + 1) 6 L st h = exI E d lm RT F (run E g mi_X9_within d lm RT F pm_X9_within n) (1, ((2 : Nat) : Int), 0, 7, []) L st h := run_s rfl
theorem r_X9_within_7 : run E g mi_X9_within d lm RT F pm_X9_within (n + 1) 7 L st h = exI E d lm RT F (run E g mi_X9_within d lm RT F pm_X9_within n) (32, 4, ((14 : Nat) : Int), 10, []) L st h := run_s rfl
theorem r_X9_within_10 : run E g mi_X9_within d lm RT F pm_X9_within (n + 1) 10 L st h = exI E d lm RT F (run E g mi_X9_within d lm RT F pm_X9_within n) (0, 1, 0, 11, []) L st h := run_s rfl
theorem r_X9_within_11 : run E g mi_X9_within d lm RT F pm_X9_within (n + 1) 11 L st h = exI E d lm RT F (run E g mi_X9_within d lm RT F pm_X9_within n) (33, ((15 : Nat) : Int), 0, 0, []) L st h := run_s rfl
theorem r_X9_within_14 : run E g mi_X9_within d lm RT F pm_X9_within (n + 1) 14 L st h = exI E d lm RT F (run E g mi_X9_within d lm RT F pm_X9_within n) (0, 0, 0, 15, []) L st h := run_s rfl
theorem r_X9_within_15 : run E g mi_X9_within d lm RT F pm_X9_within (n + 1) 15 L st h = exI E d lm RT F (run E g mi_X9_within d lm RT F pm_X9_within n) (48, 1, 0, 0, []) L st h := run_s rfl
theorem e_X9_within (n : Nat) {pc : Nat} (hF : FOk E d F) (hx : run E g mi_X9_within d lm RT F pm_X9_within n pc L st h) : G E g mi_X9_within d lm RT pc L st h := run_sound hF pk_X9_within n pc L st h hx
end
def mi_X9_isNode : MI := (9, cX9_isNode, 1, 1, false)
theorem mo_X9_isNode : miOk mi_X9_isNode (mt 91) = true := by decide +kernel
def tl_X9_isNode : List (Nat × PT) := [(0, (1, ((0 : Nat) : Int), 0, 1, [])),
  (1, (0, 0, 0, 2, [])),
  (2, (0, 7, 0, 4, [])),
  (4, (45, ((90 : Nat) : Int), ((3 : Nat) : Int), 7, [])),
  (7, (48, 1, 0, 0, []))]
theorem tk_X9_isNode : tOk mi_X9_isNode tl_X9_isNode = true := by decide +kernel
def pm_X9_isNode (pc : Nat) : Option PT := if [].contains pc then none else tl_X9_isNode.lookup pc
theorem pk_X9_isNode : ∀ pc pt, pm_X9_isNode pc = some pt → okPt mi_X9_isNode pc pt := fun pc pt h => tOk_pm tk_X9_isNode h
section
variable {E : ET} {g : GT} {d : Nat} {lm : Nat × Nat} {RT : RTy} {F : FT} {n : Nat} {L : LV} {st : List AV} {h : AH}
theorem r_X9_isNode_0 : run E g mi_X9_isNode d lm RT F pm_X9_isNode (n + 1) 0 L st h = exI E d lm RT F (run E g mi_X9_isNode d lm RT F pm_X9_isNode n) (1, ((0 : Nat) : Int), 0, 1, []) L st h := run_s rfl
theorem r_X9_isNode_1 : run E g mi_X9_isNode d lm RT F pm_X9_isNode (n + 1) 1 L st h = exI E d lm RT F (run E g mi_X9_isNode d lm RT F pm_X9_isNode n) (0, 0, 0, 2, []) L st h := run_s rfl
theorem r_X9_isNode_2 : run E g mi_X9_isNode d lm RT F pm_X9_isNode (n + 1) 2 L st h = exI E d lm RT F (run E g mi_X9_isNode d lm RT F pm_X9_isNode n) (0, 7, 0, 4, []) L st h := run_s rfl
theorem r_X9_isNode_4 : run E g mi_X9_isNode d lm RT F pm_X9_isNode (n + 1) 4 L st h = exI E d lm RT F (run E g mi_X9_isNode d lm RT F pm_X9_isNode n) (45, ((90 : Nat) : Int), ((3 : Nat) : Int), 7, []) L st h := run_s rfl
theorem r_X9_isNode_7 : run E g mi_X9_isNode d lm RT F pm_X9_isNode (n + 1) 7 L st h = exI E d lm RT F (run E g mi_X9_isNode d lm RT F pm_X9_isNode n) (48, 1, 0, 0, []) L st h := run_s rfl
theorem e_X9_isNode (n : Nat) {pc : Nat} (hF : FOk E d F) (hx : run E g mi_X9_isNode d lm RT F pm_X9_isNode n pc L st h) : G E g mi_X9_isNode d lm RT pc L st h := run_sound hF pk_X9_isNode n pc L st h hx
end
def mi_X9_isNext : MI := (9, cX9_isNext, 3, 1, false)
theorem mo_X9_isNext : miOk mi_X9_isNext (mt 92) = true := by decide +kernel
def tl_X9_isNext : List (Nat × PT) := [(0, (2, ((0 : Nat) : Int), 0, 1, [])),
  (1, (35, ((9 : Nat) : Int), ((4 : Nat) : Int), 4, [])),
  (4, (0, 8, 0, 6, [])),
  (6, (1, ((1 : Nat) : Int), 0, 7, [])),
  (7, (10, 0, 0, 8, [])),
  (8, (1, ((2 : Nat) : Int), 0, 9, [])),
  (9, (8, 0, 0, 10, [])),
  (10, (38, 0, 0, 11, [])),
  (11, (0, (-9), 0, 13, [])),
  (13, (32, 0, ((20 : Nat) : Int), 16, [])),
  (16, (0, 1, 0, 17, [])),
  (17, (33, ((21 : Nat) : Int), 0, 0, [])),
  (20, (0, 0, 0, 21, [])),
  (21, (48, 1, 0, 0, []))]
theorem tk_X9_isNext : tOk mi_X9_isNext tl_X9_isNext = true := by decide +kernel
def pm_X9_isNext (pc : Nat) : Option PT := if [].contains pc then none else tl_X9_isNext.lookup pc
theorem pk_X9_isNext : ∀ pc pt, pm_X9_isNext pc = some pt → okPt mi_X9_isNext pc pt := fun pc pt h => tOk_pm tk_X9_isNext h
section
variable {E : ET} {g : GT} {d : Nat} {lm : Nat × Nat} {RT : RTy} {F : FT} {n : Nat} {L : LV} {st : List AV} {h : AH}
theorem r_X9_isNext_0 : run E g mi_X9_isNext d lm RT F pm_X9_isNext (n + 1) 0 L st h = exI E d lm RT F (run E g mi_X9_isNext d lm RT F pm_X9_isNext n) (2, ((0 : Nat) : Int), 0, 1, []) L st h := run_s rfl
theorem r_X9_isNext_1 : run E g mi_X9_isNext d lm RT F pm_X9_isNext (n + 1) 1 L st h = exI E d lm RT F (run E g mi_X9_isNext d lm RT F pm_X9_isNext n) (35, ((9 : Nat) : Int), ((4 : Nat) : Int), 4, []) L st h := run_s rfl
theorem r_X9_isNext_4 : run E g mi_X9_isNext d lm RT F pm_X9_isNext (n + 1) 4 L st h = exI E d lm RT F (run E g mi_X9_isNext d lm RT F pm_X9_isNext n) (0, 8, 0, 6, []) L st h := run_s rfl
theorem r_X9_isNext_6 : run E g mi_X9_isNext d lm RT F pm_X9_isNext (n + 1) 6 L st h = exI E d lm RT F (run E g mi_X9_isNext d lm RT F pm_X9_isNext n) (1, ((1 : Nat) : Int), 0, 7, []) L st h := run_s rfl
theorem r_X9_isNext_7 : run E g mi_X9_isNext d lm RT F pm_X9_isNext (n + 1) 7 L st h = exI E d lm RT F (run E g mi_X9_isNext d lm RT F pm_X9_isNext n) (10, 0, 0, 8, []) L st h := run_s rfl
theorem r_X9_isNext_8 : run E g mi_X9_isNext d lm RT F pm_X9_isNext (n + 1) 8 L st h = exI E d lm RT F (run E g mi_X9_isNext d lm RT F pm_X9_isNext n) (1, ((2 : Nat) : Int), 0, 9, []) L st h := run_s rfl
theorem r_X9_isNext_9 : run E g mi_X9_isNext d lm RT F pm_X9_isNext (n + 1) 9 L st h = exI E d lm RT F (run E g mi_X9_isNext d lm RT F pm_X9_isNext n) (8, 0, 0, 10, []) L st h := run_s rfl
theorem r_X9_isNext_10 : run E g mi_X9_isNext d lm RT F pm_X9_isNext (n + 1) 10 L st h = exI E d lm RT F (run E g mi_X9_isNext d lm RT F pm_X9_isNext n) (38, 0, 0, 11, []) L st h := run_s rfl
theorem r_X9_isNext_11 : run E g mi_X9_isNext d lm RT F pm_X9_isNext (n + 1) 11 L st h = exI E d lm RT F (run E g mi_X9_isNext d lm RT F pm_X9_isNext n) (0, (-9), 0, 13, []) L st h := run_s rfl
theorem r_X9_isNext_13 : run E g mi_X9_isNext d lm RT F pm_X9_isNext (n + 1) 13 L st h = exI E d lm RT F (run E g mi_X9_isNext d lm RT F pm_X9_isNext n) (32, 0, ((20 : Nat) : Int), 16, []) L st h := run_s rfl
theorem r_X9_isNext_16 : run E g mi_X9_isNext d lm RT F pm_X9_isNext (n + 1) 16 L st h = exI E d lm RT F (run E g mi_X9_isNext d lm RT F pm_X9_isNext n) (0, 1, 0, 17, []) L st h := run_s rfl
theorem r_X9_isNext_17 : run E g mi_X9_isNext d lm RT F pm_X9_isNext (n + 1) 17 L st h = exI E d lm RT F (run E g mi_X9_isNext d lm RT F pm_X9_isNext n) (33, ((21 : Nat) : Int), 0, 0, []) L st h := run_s rfl
theorem r_X9_isNext_20 : run E g mi_X9_isNext d lm RT F pm_X9_isNext (n + 1) 20 L st h = exI E d lm RT F (run E g mi_X9_isNext d lm RT F pm_X9_isNext n) (0, 0, 0, 21, []) L st h := run_s rfl
theorem r_X9_isNext_21 : run E g mi_X9_isNext d lm RT F pm_X9_isNext (n + 1) 21 L st h = exI E d lm RT F (run E g mi_X9_isNext d lm RT F pm_X9_isNext n) (48, 1, 0, 0, []) L st h := run_s rfl
theorem e_X9_isNext (n : Nat) {pc : Nat} (hF : FOk E d F) (hx : run E g mi_X9_isNext d lm RT F pm_X9_isNext n pc L st h) : G E g mi_X9_isNext d lm RT pc L st h := run_sound hF pk_X9_isNext n pc L st h hx
end
def mi_X9_rowOf : MI := (9, cX9_rowOf, 2, 0, false)
theorem mo_X9_rowOf : miOk mi_X9_rowOf (mt 94) = true := by decide +kernel
def tl_X9_rowOf : List (Nat × PT) := [(0, (0, 8, 0, 2, [])),
  (2, (0, 8, 0, 4, [])),
  (4, (1, ((0 : Nat) : Int), 0, 5, [])),
  (5, (10, 0, 0, 6, [])),
  (6, (1, ((1 : Nat) : Int), 0, 7, [])),
  (7, (8, 0, 0, 8, [])),
  (8, (10, 0, 0, 9, [])),
  (9, (48, 0, 0, 0, []))]
theorem tk_X9_rowOf : tOk mi_X9_rowOf tl_X9_rowOf = true := by decide +kernel
def pm_X9_rowOf (pc : Nat) : Option PT := if [].contains pc then none else tl_X9_rowOf.lookup pc
theorem pk_X9_rowOf : ∀ pc pt, pm_X9_rowOf pc = some pt → okPt mi_X9_rowOf pc pt := fun pc pt h => tOk_pm tk_X9_rowOf h
section
variable {E : ET} {g : GT} {d : Nat} {lm : Nat × Nat} {RT : RTy} {F : FT} {n : Nat} {L : LV} {st : List AV} {h : AH}
theorem r_X9_rowOf_0 : run E g mi_X9_rowOf d lm RT F pm_X9_rowOf (n + 1) 0 L st h = exI E d lm RT F (run E g mi_X9_rowOf d lm RT F pm_X9_rowOf n) (0, 8, 0, 2, []) L st h := run_s rfl
theorem r_X9_rowOf_2 : run E g mi_X9_rowOf d lm RT F pm_X9_rowOf (n + 1) 2 L st h = exI E d lm RT F (run E g mi_X9_rowOf d lm RT F pm_X9_rowOf n) (0, 8, 0, 4, []) L st h := run_s rfl
theorem r_X9_rowOf_4 : run E g mi_X9_rowOf d lm RT F pm_X9_rowOf (n + 1) 4 L st h = exI E d lm RT F (run E g mi_X9_rowOf d lm RT F pm_X9_rowOf n) (1, ((0 : Nat) : Int), 0, 5, []) L st h := run_s rfl
theorem r_X9_rowOf_5 : run E g mi_X9_rowOf d lm RT F pm_X9_rowOf (n + 1) 5 L st h = exI E d lm RT F (run E g mi_X9_rowOf d lm RT F pm_X9_rowOf n) (10, 0, 0, 6, []) L st h := run_s rfl
theorem r_X9_rowOf_6 : run E g mi_X9_rowOf d lm RT F pm_X9_rowOf (n + 1) 6 L st h = exI E d lm RT F (run E g mi_X9_rowOf d lm RT F pm_X9_rowOf n) (1, ((1 : Nat) : Int), 0, 7, []) L st h := run_s rfl
theorem r_X9_rowOf_7 : run E g mi_X9_rowOf d lm RT F pm_X9_rowOf (n + 1) 7 L st h = exI E d lm RT F (run E g mi_X9_rowOf d lm RT F pm_X9_rowOf n) (8, 0, 0, 8, []) L st h := run_s rfl
theorem r_X9_rowOf_8 : run E g mi_X9_rowOf d lm RT F pm_X9_rowOf (n + 1) 8 L st h = exI E d lm RT F (run E g mi_X9_rowOf d lm RT F pm_X9_rowOf n) (10, 0, 0, 9, []) L st h := run_s rfl
theorem r_X9_rowOf_9 : run E g mi_X9_rowOf d lm RT F pm_X9_rowOf (n + 1) 9 L st h = exI E d lm RT F (run E g mi_X9_rowOf d lm RT F pm_X9_rowOf n) (48, 0, 0, 0, []) L st h := run_s rfl
theorem e_X9_rowOf (n : Nat) {pc : Nat} (hF : FOk E d F) (hx : run E g mi_X9_rowOf d lm RT F pm_X9_rowOf n pc L st h) : G E g mi_X9_rowOf d lm RT pc L st h := run_sound hF pk_X9_rowOf n pc L st h hx
end
def mi_X9_isThere : MI := (9, cX9_isThere, 2, 1, false)
theorem mo_X9_isThere : miOk mi_X9_isThere (mt 100) = true := by decide +kernel
def tl_X9_isThere : List (Nat × PT) := [(0, (1, ((1 : Nat) : Int), 0, 1, [])),
  (1, (0, 0, 0, 2, [])),
  (2, (0, 15, 0, 4, [])),
  (4, (45, ((90 : Nat) : Int), ((3 : Nat) : Int), 7, [])),
  (7, (31, 0, ((23 : Nat) : Int), 10, [])),
  (10, (2, ((0 : Nat) : Int), 0, 11, [])),
  (11, (35, ((9 : Nat) : Int), ((0 : Nat) : Int), 14, [])),
  (14, (1, ((1 : Nat) : Int), 0, 15, [])),
  (15, (38, 1, 0, 16, [])),
  (16, (31, 0, ((23 : Nat) : Int), 19, [])),
  (19, (0, 1, 0, 20, [])),
  (20, (33, ((24 : Nat) : Int), 0, 0, [])),
  (23, (0, 0, 0, 24, [])),
  (24, (48, 1, 0, 0, []))]
theorem tk_X9_isThere : tOk mi_X9_isThere tl_X9_isThere = true := by decide +kernel
def pm_X9_isThere (pc : Nat) : Option PT := if [].contains pc then none else tl_X9_isThere.lookup pc
theorem pk_X9_isThere : ∀ pc pt, pm_X9_isThere pc = some pt → okPt mi_X9_isThere pc pt := fun pc pt h => tOk_pm tk_X9_isThere h
section
variable {E : ET} {g : GT} {d : Nat} {lm : Nat × Nat} {RT : RTy} {F : FT} {n : Nat} {L : LV} {st : List AV} {h : AH}
theorem r_X9_isThere_0 : run E g mi_X9_isThere d lm RT F pm_X9_isThere (n + 1) 0 L st h = exI E d lm RT F (run E g mi_X9_isThere d lm RT F pm_X9_isThere n) (1, ((1 : Nat) : Int), 0, 1, []) L st h := run_s rfl
theorem r_X9_isThere_1 : run E g mi_X9_isThere d lm RT F pm_X9_isThere (n + 1) 1 L st h = exI E d lm RT F (run E g mi_X9_isThere d lm RT F pm_X9_isThere n) (0, 0, 0, 2, []) L st h := run_s rfl
theorem r_X9_isThere_2 : run E g mi_X9_isThere d lm RT F pm_X9_isThere (n + 1) 2 L st h = exI E d lm RT F (run E g mi_X9_isThere d lm RT F pm_X9_isThere n) (0, 15, 0, 4, []) L st h := run_s rfl
theorem r_X9_isThere_4 : run E g mi_X9_isThere d lm RT F pm_X9_isThere (n + 1) 4 L st h = exI E d lm RT F (run E g mi_X9_isThere d lm RT F pm_X9_isThere n) (45, ((90 : Nat) : Int), ((3 : Nat) : Int), 7, []) L st h := run_s rfl
theorem r_X9_isThere_7 : run E g mi_X9_isThere d lm RT F pm_X9_isThere (n + 1) 7 L st h = exI E d lm RT F (run E g mi_X9_isThere d lm RT F pm_X9_isThere n) (31, 0, ((23 : Nat) : Int), 10, []) L st h := run_s rfl
theorem r_X9_isThere_10 : run E g mi_X9_isThere d lm RT F pm_X9_isThere (n + 1) 10 L st h = exI E d lm RT F (run E g mi_X9_isThere d lm RT F pm_X9_isThere n) (2, ((0 : Nat) : Int), 0, 11, []) L st h := run_s rfl
theorem r_X9_isThere_11 : run E g mi_X9_isThere d lm RT F pm_X9_isThere (n + 1) 11 L st h = exI E d lm RT F (run E g mi_X9_isThere d lm RT F pm_X9_isThere n) (35, ((9 : Nat) : Int), ((0 : Nat) : Int), 14, []) L st h := run_s rfl
theorem r_X9_isThere_14 : run E g mi_X9_isThere d lm RT F pm_X9_isThere (n + 1) 14 L st h = exI E d lm RT F (run E g mi_X9_isThere d lm RT F pm_X9_isThere n) (1, ((1 : Nat) : Int), 0, 15, []) L st h := run_s rfl
theorem r_X9_isThere_15 : run E g mi_X9_isThere d lm RT F pm_X9_isThere (n + 1) 15 L st h = exI E d lm RT F (run E g mi_X9_isThere d lm RT F pm_X9_isThere n) (38, 1, 0, 16, []) L st h := run_s rfl
theorem r_X9_isThere_16 : run E g mi_X9_isThere d lm RT F pm_X9_isThere (n + 1) 16 L st h = exI E d lm RT F (run E g mi_X9_isThere d lm RT F pm_X9_isThere n) (31, 0, ((23 : Nat) : Int), 19, []) L st h := run_s rfl
theorem r_X9_isThere_19 : run E g mi_X9_isThere d lm RT F pm_X9_isThere (n + 1) 19 L st h = exI E d lm RT F (run E g mi_X9_isThere d lm RT F pm_X9_isThere n) (0, 1, 0, 20, []) L st h := run_s rfl
theorem r_X9_isThere_20 : run E g mi_X9_isThere d lm RT F pm_X9_isThere (n + 1) 20 L st h = exI E d lm RT F (run E g mi_X9_isThere d lm RT F pm_X9_isThere n) (33, ((24 : Nat) : Int), 0, 0, []) L st h := run_s rfl
theorem r_X9_isThere_23 : run E g mi_X9_isThere d lm RT F pm_X9_isThere (n + 1) 23 L st h = exI E d lm RT F (run E g mi_X9_isThere d lm RT F pm_X9_isThere n) (0, 0, 0, 24, []) L st h := run_s rfl
theorem r_X9_isThere_24 : run E g mi_X9_isThere d lm RT F pm_X9_isThere (n + 1) 24 L st h = exI E d lm RT F (run E g mi_X9_isThere d lm RT F pm_X9_isThere n) (48, 1, 0, 0, []) L st h := run_s rfl
theorem e_X9_isThere (n : Nat) {pc : Nat} (hF : FOk E d F) (hx : run E g mi_X9_isThere d lm RT F pm_X9_isThere n pc L st h) : G E g mi_X9_isThere d lm RT pc L st h := run_sound hF pk_X9_isThere n pc L st h hx
end
def mi_X9_isOne : MI := (9, cX9_isOne, 2, 1, false)
theorem mo_X9_isOne : miOk mi_X9_isOne (mt 134) = true := by decide +kernel
def tl_X9_isOne : List (Nat × PT) := [(0, (1, ((1 : Nat) : Int), 0, 1, [])),
  (1, (0, 0, 0, 2, [])),
  (2, (0, 11, 0, 4, [])),
  (4, (45, ((90 : Nat) : Int), ((3 : Nat) : Int), 7, [])),
  (7, (31, 0, ((23 : Nat) : Int), 10, [])),
  (10, (2, ((0 : Nat) : Int), 0, 11, [])),
  (11, (35, ((9 : Nat) : Int), ((17 : Nat) : Int), 14, [])),
  (14, (1, ((1 : Nat) : Int), 0, 15, [])),
  (15, (38, 1, 0, 16, [])),
  (16, (31, 0, ((23 : Nat) : Int), 19, [])),
  (19, (0, 1, 0, 20, [])),
  (20, (33, ((24 : Nat) : Int), 0, 0, [])),
  (23, (0, 0, 0, 24, [])),
  (24, (48, 1, 0, 0, []))]
theorem tk_X9_isOne : tOk mi_X9_isOne tl_X9_isOne = true := by decide +kernel
def pm_X9_isOne (pc : Nat) : Option PT := if [].contains pc then none else tl_X9_isOne.lookup pc
theorem pk_X9_isOne : ∀ pc pt, pm_X9_isOne pc = some pt → okPt mi_X9_isOne pc pt := fun pc pt h => tOk_pm tk_X9_isOne h
section
variable {E : ET} {g : GT} {d : Nat} {lm : Nat × Nat} {RT : RTy} {F : FT} {n : Nat} {L : LV} {st : List AV} {h : AH}
theorem r_X9_isOne_0 : run E g mi_X9_isOne d lm RT F pm_X9_isOne (n + 1) 0 L st h = exI E d lm RT F (run E g mi_X9_isOne d lm RT F pm_X9_isOne n) (1, ((1 : Nat) : Int), 0, 1, []) L st h := run_s rfl
theorem r_X9_isOne_1 : run E g mi_X9_isOne d lm RT F pm_X9_isOne (n + 1) 1 L st h = exI E d lm RT F (run E g mi_X9_isOne d lm RT F pm_X9_isOne n) (0, 0, 0, 2, []) L st h := run_s rfl
theorem r_X9_isOne_2 : run E g mi_X9_isOne d lm RT F pm_X9_isOne (n + 1) 2 L st h = exI E d lm RT F (run E g mi_X9_isOne d lm RT F pm_X9_isOne n) (0, 11, 0, 4, []) L st h := run_s rfl
theorem r_X9_isOne_4 : run E g mi_X9_isOne d lm RT F pm_X9_isOne (n + 1) 4 L st h = exI E d lm RT F (run E g mi_X9_isOne d lm RT F pm_X9_isOne n) (45, ((90 : Nat) : Int), ((3 : Nat) : Int), 7, []) L st h := run_s rfl
theorem r_X9_isOne_7 : run E g mi_X9_isOne d lm RT F pm_X9_isOne (n + 1) 7 L st h = exI E d lm RT F (run E g mi_X9_isOne d lm RT F pm_X9_isOne n) (31, 0, ((23 : Nat) : Int), 10, []) L st h := run_s rfl
theorem r_X9_isOne_10 : run E g mi_X9_isOne d lm RT F pm_X9_isOne (n + 1) 10 L st h = exI E d lm RT F (run E g mi_X9_isOne d lm RT F pm_X9_isOne n) (2, ((0 : Nat) : Int), 0, 11, []) L st h := run_s rfl
theorem r_X9_isOne_11 : run E g mi_X9_isOne d lm RT F pm_X9_isOne (n + 1) 11 L st h = exI E d lm RT F (run E g mi_X9_isOne d lm RT F pm_X9_isOne n) (35, ((9 : Nat) : Int), ((17 : Nat) : Int), 14, []) L st h := run_s rfl
theorem r_X9_isOne_14 : run E g mi_X9_isOne d lm RT F pm_X9_isOne (n + 1) 14 L st h = exI E d lm RT F (run E g mi_X9_isOne d lm RT F pm_X9_isOne n) (1, ((1 : Nat) : Int), 0, 15, []) L st h := run_s rfl
theorem r_X9_isOne_15 : run E g mi_X9_isOne d lm RT F pm_X9_isOne (n + 1) 15 L st h = exI E d lm RT F (run E g mi_X9_isOne d lm RT F pm_X9_isOne n) (38, 1, 0, 16, []) L st h := run_s rfl
theorem r_X9_isOne_16 : run E g mi_X9_isOne d lm RT F pm_X9_isOne (n + 1) 16 L st h = exI E d lm RT F (run E g mi_X9_isOne d lm RT F pm_X9_isOne n) (31, 0, ((23 : Nat) : Int), 19, []) L st h := run_s rfl
theorem r_X9_isOne_19 : run E g mi_X9_isOne d lm RT F pm_X9_isOne (n + 1) 19 L st h = exI E d lm RT F (run E g mi_X9_isOne d lm RT F pm_X9_isOne n) (0, 1, 0, 20, []) L st h := run_s rfl
theorem r_X9_isOne_20 : run E g mi_X9_isOne d lm RT F pm_X9_isOne (n + 1) 20 L st h = exI E d lm RT F (run E g mi_X9_isOne d lm RT F pm_X9_isOne n) (33, ((24 : Nat) : Int), 0, 0, []) L st h := run_s rfl
theorem r_X9_isOne_23 : run E g mi_X9_isOne d lm RT F pm_X9_isOne (n + 1) 23 L st h = exI E d lm RT F (run E g mi_X9_isOne d lm RT F pm_X9_isOne n) (0, 0, 0, 24, []) L st h := run_s rfl
theorem r_X9_isOne_24 : run E g mi_X9_isOne d lm RT F pm_X9_isOne (n + 1) 24 L st h = exI E d lm RT F (run E g mi_X9_isOne d lm RT F pm_X9_isOne n) (48, 1, 0, 0, []) L st h := run_s rfl
theorem e_X9_isOne (n : Nat) {pc : Nat} (hF : FOk E d F) (hx : run E g mi_X9_isOne d lm RT F pm_X9_isOne n pc L st h) : G E g mi_X9_isOne d lm RT pc L st h := run_sound hF pk_X9_isOne n pc L st h hx
end
def mi_X8_isNode : MI := (8, cX8_isNode, 1, 1, false)
theorem mo_X8_isNode : miOk mi_X8_isNode (mt 65) = true := by decide +kernel
def tl_X8_isNode : List (Nat × PT) := [(0, (1, ((0 : Nat) : Int), 0, 1, [])),
  (1, (31, 2, ((14 : Nat) : Int), 4, [])),
  (4, (1, ((0 : Nat) : Int), 0, 5, [])),
  (5, (0, 8, 0, 7, [])),
  (7, (32, 3, ((14 : Nat) : Int), 10, [])),
  (10, (0, 1, 0, 11, [])),
  (11, (33, ((15 : Nat) : Int), 0, 0, [])),
  (14, (0, 0, 0, 15, [])),
  (15, (48, 1, 0, 0, []))]
theorem tk_X8_isNode : tOk mi_X8_isNode tl_X8_isNode = true := by decide +kernel
def pm_X8_isNode (pc : Nat) : Option PT := if [].contains pc then none else tl_X8_isNode.lookup pc
theorem pk_X8_isNode : ∀ pc pt, pm_X8_isNode pc = some pt → okPt mi_X8_isNode pc pt := fun pc pt h => tOk_pm tk_X8_isNode h
section
variable {E : ET} {g : GT} {d : Nat} {lm : Nat × Nat} {RT : RTy} {F : FT} {n : Nat} {L : LV} {st : List AV} {h : AH}
theorem r_X8_isNode_0 : run E g mi_X8_isNode d lm RT F pm_X8_isNode (n + 1) 0 L st h = exI E d lm RT F (run E g mi_X8_isNode d lm RT F pm_X8_isNode n) (1, ((0 : Nat) : Int), 0, 1, []) L st h := run_s rfl
theorem r_X8_isNode_1 : run E g mi_X8_isNode d lm RT F pm_X8_isNode (n + 1) 1 L st h = exI E d lm RT F (run E g mi_X8_isNode d lm RT F pm_X8_isNode n) (31, 2, ((14 : Nat) : Int), 4, []) L st h := run_s rfl
theorem r_X8_isNode_4 : run E g mi_X8_isNode d lm RT F pm_X8_isNode (n + 1) 4 L st h = exI E d lm RT F (run E g mi_X8_isNode d lm RT F pm_X8_isNode n) (1, ((0 : Nat) : Int), 0, 5, []) L st h := run_s rfl
theorem r_X8_isNode_5 : run E g mi_X8_isNode d lm RT F pm_X8_isNode (n + 1) 5 L st h = exI E d lm RT F (run E g mi_X8_isNode d lm RT F pm_X8_isNode n) (0, 8, 0, 7, []) L st h := run_s rfl
theorem r_X8_isNode_7 : run E g mi_X8_isNode d lm RT F pm_X8_isNode (n + 1) 7 L st h = exI E d lm RT F (run E g mi_X8_isNode d lm RT F pm_X8_isNode n) (32, 3, ((14 : Nat) : Int), 10, []) L st h := run_s rfl
theorem r_X8_isNode_10 : run E g mi_X8_isNode d lm RT F pm_X8_isNode (n + 1) 10 L st h = exI E d lm RT F (run E g mi_X8_isNode d lm RT F pm_X8_isNode n) (0, 1, 0, 11, []) L st h := run_s rfl
theorem r_X8_isNode_11 : run E g mi_X8_isNode d lm RT F pm_X8_isNode (n + 1) 11 L st h = exI E d lm RT F (run E g mi_X8_isNode d lm RT F pm_X8_isNode n) (33, ((15 : Nat) : Int), 0, 0, []) L st h := run_s rfl
theorem r_X8_isNode_14 : run E g mi_X8_isNode d lm RT F pm_X8_isNode (n + 1) 14 L st h = exI E d lm RT F (run E g mi_X8_isNode d lm RT F pm_X8_isNode n) (0, 0, 0, 15, []) L st h := run_s rfl
theorem r_X8_isNode_15 : run E g mi_X8_isNode d lm RT F pm_X8_isNode (n + 1) 15 L st h = exI E d lm RT F (run E g mi_X8_isNode d lm RT F pm_X8_isNode n) (48, 1, 0, 0, []) L st h := run_s rfl
theorem e_X8_isNode (n : Nat) {pc : Nat} (hF : FOk E d F) (hx : run E g mi_X8_isNode d lm RT F pm_X8_isNode n pc L st h) : G E g mi_X8_isNode d lm RT pc L st h := run_sound hF pk_X8_isNode n pc L st h hx
end
def mi_X8_isDelay : MI := (8, cX8_isDelay, 1, 1, false)
theorem mo_X8_isDelay : miOk mi_X8_isDelay (mt 66) = true := by decide +kernel
def tl_X8_isDelay : List (Nat × PT) := [(0, (1, ((0 : Nat) : Int), 0, 1, [])),
  (1, (0, 1, 0, 2, [])),
  (2, (32, 2, ((15 : Nat) : Int), 5, [])),
  (5, (1, ((0 : Nat) : Int), 0, 6, [])),
  (6, (0, 60, 0, 8, [])),
  (8, (32, 4, ((15 : Nat) : Int), 11, [])),
  (11, (0, 1, 0, 12, [])),
  (12, (33, ((16 : Nat) : Int), 0, 0, [])),
  (15, (0, 0, 0, 16, [])),
  (16, (48, 1, 0, 0, []))]
theorem tk_X8_isDelay : tOk mi_X8_isDelay tl_X8_isDelay = true := by decide +kernel
def pm_X8_isDelay (pc : Nat) : Option PT := if [].contains pc then none else tl_X8_isDelay.lookup pc
theorem pk_X8_isDelay : ∀ pc pt, pm_X8_isDelay pc = some pt → okPt mi_X8_isDelay pc pt := fun pc pt h => tOk_pm tk_X8_isDelay h
section
variable {E : ET} {g : GT} {d : Nat} {lm : Nat × Nat} {RT : RTy} {F : FT} {n : Nat} {L : LV} {st : List AV} {h : AH}
theorem r_X8_isDelay_0 : run E g mi_X8_isDelay d lm RT F pm_X8_isDelay (n + 1) 0 L st h = exI E d lm RT F (run E g mi_X8_isDelay d lm RT F pm_X8_isDelay n) (1, ((0 : Nat) : Int), 0, 1, []) L st h := run_s rfl
theorem r_X8_isDelay_1 : run E g mi_X8_isDelay d lm RT F pm_X8_isDelay (n + 1) 1 L st h = exI E d lm RT F (run E g mi_X8_isDelay d lm RT F pm_X8_isDelay n) (0, 1, 0, 2, []) L st h := run_s rfl
theorem r_X8_isDelay_2 : run E g mi_X8_isDelay d lm RT F pm_X8_isDelay (n + 1) 2 L st h = exI E d lm RT F (run E g mi_X8_isDelay d lm RT F pm_X8_isDelay n) (32, 2, ((15 : Nat) : Int), 5, []) L st h := run_s rfl
theorem r_X8_isDelay_5 : run E g mi_X8_isDelay d lm RT F pm_X8_isDelay (n + 1) 5 L st h = exI E d lm RT F (run E g mi_X8_isDelay d lm RT F pm_X8_isDelay n) (1, ((0 : Nat) : Int), 0, 6, []) L st h := run_s rfl
theorem r_X8_isDelay_6 : run E g mi_X8_isDelay d lm RT F pm_X8_isDelay (n + 1) 6 L st h = exI E d lm RT F (run E g mi_X8_isDelay d lm RT F pm_X8_isDelay n) (0, 60, 0, 8, []) L st h := run_s rfl
theorem r_X8_isDelay_8 : run E g mi_X8_isDelay d lm RT F pm_X8_isDelay (n + 1) 8 L st h = exI E d lm RT F (run E g mi_X8_isDelay d lm RT F pm_X8_isDelay n) (32, 4, ((15 : Nat) : Int), 11, []) L st h := run_s rfl
theorem r_X8_isDelay_11 : run E g mi_X8_isDelay d lm RT F pm_X8_isDelay (n + 1) 11 L st h = exI E d lm RT F (run E g mi_X8_isDelay d lm RT F pm_X8_isDelay n) (0, 1, 0, 12, []) L st h := run_s rfl
theorem r_X8_isDelay_12 : run E g mi_X8_isDelay d lm RT F pm_X8_isDelay (n + 1) 12 L st h = exI E d lm RT F (run E g mi_X8_isDelay d lm RT F pm_X8_isDelay n) (33, ((16 : Nat) : Int), 0, 0, []) L st h := run_s rfl
theorem r_X8_isDelay_15 : run E g mi_X8_isDelay d lm RT F pm_X8_isDelay (n + 1) 15 L st h = exI E d lm RT F (run E g mi_X8_isDelay d lm RT F pm_X8_isDelay n) (0, 0, 0, 16, []) L st h := run_s rfl
theorem r_X8_isDelay_16 : run E g mi_X8_isDelay d lm RT F pm_X8_isDelay (n + 1) 16 L st h = exI E d lm RT F (run E g mi_X8_isDelay d lm RT F pm_X8_isDelay n) (48, 1, 0, 0, []) L st h := run_s rfl
theorem e_X8_isDelay (n : Nat) {pc : Nat} (hF : FOk E d F) (hx : run E g mi_X8_isDelay d lm RT F pm_X8_isDelay n pc L st h) : G E g mi_X8_isDelay d lm RT pc L st h := run_sound hF pk_X8_isDelay n pc L st h hx
end
def mi_X8_isOfWhole : MI := (8, cX8_isOfWhole, 1, 1, false)
theorem mo_X8_isOfWhole : miOk mi_X8_isOfWhole (mt 67) = true := by decide +kernel
def tl_X8_isOfWhole : List (Nat × PT) := [(0, (1, ((0 : Nat) : Int), 0, 1, [])),
  (1, (31, 2, ((15 : Nat) : Int), 4, [])),
  (4, (1, ((0 : Nat) : Int), 0, 5, [])),
  (5, (0, 1000, 0, 8, [])),
  (8, (32, 4, ((15 : Nat) : Int), 11, [])),
  (11, (0, 1, 0, 12, [])),
  (12, (33, ((16 : Nat) : Int), 0, 0, [])),
  (15, (0, 0, 0, 16, [])),
  (16, (48, 1, 0, 0, []))]
theorem tk_X8_isOfWhole : tOk mi_X8_isOfWhole tl_X8_isOfWhole = true := by decide +kernel
def pm_X8_isOfWhole (pc : Nat) : Option PT := if [].contains pc then none else tl_X8_isOfWhole.lookup pc
theorem pk_X8_isOfWhole : ∀ pc pt, pm_X8_isOfWhole pc = some pt → okPt mi_X8_isOfWhole pc pt := fun pc pt h => tOk_pm tk_X8_isOfWhole h
section
variable {E : ET} {g : GT} {d : Nat} {lm : Nat × Nat} {RT : RTy} {F : FT} {n : Nat} {L : LV} {st : List AV} {h : AH}
theorem r_X8_isOfWhole_0 : run E g mi_X8_isOfWhole d lm RT F pm_X8_isOfWhole (n + 1) 0 L st h = exI E d lm RT F (run E g mi_X8_isOfWhole d lm RT F pm_X8_isOfWhole n) (1, ((0 : Nat) : Int), 0, 1, []) L st h := run_s rfl
theorem r_X8_isOfWhole_1 : run E g mi_X8_isOfWhole d lm RT F pm_X8_isOfWhole (n + 1) 1 L st h = exI E d lm RT F (run E g mi_X8_isOfWhole d lm RT F pm_X8_isOfWhole n) (31, 2, ((15 : Nat) : Int), 4, []) L st h := run_s rfl
theorem r_X8_isOfWhole_4 : run E g mi_X8_isOfWhole d lm RT F pm_X8_isOfWhole (n + 1) 4 L st h = exI E d lm RT F (run E g mi_X8_isOfWhole d lm RT F pm_X8_isOfWhole n) (1, ((0 : Nat) : Int), 0, 5, []) L st h := run_s rfl
theorem r_X8_isOfWhole_5 : run E g mi_X8_isOfWhole d lm RT F pm_X8_isOfWhole (n + 1) 5 L st h = exI E d lm RT F (run E g mi_X8_isOfWhole d lm RT F pm_X8_isOfWhole n) (0, 1000, 0, 8, []) L st h := run_s rfl
theorem r_X8_isOfWhole_8 : run E g mi_X8_isOfWhole d lm RT F pm_X8_isOfWhole (n + 1) 8 L st h = exI E d lm RT F (run E g mi_X8_isOfWhole d lm RT F pm_X8_isOfWhole n) (32, 4, ((15 : Nat) : Int), 11, []) L st h := run_s rfl
theorem r_X8_isOfWhole_11 : run E g mi_X8_isOfWhole d lm RT F pm_X8_isOfWhole (n + 1) 11 L st h = exI E d lm RT F (run E g mi_X8_isOfWhole d lm RT F pm_X8_isOfWhole n) (0, 1, 0, 12, []) L st h := run_s rfl
theorem r_X8_isOfWhole_12 : run E g mi_X8_isOfWhole d lm RT F pm_X8_isOfWhole (n + 1) 12 L st h = exI E d lm RT F (run E g mi_X8_isOfWhole d lm RT F pm_X8_isOfWhole n) (33, ((16 : Nat) : Int), 0, 0, []) L st h := run_s rfl
theorem r_X8_isOfWhole_15 : run E g mi_X8_isOfWhole d lm RT F pm_X8_isOfWhole (n + 1) 15 L st h = exI E d lm RT F (run E g mi_X8_isOfWhole d lm RT F pm_X8_isOfWhole n) (0, 0, 0, 16, []) L st h := run_s rfl
theorem r_X8_isOfWhole_16 : run E g mi_X8_isOfWhole d lm RT F pm_X8_isOfWhole (n + 1) 16 L st h = exI E d lm RT F (run E g mi_X8_isOfWhole d lm RT F pm_X8_isOfWhole n) (48, 1, 0, 0, []) L st h := run_s rfl
theorem e_X8_isOfWhole (n : Nat) {pc : Nat} (hF : FOk E d F) (hx : run E g mi_X8_isOfWhole d lm RT F pm_X8_isOfWhole n pc L st h) : G E g mi_X8_isOfWhole d lm RT pc L st h := run_sound hF pk_X8_isOfWhole n pc L st h hx
end
def mi_X8_isIn : MI := (8, cX8_isIn, 2, 1, false)
theorem mo_X8_isIn : miOk mi_X8_isIn (mt 69) = true := by decide +kernel
def tl_X8_isIn : List (Nat × PT) := [(0, (1, ((0 : Nat) : Int), 0, 1, [])),
  (1, (1, ((1 : Nat) : Int), 0, 2, [])),
  (2, (17, 0, 0, 3, [])),
  (3, (0, 1, 0, 4, [])),
  (4, (13, 0, 0, 5, [])),
  (5, (31, 0, ((12 : Nat) : Int), 8, [])),
  (8, (0, 1, 0, 9, [])),
  (9, (33, ((13 : Nat) : Int), 0, 0, [])),
  (12, (0, 0, 0, 13, [])),
  (13, (48, 1, 0, 0, []))]
theorem tk_X8_isIn : tOk mi_X8_isIn tl_X8_isIn = true := by decide +kernel
def pm_X8_isIn (pc : Nat) : Option PT := if [].contains pc then none else tl_X8_isIn.lookup pc
theorem pk_X8_isIn : ∀ pc pt, pm_X8_isIn pc = some pt → okPt mi_X8_isIn pc pt := fun pc pt h => tOk_pm tk_X8_isIn h
section
variable {E : ET} {g : GT} {d : Nat} {lm : Nat × Nat} {RT : RTy} {F : FT} {n : Nat} {L : LV} {st : List AV} {h : AH}
theorem r_X8_isIn_0 : run E g mi_X8_isIn d lm RT F pm_X8_isIn (n + 1) 0 L st h = exI E d lm RT F (run E g mi_X8_isIn d lm RT F pm_X8_isIn n) (1, ((0 : Nat) : Int), 0, 1, []) L st h := run_s rfl
theorem r_X8_isIn_1 : run E g mi_X8_isIn d lm RT F pm_X8_isIn (n + 1) 1 L st h = exI E d lm RT F (run E g mi_X8_isIn d lm RT F pm_X8_isIn n) (1, ((1 : Nat) : Int), 0, 2, []) L st h := run_s rfl
theorem r_X8_isIn_2 : run E g mi_X8_isIn d lm RT F pm_X8_isIn (n + 1) 2 L st h = exI E d lm RT F (run E g mi_X8_isIn d lm RT F pm_X8_isIn n) (17, 0, 0, 3, []) L st h := run_s rfl
theorem r_X8_isIn_3 : run E g mi_X8_isIn d lm RT F pm_X8_isIn (n + 1) 3 L st h = exI E d lm RT F (run E g mi_X8_isIn d lm RT F pm_X8_isIn n) (0, 1, 0, 4, []) L st h := run_s rfl
theorem r_X8_isIn_4 : run E g mi_X8_isIn d lm RT F pm_X8_isIn (n + 1) 4 L st h = exI E d lm RT F (run E g mi_X8_isIn d lm RT F pm_X8_isIn n) (13, 0, 0, 5, []) L st h := run_s rfl
theorem r_X8_isIn_5 : run E g mi_X8_isIn d lm RT F pm_X8_isIn (n + 1) 5 L st h = exI E d lm RT F (run E g mi_X8_isIn d lm RT F pm_X8_isIn n) (31, 0, ((12 : Nat) : Int), 8, []) L st h := run_s rfl
theorem r_X8_isIn_8 : run E g mi_X8_isIn d lm RT F pm_X8_isIn (n + 1) 8 L st h = exI E d lm RT F (run E g mi_X8_isIn d lm RT F pm_X8_isIn n) (0, 1, 0, 9, []) L st h := run_s rfl
theorem r_X8_isIn_9 : run E g mi_X8_isIn d lm RT F pm_X8_isIn (n + 1) 9 L st h = exI E d lm RT F (run E g mi_X8_isIn d lm RT F pm_X8_isIn n) (33, ((13 : Nat) : Int), 0, 0, []) L st h := run_s rfl
theorem r_X8_isIn_12 : run E g mi_X8_isIn d lm RT F pm_X8_isIn (n + 1) 12 L st h = exI E d lm RT F (run E g mi_X8_isIn d lm RT F pm_X8_isIn n) (0, 0, 0, 13, []) L st h := run_s rfl
theorem r_X8_isIn_13 : run E g mi_X8_isIn d lm RT F pm_X8_isIn (n + 1) 13 L st h = exI E d lm RT F (run E g mi_X8_isIn d lm RT F pm_X8_isIn n) (48, 1, 0, 0, []) L st h := run_s rfl
theorem e_X8_isIn (n : Nat) {pc : Nat} (hF : FOk E d F) (hx : run E g mi_X8_isIn d lm RT F pm_X8_isIn n pc L st h) : G E g mi_X8_isIn d lm RT pc L st h := run_sound hF pk_X8_isIn n pc L st h hx
end
def mi_X8_rowOf : MI := (8, cX8_rowOf, 3, 3, false)
theorem mo_X8_rowOf : miOk mi_X8_rowOf (mt 70) = true := by decide +kernel
def tl_X8_rowOf : List (Nat × PT) := [(0, (2, ((0 : Nat) : Int), 0, 1, [])),
  (1, (35, ((8 : Nat) : Int), ((1 : Nat) : Int), 4, [])),
  (4, (1, ((1 : Nat) : Int), 0, 5, [])),
  (5, (0, 8, 0, 7, [])),
  (7, (10, 0, 0, 8, [])),
  (8, (1, ((2 : Nat) : Int), 0, 9, [])),
  (9, (8, 0, 0, 10, [])),
  (10, (49, 0, 0, 11, [])),
  (11, (48, 3, 0, 0, []))]
theorem tk_X8_rowOf : tOk mi_X8_rowOf tl_X8_rowOf = true := by decide +kernel
def pm_X8_rowOf (pc : Nat) : Option PT := if [].contains pc then none else tl_X8_rowOf.lookup pc
theorem pk_X8_rowOf : ∀ pc pt, pm_X8_rowOf pc = some pt → okPt mi_X8_rowOf pc pt := fun pc pt h => tOk_pm tk_X8_rowOf h
section
variable {E : ET} {g : GT} {d : Nat} {lm : Nat × Nat} {RT : RTy} {F : FT} {n : Nat} {L : LV} {st : List AV} {h : AH}
theorem r_X8_rowOf_0 : run E g mi_X8_rowOf d lm RT F pm_X8_rowOf (n + 1) 0 L st h = exI E d lm RT F (run E g mi_X8_rowOf d lm RT F pm_X8_rowOf n) (2, ((0 : Nat) : Int), 0, 1, []) L st h := run_s rfl
theorem r_X8_rowOf_1 : run E g mi_X8_rowOf d lm RT F pm_X8_rowOf (n + 1) 1 L st h = exI E d lm RT F (run E g mi_X8_rowOf d lm RT F pm_X8_rowOf n) (35, ((8 : Nat) : Int), ((1 : Nat) : Int), 4, []) L st h := run_s rfl
theorem r_X8_rowOf_4 : run E g mi_X8_rowOf d lm RT F pm_X8_rowOf (n + 1) 4 L st h = exI E d lm RT F (run E g mi_X8_rowOf d lm RT F pm_X8_rowOf n) (1, ((1 : Nat) : Int), 0, 5, []) L st h := run_s rfl
theorem r_X8_rowOf_5 : run E g mi_X8_rowOf d lm RT F pm_X8_rowOf (n + 1) 5 L st h = exI E d lm RT F (run E g mi_X8_rowOf d lm RT F pm_X8_rowOf n) (0, 8, 0, 7, []) L st h := run_s rfl
theorem r_X8_rowOf_7 : run E g mi_X8_rowOf d lm RT F pm_X8_rowOf (n + 1) 7 L st h = exI E d lm RT F (run E g mi_X8_rowOf d lm RT F pm_X8_rowOf n) (10, 0, 0, 8, []) L st h := run_s rfl
theorem r_X8_rowOf_8 : run E g mi_X8_rowOf d lm RT F pm_X8_rowOf (n + 1) 8 L st h = exI E d lm RT F (run E g mi_X8_rowOf d lm RT F pm_X8_rowOf n) (1, ((2 : Nat) : Int), 0, 9, []) L st h := run_s rfl
theorem r_X8_rowOf_9 : run E g mi_X8_rowOf d lm RT F pm_X8_rowOf (n + 1) 9 L st h = exI E d lm RT F (run E g mi_X8_rowOf d lm RT F pm_X8_rowOf n) (8, 0, 0, 10, []) L st h := run_s rfl
theorem r_X8_rowOf_10 : run E g mi_X8_rowOf d lm RT F pm_X8_rowOf (n + 1) 10 L st h = exI E d lm RT F (run E g mi_X8_rowOf d lm RT F pm_X8_rowOf n) (49, 0, 0, 11, []) L st h := run_s rfl
theorem r_X8_rowOf_11 : run E g mi_X8_rowOf d lm RT F pm_X8_rowOf (n + 1) 11 L st h = exI E d lm RT F (run E g mi_X8_rowOf d lm RT F pm_X8_rowOf n) (48, 3, 0, 0, []) L st h := run_s rfl
theorem e_X8_rowOf (n : Nat) {pc : Nat} (hF : FOk E d F) (hx : run E g mi_X8_rowOf d lm RT F pm_X8_rowOf n pc L st h) : G E g mi_X8_rowOf d lm RT pc L st h := run_sound hF pk_X8_rowOf n pc L st h hx
end
def mi_X8_isWalker : MI := (8, cX8_isWalker, 2, 1, false)
theorem mo_X8_isWalker : miOk mi_X8_isWalker (mt 68) = true := by decide +kernel
def tl_X8_isWalker : List (Nat × PT) := [(0, (1, ((1 : Nat) : Int), 0, 1, [])),
  (1, (31, 2, ((26 : Nat) : Int), 4, [])),
  (4, (1, ((1 : Nat) : Int), 0, 5, [])),
  (5, (0, 12, 0, 7, [])),
  (7, (32, 3, ((26 : Nat) : Int), 10, [])),
  (10, (2, ((0 : Nat) : Int), 0, 11, [])),
  (11, (35, ((8 : Nat) : Int), ((3 : Nat) : Int), 14, [])),
  (14, (1, ((1 : Nat) : Int), 0, 15, [])),
  (15, (49, 0, 0, 16, [])),
  (16, (35, ((7 : Nat) : Int), ((3 : Nat) : Int), 19, [])),
  (19, (31, 0, ((26 : Nat) : Int), 22, [])),
  (22, (0, 1, 0, 23, [])),
  (23, (33, ((27 : Nat) : Int), 0, 0, [])),
  (26, (0, 0, 0, 27, [])),
  (27, (48, 1, 0, 0, []))]
theorem tk_X8_isWalker : tOk mi_X8_isWalker tl_X8_isWalker = true := by decide +kernel
def pm_X8_isWalker (pc : Nat) : Option PT := if [].contains pc then none else tl_X8_isWalker.lookup pc
theorem pk_X8_isWalker : ∀ pc pt, pm_X8_isWalker pc = some pt → okPt mi_X8_isWalker pc pt := fun pc pt h => tOk_pm tk_X8_isWalker h
section
variable {E : ET} {g : GT} {d : Nat} {lm : Nat × Nat} {RT : RTy} {F : FT} {n : Nat} {L : LV} {st : List AV} {h : AH}
theorem r_X8_isWalker_0 : run E g mi_X8_isWalker d lm RT F pm_X8_isWalker (n + 1) 0 L st h = exI E d lm RT F (run E g mi_X8_isWalker d lm RT F pm_X8_isWalker n) (1, ((1 : Nat) : Int), 0, 1, []) L st h := run_s rfl
theorem r_X8_isWalker_1 : run E g mi_X8_isWalker d lm RT F pm_X8_isWalker (n + 1) 1 L st h = exI E d lm RT F (run E g mi_X8_isWalker d lm RT F pm_X8_isWalker n) (31, 2, ((26 : Nat) : Int), 4, []) L st h := run_s rfl
theorem r_X8_isWalker_4 : run E g mi_X8_isWalker d lm RT F pm_X8_isWalker (n + 1) 4 L st h = exI E d lm RT F (run E g mi_X8_isWalker d lm RT F pm_X8_isWalker n) (1, ((1 : Nat) : Int), 0, 5, []) L st h := run_s rfl
theorem r_X8_isWalker_5 : run E g mi_X8_isWalker d lm RT F pm_X8_isWalker (n + 1) 5 L st h = exI E d lm RT F (run E g mi_X8_isWalker d lm RT F pm_X8_isWalker n) (0, 12, 0, 7, []) L st h := run_s rfl
theorem r_X8_isWalker_7 : run E g mi_X8_isWalker d lm RT F pm_X8_isWalker (n + 1) 7 L st h = exI E d lm RT F (run E g mi_X8_isWalker d lm RT F pm_X8_isWalker n) (32, 3, ((26 : Nat) : Int), 10, []) L st h := run_s rfl
theorem r_X8_isWalker_10 : run E g mi_X8_isWalker d lm RT F pm_X8_isWalker (n + 1) 10 L st h = exI E d lm RT F (run E g mi_X8_isWalker d lm RT F pm_X8_isWalker n) (2, ((0 : Nat) : Int), 0, 11, []) L st h := run_s rfl
theorem r_X8_isWalker_11 : run E g mi_X8_isWalker d lm RT F pm_X8_isWalker (n + 1) 11 L st h = exI E d lm RT F (run E g mi_X8_isWalker d lm RT F pm_X8_isWalker n) (35, ((8 : Nat) : Int), ((3 : Nat) : Int), 14, []) L st h := run_s rfl
theorem r_X8_isWalker_14 : run E g mi_X8_isWalker d lm RT F pm_X8_isWalker (n + 1) 14 L st h = exI E d lm RT F (run E g mi_X8_isWalker d lm RT F pm_X8_isWalker n) (1, ((1 : Nat) : Int), 0, 15, []) L st h := run_s rfl
theorem r_X8_isWalker_15 : run E g mi_X8_isWalker d lm RT F pm_X8_isWalker (n + 1) 15 L st h = exI E d lm RT F (run E g mi_X8_isWalker d lm RT F pm_X8_isWalker n) (49, 0, 0, 16, []) L st h := run_s rfl
theorem r_X8_isWalker_16 : run E g mi_X8_isWalker d lm RT F pm_X8_isWalker (n + 1) 16 L st h = exI E d lm RT F (run E g mi_X8_isWalker d lm RT F pm_X8_isWalker n) (35, ((7 : Nat) : Int), ((3 : Nat) : Int), 19, []) L st h := run_s rfl
theorem r_X8_isWalker_19 : run E g mi_X8_isWalker d lm RT F pm_X8_isWalker (n + 1) 19 L st h = exI E d lm RT F (run E g mi_X8_isWalker d lm RT F pm_X8_isWalker n) (31, 0, ((26 : Nat) : Int), 22, []) L st h := run_s rfl
theorem r_X8_isWalker_22 : run E g mi_X8_isWalker d lm RT F pm_X8_isWalker (n + 1) 22 L st h = exI E d lm RT F (run E g mi_X8_isWalker d lm RT F pm_X8_isWalker n) (0, 1, 0, 23, []) L st h := run_s rfl
theorem r_X8_isWalker_23 : run E g mi_X8_isWalker d lm RT F pm_X8_isWalker (n + 1) 23 L st h = exI E d lm RT F (run E g mi_X8_isWalker d lm RT F pm_X8_isWalker n) (33, ((27 : Nat) : Int), 0, 0, []) L st h := run_s rfl
theorem r_X8_isWalker_26 : run E g mi_X8_isWalker d lm RT F pm_X8_isWalker (n + 1) 26 L st h = exI E d lm RT F (run E g mi_X8_isWalker d lm RT F pm_X8_isWalker n) (0, 0, 0, 27, []) L st h := run_s rfl
theorem r_X8_isWalker_27 : run E g mi_X8_isWalker d lm RT F pm_X8_isWalker (n + 1) 27 L st h = exI E d lm RT F (run E g mi_X8_isWalker d lm RT F pm_X8_isWalker n) (48, 1, 0, 0, []) L st h := run_s rfl
theorem e_X8_isWalker (n : Nat) {pc : Nat} (hF : FOk E d F) (hx : run E g mi_X8_isWalker d lm RT F pm_X8_isWalker n pc L st h) : G E g mi_X8_isWalker d lm RT pc L st h := run_sound hF pk_X8_isWalker n pc L st h hx
end
def mi_X3_has : MI := (3, cX3_has, 2, 1, false)
theorem mo_X3_has : miOk mi_X3_has (mt 7) = true := by decide +kernel
def tl_X3_has : List (Nat × PT) := [(0, (1, ((1 : Nat) : Int), 0, 1, [])),
  (1, (31, 2, ((23 : Nat) : Int), 4, [])),
  (4, (1, ((1 : Nat) : Int), 0, 5, [])),
  (5, (0, 16, 0, 7, [])),
  (7, (32, 3, ((23 : Nat) : Int), 10, [])),
  (10, (2, ((0 : Nat) : Int), 0, 11, [])),
  (11, (35, ((3 : Nat) : Int), ((2 : Nat) : Int), 14, [])),
  (14, (1, ((1 : Nat) : Int), 0, 15, [])),
  (15, (38, 0, 0, 16, [])),
  (16, (31, 5, ((23 : Nat) : Int), 19, [])),
  (19, (0, 1, 0, 20, [])),
  (20, (33, ((24 : Nat) : Int), 0, 0, [])),
  (23, (0, 0, 0, 24, [])),
  (24, (48, 1, 0, 0, []))]
theorem tk_X3_has : tOk mi_X3_has tl_X3_has = true := by decide +kernel
def pm_X3_has (pc : Nat) : Option PT := if [].contains pc then none else tl_X3_has.lookup pc
theorem pk_X3_has : ∀ pc pt, pm_X3_has pc = some pt → okPt mi_X3_has pc pt := fun pc pt h => tOk_pm tk_X3_has h
section
variable {E : ET} {g : GT} {d : Nat} {lm : Nat × Nat} {RT : RTy} {F : FT} {n : Nat} {L : LV} {st : List AV} {h : AH}
theorem r_X3_has_0 : run E g mi_X3_has d lm RT F pm_X3_has (n + 1) 0 L st h = exI E d lm RT F (run E g mi_X3_has d lm RT F pm_X3_has n) (1, ((1 : Nat) : Int), 0, 1, []) L st h := run_s rfl
theorem r_X3_has_1 : run E g mi_X3_has d lm RT F pm_X3_has (n + 1) 1 L st h = exI E d lm RT F (run E g mi_X3_has d lm RT F pm_X3_has n) (31, 2, ((23 : Nat) : Int), 4, []) L st h := run_s rfl
theorem r_X3_has_4 : run E g mi_X3_has d lm RT F pm_X3_has (n + 1) 4 L st h = exI E d lm RT F (run E g mi_X3_has d lm RT F pm_X3_has n) (1, ((1 : Nat) : Int), 0, 5, []) L st h := run_s rfl
theorem r_X3_has_5 : run E g mi_X3_has d lm RT F pm_X3_has (n + 1) 5 L st h = exI E d lm RT F (run E g mi_X3_has d lm RT F pm_X3_has n) (0, 16, 0, 7, []) L st h := run_s rfl
theorem r_X3_has_7 : run E g mi_X3_has d lm RT F pm_X3_has (n + 1) 7 L st h = exI E d lm RT F (run E g mi_X3_has d lm RT F pm_X3_has n) (32, 3, ((23 : Nat) : Int), 10, []) L st h := run_s rfl
theorem r_X3_has_10 : run E g mi_X3_has d lm RT F pm_X3_has (n + 1) 10 L st h = exI E d lm RT F (run E g mi_X3_has d lm RT F pm_X3_has n) (2, ((0 : Nat) : Int), 0, 11, []) L st h := run_s rfl
theorem r_X3_has_11 : run E g mi_X3_has d lm RT F pm_X3_has (n + 1) 11 L st h = exI E d lm RT F (run E g mi_X3_has d lm RT F pm_X3_has n) (35, ((3 : Nat) : Int), ((2 : Nat) : Int), 14, []) L st h := run_s rfl
theorem r_X3_has_14 : run E g mi_X3_has d lm RT F pm_X3_has (n + 1) 14 L st h = exI E d lm RT F (run E g mi_X3_has d lm RT F pm_X3_has n) (1, ((1 : Nat) : Int), 0, 15, []) L st h := run_s rfl
theorem r_X3_has_15 : run E g mi_X3_has d lm RT F pm_X3_has (n + 1) 15 L st h = exI E d lm RT F (run E g mi_X3_has d lm RT F pm_X3_has n) (38, 0, 0, 16, []) L st h := run_s rfl
theorem r_X3_has_16 : run E g mi_X3_has d lm RT F pm_X3_has (n + 1) 16 L st h = exI E d lm RT F (run E g mi_X3_has d lm RT F pm_X3_has n) (31, 5, ((23 : Nat) : Int), 19, []) L st h := run_s rfl
theorem r_X3_has_19 : run E g mi_X3_has d lm RT F pm_X3_has (n + 1) 19 L st h = exI E d lm RT F (run E g mi_X3_has d lm RT F pm_X3_has n) (0, 1, 0, 20, []) L st h := run_s rfl
theorem r_X3_has_20 : run E g mi_X3_has d lm RT F pm_X3_has (n + 1) 20 L st h = exI E d lm RT F (run E g mi_X3_has d lm RT F pm_X3_has n) (33, ((24 : Nat) : Int), 0, 0, []) L st h := run_s rfl
theorem r_X3_has_23 : run E g mi_X3_has d lm RT F pm_X3_has (n + 1) 23 L st h = exI E d lm RT F (run E g mi_X3_has d lm RT F pm_X3_has n) (0, 0, 0, 24, []) L st h := run_s rfl
theorem r_X3_has_24 : run E g mi_X3_has d lm RT F pm_X3_has (n + 1) 24 L st h = exI E d lm RT F (run E g mi_X3_has d lm RT F pm_X3_has n) (48, 1, 0, 0, []) L st h := run_s rfl
theorem e_X3_has (n : Nat) {pc : Nat} (hF : FOk E d F) (hx : run E g mi_X3_has d lm RT F pm_X3_has n pc L st h) : G E g mi_X3_has d lm RT pc L st h := run_sound hF pk_X3_has n pc L st h hx
end
