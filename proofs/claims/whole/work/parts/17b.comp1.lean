def mi_X5_bestNote : MI := (5, cX5_bestNote, 3, 0, false)
theorem mo_X5_bestNote : miOk mi_X5_bestNote (mt 28) = true := by decide +kernel
def tl_X5_bestNote : List (Nat × PT) := [(0, (0, (-9), 0, 2, [])),
  (2, (4, ((1 : Nat) : Int), 0, 3, [])),
  (3, (0, 0, 0, 4, [])),
  (4, (4, ((2 : Nat) : Int), 0, 5, [])),
  (5, (1, ((2 : Nat) : Int), 0, 6, [])),
  (6, (2, ((0 : Nat) : Int), 0, 7, [])),
  (7, (35, ((5 : Nat) : Int), ((3 : Nat) : Int), 10, [])),
  (10, (32, 3, ((42 : Nat) : Int), 13, [])),
  (13, (1, ((1 : Nat) : Int), 0, 14, [])),
  (14, (0, (-9), 0, 16, [])),
  (16, (32, 0, ((29 : Nat) : Int), 19, [])),
  (19, (2, ((0 : Nat) : Int), 0, 20, [])),
  (20, (35, ((5 : Nat) : Int), ((1 : Nat) : Int), 23, [])),
  (23, (1, ((2 : Nat) : Int), 0, 24, [])),
  (24, (38, 0, 0, 25, [])),
  (25, (1, ((1 : Nat) : Int), 0, 26, [])),
  (26, (32, 3, ((36 : Nat) : Int), 29, [])),
  (29, (2, ((0 : Nat) : Int), 0, 30, [])),
  (30, (35, ((5 : Nat) : Int), ((1 : Nat) : Int), 33, [])),
  (33, (1, ((2 : Nat) : Int), 0, 34, [])),
  (34, (38, 0, 0, 35, [])),
  (35, (4, ((1 : Nat) : Int), 0, 36, [])),
  (36, (7, ((2 : Nat) : Int), 1, 39, [])),
  (39, (33, ((5 : Nat) : Int), 0, 0, [])),
  (42, (1, ((1 : Nat) : Int), 0, 43, [])),
  (43, (48, 0, 0, 0, []))]
theorem tk_X5_bestNote : tOk mi_X5_bestNote tl_X5_bestNote = true := by decide +kernel
def pm_X5_bestNote (pc : Nat) : Option PT := if [5].contains pc then none else tl_X5_bestNote.lookup pc
theorem pk_X5_bestNote : ∀ pc pt, pm_X5_bestNote pc = some pt → okPt mi_X5_bestNote pc pt := fun pc pt h => tOk_pm tk_X5_bestNote h
section
variable {E : ET} {g : GT} {d : Nat} {lm : Nat × Nat} {RT : RTy} {F : FT} {n : Nat} {L : LV} {st : List AV} {h : AH}
theorem r_X5_bestNote_0 : run E g mi_X5_bestNote d lm RT F pm_X5_bestNote (n + 1) 0 L st h = exI E d lm RT F (run E g mi_X5_bestNote d lm RT F pm_X5_bestNote n) (0, (-9), 0, 2, []) L st h := run_s rfl
theorem r_X5_bestNote_2 : run E g mi_X5_bestNote d lm RT F pm_X5_bestNote (n + 1) 2 L st h = exI E d lm RT F (run E g mi_X5_bestNote d lm RT F pm_X5_bestNote n) (4, ((1 : Nat) : Int), 0, 3, []) L st h := run_s rfl
theorem r_X5_bestNote_3 : run E g mi_X5_bestNote d lm RT F pm_X5_bestNote (n + 1) 3 L st h = exI E d lm RT F (run E g mi_X5_bestNote d lm RT F pm_X5_bestNote n) (0, 0, 0, 4, []) L st h := run_s rfl
theorem r_X5_bestNote_4 : run E g mi_X5_bestNote d lm RT F pm_X5_bestNote (n + 1) 4 L st h = exI E d lm RT F (run E g mi_X5_bestNote d lm RT F pm_X5_bestNote n) (4, ((2 : Nat) : Int), 0, 5, []) L st h := run_s rfl
theorem r_X5_bestNote_5 : run E g mi_X5_bestNote d lm RT F pm_X5_bestNote (n + 1) 5 L st h = G E g mi_X5_bestNote d lm RT 5 L st h := run_c rfl
theorem q_X5_bestNote_5 (n : Nat) (hF : FOk E d F) (hx : exI E d lm RT F (run E g mi_X5_bestNote d lm RT F pm_X5_bestNote n) (1, ((2 : Nat) : Int), 0, 6, []) L st h) : G E g mi_X5_bestNote d lm RT 5 L st h := sstep hF (tOk_spec tk_X5_bestNote (by decide +kernel)) (run_sound hF pk_X5_bestNote n) hx
theorem r_X5_bestNote_6 : run E g mi_X5_bestNote d lm RT F pm_X5_bestNote (n + 1) 6 L st h = exI E d lm RT F (run E g mi_X5_bestNote d lm RT F pm_X5_bestNote n) (2, ((0 : Nat) : Int), 0, 7, []) L st h := run_s rfl
theorem r_X5_bestNote_7 : run E g mi_X5_bestNote d lm RT F pm_X5_bestNote (n + 1) 7 L st h = exI E d lm RT F (run E g mi_X5_bestNote d lm RT F pm_X5_bestNote n) (35, ((5 : Nat) : Int), ((3 : Nat) : Int), 10, []) L st h := run_s rfl
theorem r_X5_bestNote_10 : run E g mi_X5_bestNote d lm RT F pm_X5_bestNote (n + 1) 10 L st h = exI E d lm RT F (run E g mi_X5_bestNote d lm RT F pm_X5_bestNote n) (32, 3, ((42 : Nat) : Int), 13, []) L st h := run_s rfl
theorem r_X5_bestNote_13 : run E g mi_X5_bestNote d lm RT F pm_X5_bestNote (n + 1) 13 L st h = exI E d lm RT F (run E g mi_X5_bestNote d lm RT F pm_X5_bestNote n) (1, ((1 : Nat) : Int), 0, 14, []) L st h := run_s rfl
theorem r_X5_bestNote_14 : run E g mi_X5_bestNote d lm RT F pm_X5_bestNote (n + 1) 14 L st h = exI E d lm RT F (run E g mi_X5_bestNote d lm RT F pm_X5_bestNote n) (0, (-9), 0, 16, []) L st h := run_s rfl
theorem r_X5_bestNote_16 : run E g mi_X5_bestNote d lm RT F pm_X5_bestNote (n + 1) 16 L st h = exI E d lm RT F (run E g mi_X5_bestNote d lm RT F pm_X5_bestNote n) (32, 0, ((29 : Nat) : Int), 19, []) L st h := run_s rfl
theorem r_X5_bestNote_19 : run E g mi_X5_bestNote d lm RT F pm_X5_bestNote (n + 1) 19 L st h = exI E d lm RT F (run E g mi_X5_bestNote d lm RT F pm_X5_bestNote n) (2, ((0 : Nat) : Int), 0, 20, []) L st h := run_s rfl
theorem r_X5_bestNote_20 : run E g mi_X5_bestNote d lm RT F pm_X5_bestNote (n + 1) 20 L st h = exI E d lm RT F (run E g mi_X5_bestNote d lm RT F pm_X5_bestNote n) (35, ((5 : Nat) : Int), ((1 : Nat) : Int), 23, []) L st h := run_s rfl
theorem r_X5_bestNote_23 : run E g mi_X5_bestNote d lm RT F pm_X5_bestNote (n + 1) 23 L st h = exI E d lm RT F (run E g mi_X5_bestNote d lm RT F pm_X5_bestNote n) (1, ((2 : Nat) : Int), 0, 24, []) L st h := run_s rfl
theorem r_X5_bestNote_24 : run E g mi_X5_bestNote d lm RT F pm_X5_bestNote (n + 1) 24 L st h = exI E d lm RT F (run E g mi_X5_bestNote d lm RT F pm_X5_bestNote n) (38, 0, 0, 25, []) L st h := run_s rfl
theorem r_X5_bestNote_25 : run E g mi_X5_bestNote d lm RT F pm_X5_bestNote (n + 1) 25 L st h = exI E d lm RT F (run E g mi_X5_bestNote d lm RT F pm_X5_bestNote n) (1, ((1 : Nat) : Int), 0, 26, []) L st h := run_s rfl
theorem r_X5_bestNote_26 : run E g mi_X5_bestNote d lm RT F pm_X5_bestNote (n + 1) 26 L st h = exI E d lm RT F (run E g mi_X5_bestNote d lm RT F pm_X5_bestNote n) (32, 3, ((36 : Nat) : Int), 29, []) L st h := run_s rfl
theorem r_X5_bestNote_29 : run E g mi_X5_bestNote d lm RT F pm_X5_bestNote (n + 1) 29 L st h = exI E d lm RT F (run E g mi_X5_bestNote d lm RT F pm_X5_bestNote n) (2, ((0 : Nat) : Int), 0, 30, []) L st h := run_s rfl
theorem r_X5_bestNote_30 : run E g mi_X5_bestNote d lm RT F pm_X5_bestNote (n + 1) 30 L st h = exI E d lm RT F (run E g mi_X5_bestNote d lm RT F pm_X5_bestNote n) (35, ((5 : Nat) : Int), ((1 : Nat) : Int), 33, []) L st h := run_s rfl
theorem r_X5_bestNote_33 : run E g mi_X5_bestNote d lm RT F pm_X5_bestNote (n + 1) 33 L st h = exI E d lm RT F (run E g mi_X5_bestNote d lm RT F pm_X5_bestNote n) (1, ((2 : Nat) : Int), 0, 34, []) L st h := run_s rfl
theorem r_X5_bestNote_34 : run E g mi_X5_bestNote d lm RT F pm_X5_bestNote (n + 1) 34 L st h = exI E d lm RT F (run E g mi_X5_bestNote d lm RT F pm_X5_bestNote n) (38, 0, 0, 35, []) L st h := run_s rfl
theorem r_X5_bestNote_35 : run E g mi_X5_bestNote d lm RT F pm_X5_bestNote (n + 1) 35 L st h = exI E d lm RT F (run E g mi_X5_bestNote d lm RT F pm_X5_bestNote n) (4, ((1 : Nat) : Int), 0, 36, []) L st h := run_s rfl
theorem r_X5_bestNote_36 : run E g mi_X5_bestNote d lm RT F pm_X5_bestNote (n + 1) 36 L st h = exI E d lm RT F (run E g mi_X5_bestNote d lm RT F pm_X5_bestNote n) (7, ((2 : Nat) : Int), 1, 39, []) L st h := run_s rfl
theorem r_X5_bestNote_39 : run E g mi_X5_bestNote d lm RT F pm_X5_bestNote (n + 1) 39 L st h = exI E d lm RT F (run E g mi_X5_bestNote d lm RT F pm_X5_bestNote n) (33, ((5 : Nat) : Int), 0, 0, []) L st h := run_s rfl
theorem r_X5_bestNote_42 : run E g mi_X5_bestNote d lm RT F pm_X5_bestNote (n + 1) 42 L st h = exI E d lm RT F (run E g mi_X5_bestNote d lm RT F pm_X5_bestNote n) (1, ((1 : Nat) : Int), 0, 43, []) L st h := run_s rfl
theorem r_X5_bestNote_43 : run E g mi_X5_bestNote d lm RT F pm_X5_bestNote (n + 1) 43 L st h = exI E d lm RT F (run E g mi_X5_bestNote d lm RT F pm_X5_bestNote n) (48, 0, 0, 0, []) L st h := run_s rfl
theorem e_X5_bestNote (n : Nat) {pc : Nat} (hF : FOk E d F) (hx : run E g mi_X5_bestNote d lm RT F pm_X5_bestNote n pc L st h) : G E g mi_X5_bestNote d lm RT pc L st h := run_sound hF pk_X5_bestNote n pc L st h hx
end
def mi_X5_lastNote : MI := (5, cX5_lastNote, 1, 0, false)
theorem mo_X5_lastNote : miOk mi_X5_lastNote (mt 29) = true := by decide +kernel
def tl_X5_lastNote : List (Nat × PT) := [(0, (2, ((0 : Nat) : Int), 0, 1, [])),
  (1, (35, ((5 : Nat) : Int), ((3 : Nat) : Int), 4, [])),
  (4, (31, 1, ((12 : Nat) : Int), 7, [])),
  (7, (0, (-9), 0, 9, [])),
  (9, (33, ((29 : Nat) : Int), 0, 0, [])),
  (12, (2, ((0 : Nat) : Int), 0, 13, [])),
  (13, (35, ((5 : Nat) : Int), ((1 : Nat) : Int), 16, [])),
  (16, (2, ((0 : Nat) : Int), 0, 17, [])),
  (17, (35, ((5 : Nat) : Int), ((4 : Nat) : Int), 20, [])),
  (20, (0, 8, 0, 22, [])),
  (22, (8, 0, 0, 23, [])),
  (23, (0, 1, 0, 24, [])),
  (24, (9, 0, 0, 25, [])),
  (25, (0, 8, 0, 27, [])),
  (27, (12, 0, 0, 28, [])),
  (28, (38, 0, 0, 29, [])),
  (29, (48, 0, 0, 0, []))]
theorem tk_X5_lastNote : tOk mi_X5_lastNote tl_X5_lastNote = true := by decide +kernel
def pm_X5_lastNote (pc : Nat) : Option PT := if [].contains pc then none else tl_X5_lastNote.lookup pc
theorem pk_X5_lastNote : ∀ pc pt, pm_X5_lastNote pc = some pt → okPt mi_X5_lastNote pc pt := fun pc pt h => tOk_pm tk_X5_lastNote h
section
variable {E : ET} {g : GT} {d : Nat} {lm : Nat × Nat} {RT : RTy} {F : FT} {n : Nat} {L : LV} {st : List AV} {h : AH}
theorem r_X5_lastNote_0 : run E g mi_X5_lastNote d lm RT F pm_X5_lastNote (n + 1) 0 L st h = exI E d lm RT F (run E g mi_X5_lastNote d lm RT F pm_X5_lastNote n) (2, ((0 : Nat) : Int), 0, 1, []) L st h := run_s rfl
theorem r_X5_lastNote_1 : run E g mi_X5_lastNote d lm RT F pm_X5_lastNote (n + 1) 1 L st h = exI E d lm RT F (run E g mi_X5_lastNote d lm RT F pm_X5_lastNote n) (35, ((5 : Nat) : Int), ((3 : Nat) : Int), 4, []) L st h := run_s rfl
theorem r_X5_lastNote_4 : run E g mi_X5_lastNote d lm RT F pm_X5_lastNote (n + 1) 4 L st h = exI E d lm RT F (run E g mi_X5_lastNote d lm RT F pm_X5_lastNote n) (31, 1, ((12 : Nat) : Int), 7, []) L st h := run_s rfl
theorem r_X5_lastNote_7 : run E g mi_X5_lastNote d lm RT F pm_X5_lastNote (n + 1) 7 L st h = exI E d lm RT F (run E g mi_X5_lastNote d lm RT F pm_X5_lastNote n) (0, (-9), 0, 9, []) L st h := run_s rfl
theorem r_X5_lastNote_9 : run E g mi_X5_lastNote d lm RT F pm_X5_lastNote (n + 1) 9 L st h = exI E d lm RT F (run E g mi_X5_lastNote d lm RT F pm_X5_lastNote n) (33, ((29 : Nat) : Int), 0, 0, []) L st h := run_s rfl
theorem r_X5_lastNote_12 : run E g mi_X5_lastNote d lm RT F pm_X5_lastNote (n + 1) 12 L st h = exI E d lm RT F (run E g mi_X5_lastNote d lm RT F pm_X5_lastNote n) (2, ((0 : Nat) : Int), 0, 13, []) L st h := run_s rfl
theorem r_X5_lastNote_13 : run E g mi_X5_lastNote d lm RT F pm_X5_lastNote (n + 1) 13 L st h = exI E d lm RT F (run E g mi_X5_lastNote d lm RT F pm_X5_lastNote n) (35, ((5 : Nat) : Int), ((1 : Nat) : Int), 16, []) L st h := run_s rfl
theorem r_X5_lastNote_16 : run E g mi_X5_lastNote d lm RT F pm_X5_lastNote (n + 1) 16 L st h = exI E d lm RT F (run E g mi_X5_lastNote d lm RT F pm_X5_lastNote n) (2, ((0 : Nat) : Int), 0, 17, []) L st h := run_s rfl
theorem r_X5_lastNote_17 : run E g mi_X5_lastNote d lm RT F pm_X5_lastNote (n + 1) 17 L st h = exI E d lm RT F (run E g mi_X5_lastNote d lm RT F pm_X5_lastNote n) (35, ((5 : Nat) : Int), ((4 : Nat) : Int), 20, []) L st h := run_s rfl
theorem r_X5_lastNote_20 : run E g mi_X5_lastNote d lm RT F pm_X5_lastNote (n + 1) 20 L st h = exI E d lm RT F (run E g mi_X5_lastNote d lm RT F pm_X5_lastNote n) (0, 8, 0, 22, []) L st h := run_s rfl
theorem r_X5_lastNote_22 : run E g mi_X5_lastNote d lm RT F pm_X5_lastNote (n + 1) 22 L st h = exI E d lm RT F (run E g mi_X5_lastNote d lm RT F pm_X5_lastNote n) (8, 0, 0, 23, []) L st h := run_s rfl
theorem r_X5_lastNote_23 : run E g mi_X5_lastNote d lm RT F pm_X5_lastNote (n + 1) 23 L st h = exI E d lm RT F (run E g mi_X5_lastNote d lm RT F pm_X5_lastNote n) (0, 1, 0, 24, []) L st h := run_s rfl
theorem r_X5_lastNote_24 : run E g mi_X5_lastNote d lm RT F pm_X5_lastNote (n + 1) 24 L st h = exI E d lm RT F (run E g mi_X5_lastNote d lm RT F pm_X5_lastNote n) (9, 0, 0, 25, []) L st h := run_s rfl
theorem r_X5_lastNote_25 : run E g mi_X5_lastNote d lm RT F pm_X5_lastNote (n + 1) 25 L st h = exI E d lm RT F (run E g mi_X5_lastNote d lm RT F pm_X5_lastNote n) (0, 8, 0, 27, []) L st h := run_s rfl
theorem r_X5_lastNote_27 : run E g mi_X5_lastNote d lm RT F pm_X5_lastNote (n + 1) 27 L st h = exI E d lm RT F (run E g mi_X5_lastNote d lm RT F pm_X5_lastNote n) (12, 0, 0, 28, []) L st h := run_s rfl
theorem r_X5_lastNote_28 : run E g mi_X5_lastNote d lm RT F pm_X5_lastNote (n + 1) 28 L st h = exI E d lm RT F (run E g mi_X5_lastNote d lm RT F pm_X5_lastNote n) (38, 0, 0, 29, []) L st h := run_s rfl
theorem r_X5_lastNote_29 : run E g mi_X5_lastNote d lm RT F pm_X5_lastNote (n + 1) 29 L st h = exI E d lm RT F (run E g mi_X5_lastNote d lm RT F pm_X5_lastNote n) (48, 0, 0, 0, []) L st h := run_s rfl
theorem e_X5_lastNote (n : Nat) {pc : Nat} (hF : FOk E d F) (hx : run E g mi_X5_lastNote d lm RT F pm_X5_lastNote n pc L st h) : G E g mi_X5_lastNote d lm RT pc L st h := run_sound hF pk_X5_lastNote n pc L st h hx
end
def mi_X5_sumOfNotes : MI := (5, cX5_sumOfNotes, 3, 0, false)
theorem mo_X5_sumOfNotes : miOk mi_X5_sumOfNotes (mt 30) = true := by decide +kernel
def tl_X5_sumOfNotes : List (Nat × PT) := [(0, (0, 0, 0, 1, [])),
  (1, (4, ((1 : Nat) : Int), 0, 2, [])),
  (2, (0, 0, 0, 3, [])),
  (3, (4, ((2 : Nat) : Int), 0, 4, [])),
  (4, (1, ((2 : Nat) : Int), 0, 5, [])),
  (5, (2, ((0 : Nat) : Int), 0, 6, [])),
  (6, (35, ((5 : Nat) : Int), ((3 : Nat) : Int), 9, [])),
  (9, (32, 3, ((27 : Nat) : Int), 12, [])),
  (12, (1, ((1 : Nat) : Int), 0, 13, [])),
  (13, (2, ((0 : Nat) : Int), 0, 14, [])),
  (14, (35, ((5 : Nat) : Int), ((1 : Nat) : Int), 17, [])),
  (17, (1, ((2 : Nat) : Int), 0, 18, [])),
  (18, (38, 0, 0, 19, [])),
  (19, (8, 0, 0, 20, [])),
  (20, (4, ((1 : Nat) : Int), 0, 21, [])),
  (21, (7, ((2 : Nat) : Int), 1, 24, [])),
  (24, (33, ((4 : Nat) : Int), 0, 0, [])),
  (27, (1, ((1 : Nat) : Int), 0, 28, [])),
  (28, (48, 0, 0, 0, []))]
theorem tk_X5_sumOfNotes : tOk mi_X5_sumOfNotes tl_X5_sumOfNotes = true := by decide +kernel
def pm_X5_sumOfNotes (pc : Nat) : Option PT := if [4].contains pc then none else tl_X5_sumOfNotes.lookup pc
theorem pk_X5_sumOfNotes : ∀ pc pt, pm_X5_sumOfNotes pc = some pt → okPt mi_X5_sumOfNotes pc pt := fun pc pt h => tOk_pm tk_X5_sumOfNotes h
section
variable {E : ET} {g : GT} {d : Nat} {lm : Nat × Nat} {RT : RTy} {F : FT} {n : Nat} {L : LV} {st : List AV} {h : AH}
theorem r_X5_sumOfNotes_0 : run E g mi_X5_sumOfNotes d lm RT F pm_X5_sumOfNotes (n + 1) 0 L st h = exI E d lm RT F (run E g mi_X5_sumOfNotes d lm RT F pm_X5_sumOfNotes n) (0, 0, 0, 1, []) L st h := run_s rfl
theorem r_X5_sumOfNotes_1 : run E g mi_X5_sumOfNotes d lm RT F pm_X5_sumOfNotes (n + 1) 1 L st h = exI E d lm RT F (run E g mi_X5_sumOfNotes d lm RT F pm_X5_sumOfNotes n) (4, ((1 : Nat) : Int), 0, 2, []) L st h := run_s rfl
theorem r_X5_sumOfNotes_2 : run E g mi_X5_sumOfNotes d lm RT F pm_X5_sumOfNotes (n + 1) 2 L st h = exI E d lm RT F (run E g mi_X5_sumOfNotes d lm RT F pm_X5_sumOfNotes n) (0, 0, 0, 3, []) L st h := run_s rfl
theorem r_X5_sumOfNotes_3 : run E g mi_X5_sumOfNotes d lm RT F pm_X5_sumOfNotes (n + 1) 3 L st h = exI E d lm RT F (run E g mi_X5_sumOfNotes d lm RT F pm_X5_sumOfNotes n) (4, ((2 : Nat) : Int), 0, 4, []) L st h := run_s rfl
theorem r_X5_sumOfNotes_4 : run E g mi_X5_sumOfNotes d lm RT F pm_X5_sumOfNotes (n + 1) 4 L st h = G E g mi_X5_sumOfNotes d lm RT 4 L st h := run_c rfl
theorem q_X5_sumOfNotes_4 (n : Nat) (hF : FOk E d F) (hx : exI E d lm RT F (run E g mi_X5_sumOfNotes d lm RT F pm_X5_sumOfNotes n) (1, ((2 : Nat) : Int), 0, 5, []) L st h) : G E g mi_X5_sumOfNotes d lm RT 4 L st h := sstep hF (tOk_spec tk_X5_sumOfNotes (by decide +kernel)) (run_sound hF pk_X5_sumOfNotes n) hx
theorem r_X5_sumOfNotes_5 : run E g mi_X5_sumOfNotes d lm RT F pm_X5_sumOfNotes (n + 1) 5 L st h = exI E d lm RT F (run E g mi_X5_sumOfNotes d lm RT F pm_X5_sumOfNotes n) (2, ((0 : Nat) : Int), 0, 6, []) L st h := run_s rfl
theorem r_X5_sumOfNotes_6 : run E g mi_X5_sumOfNotes d lm RT F pm_X5_sumOfNotes (n + 1) 6 L st h = exI E d lm RT F (run E g mi_X5_sumOfNotes d lm RT F pm_X5_sumOfNotes n) (35, ((5 : Nat) : Int), ((3 : Nat) : Int), 9, []) L st h := run_s rfl
theorem r_X5_sumOfNotes_9 : run E g mi_X5_sumOfNotes d lm RT F pm_X5_sumOfNotes (n + 1) 9 L st h = exI E d lm RT F (run E g mi_X5_sumOfNotes d lm RT F pm_X5_sumOfNotes n) (32, 3, ((27 : Nat) : Int), 12, []) L st h := run_s rfl
theorem r_X5_sumOfNotes_12 : run E g mi_X5_sumOfNotes d lm RT F pm_X5_sumOfNotes (n + 1) 12 L st h = exI E d lm RT F (run E g mi_X5_sumOfNotes d lm RT F pm_X5_sumOfNotes n) (1, ((1 : Nat) : Int), 0, 13, []) L st h := run_s rfl
theorem r_X5_sumOfNotes_13 : run E g mi_X5_sumOfNotes d lm RT F pm_X5_sumOfNotes (n + 1) 13 L st h = exI E d lm RT F (run E g mi_X5_sumOfNotes d lm RT F pm_X5_sumOfNotes n) (2, ((0 : Nat) : Int), 0, 14, []) L st h := run_s rfl
theorem r_X5_sumOfNotes_14 : run E g mi_X5_sumOfNotes d lm RT F pm_X5_sumOfNotes (n + 1) 14 L st h = exI E d lm RT F (run E g mi_X5_sumOfNotes d lm RT F pm_X5_sumOfNotes n) (35, ((5 : Nat) : Int), ((1 : Nat) : Int), 17, []) L st h := run_s rfl
theorem r_X5_sumOfNotes_17 : run E g mi_X5_sumOfNotes d lm RT F pm_X5_sumOfNotes (n + 1) 17 L st h = exI E d lm RT F (run E g mi_X5_sumOfNotes d lm RT F pm_X5_sumOfNotes n) (1, ((2 : Nat) : Int), 0, 18, []) L st h := run_s rfl
theorem r_X5_sumOfNotes_18 : run E g mi_X5_sumOfNotes d lm RT F pm_X5_sumOfNotes (n + 1) 18 L st h = exI E d lm RT F (run E g mi_X5_sumOfNotes d lm RT F pm_X5_sumOfNotes n) (38, 0, 0, 19, []) L st h := run_s rfl
theorem r_X5_sumOfNotes_19 : run E g mi_X5_sumOfNotes d lm RT F pm_X5_sumOfNotes (n + 1) 19 L st h = exI E d lm RT F (run E g mi_X5_sumOfNotes d lm RT F pm_X5_sumOfNotes n) (8, 0, 0, 20, []) L st h := run_s rfl
theorem r_X5_sumOfNotes_20 : run E g mi_X5_sumOfNotes d lm RT F pm_X5_sumOfNotes (n + 1) 20 L st h = exI E d lm RT F (run E g mi_X5_sumOfNotes d lm RT F pm_X5_sumOfNotes n) (4, ((1 : Nat) : Int), 0, 21, []) L st h := run_s rfl
theorem r_X5_sumOfNotes_21 : run E g mi_X5_sumOfNotes d lm RT F pm_X5_sumOfNotes (n + 1) 21 L st h = exI E d lm RT F (run E g mi_X5_sumOfNotes d lm RT F pm_X5_sumOfNotes n) (7, ((2 : Nat) : Int), 1, 24, []) L st h := run_s rfl
theorem r_X5_sumOfNotes_24 : run E g mi_X5_sumOfNotes d lm RT F pm_X5_sumOfNotes (n + 1) 24 L st h = exI E d lm RT F (run E g mi_X5_sumOfNotes d lm RT F pm_X5_sumOfNotes n) (33, ((4 : Nat) : Int), 0, 0, []) L st h := run_s rfl
theorem r_X5_sumOfNotes_27 : run E g mi_X5_sumOfNotes d lm RT F pm_X5_sumOfNotes (n + 1) 27 L st h = exI E d lm RT F (run E g mi_X5_sumOfNotes d lm RT F pm_X5_sumOfNotes n) (1, ((1 : Nat) : Int), 0, 28, []) L st h := run_s rfl
theorem r_X5_sumOfNotes_28 : run E g mi_X5_sumOfNotes d lm RT F pm_X5_sumOfNotes (n + 1) 28 L st h = exI E d lm RT F (run E g mi_X5_sumOfNotes d lm RT F pm_X5_sumOfNotes n) (48, 0, 0, 0, []) L st h := run_s rfl
theorem e_X5_sumOfNotes (n : Nat) {pc : Nat} (hF : FOk E d F) (hx : run E g mi_X5_sumOfNotes d lm RT F pm_X5_sumOfNotes n pc L st h) : G E g mi_X5_sumOfNotes d lm RT pc L st h := run_sound hF pk_X5_sumOfNotes n pc L st h hx
end
def mi_X6_init : MI := (6, cX6_init, 1, 4, true)
theorem mo_X6_init : miOk mi_X6_init (mt 31) = true := by decide +kernel
def tl_X6_init : List (Nat × PT) := [(0, (2, ((0 : Nat) : Int), 0, 1, [])),
  (1, (47, 0, 0, 4, [])),
  (4, (2, ((0 : Nat) : Int), 0, 5, [])),
  (5, (0, 8, 0, 7, [])),
  (7, (42, 2, 0, 9, [])),
  (9, (37, ((6 : Nat) : Int), ((0 : Nat) : Int), 12, [3])),
  (12, (2, ((0 : Nat) : Int), 0, 13, [])),
  (13, (0, 8, 0, 15, [])),
  (15, (42, 0, 0, 17, [])),
  (17, (37, ((6 : Nat) : Int), ((1 : Nat) : Int), 20, [3])),
  (20, (2, ((0 : Nat) : Int), 0, 21, [])),
  (21, (0, 8, 0, 23, [])),
  (23, (42, 2, 0, 25, [])),
  (25, (37, ((6 : Nat) : Int), ((2 : Nat) : Int), 28, [3])),
  (28, (48, 4, 0, 0, []))]
theorem tk_X6_init : tOk mi_X6_init tl_X6_init = true := by decide +kernel
def pm_X6_init (pc : Nat) : Option PT := if [].contains pc then none else tl_X6_init.lookup pc
theorem pk_X6_init : ∀ pc pt, pm_X6_init pc = some pt → okPt mi_X6_init pc pt := fun pc pt h => tOk_pm tk_X6_init h
section
variable {E : ET} {g : GT} {d : Nat} {lm : Nat × Nat} {RT : RTy} {F : FT} {n : Nat} {L : LV} {st : List AV} {h : AH}
theorem r_X6_init_0 : run E g mi_X6_init d lm RT F pm_X6_init (n + 1) 0 L st h = exI E d lm RT F (run E g mi_X6_init d lm RT F pm_X6_init n) (2, ((0 : Nat) : Int), 0, 1, []) L st h := run_s rfl
theorem r_X6_init_1 : run E g mi_X6_init d lm RT F pm_X6_init (n + 1) 1 L st h = exI E d lm RT F (run E g mi_X6_init d lm RT F pm_X6_init n) (47, 0, 0, 4, []) L st h := run_s rfl
theorem r_X6_init_4 : run E g mi_X6_init d lm RT F pm_X6_init (n + 1) 4 L st h = exI E d lm RT F (run E g mi_X6_init d lm RT F pm_X6_init n) (2, ((0 : Nat) : Int), 0, 5, []) L st h := run_s rfl
theorem r_X6_init_5 : run E g mi_X6_init d lm RT F pm_X6_init (n + 1) 5 L st h = exI E d lm RT F (run E g mi_X6_init d lm RT F pm_X6_init n) (0, 8, 0, 7, []) L st h := run_s rfl
theorem r_X6_init_7 : run E g mi_X6_init d lm RT F pm_X6_init (n + 1) 7 L st h = exI E d lm RT F (run E g mi_X6_init d lm RT F pm_X6_init n) (42, 2, 0, 9, []) L st h := run_s rfl
theorem r_X6_init_9 : run E g mi_X6_init d lm RT F pm_X6_init (n + 1) 9 L st h = exI E d lm RT F (run E g mi_X6_init d lm RT F pm_X6_init n) (37, ((6 : Nat) : Int), ((0 : Nat) : Int), 12, [3]) L st h := run_s rfl
theorem r_X6_init_12 : run E g mi_X6_init d lm RT F pm_X6_init (n + 1) 12 L st h = exI E d lm RT F (run E g mi_X6_init d lm RT F pm_X6_init n) (2, ((0 : Nat) : Int), 0, 13, []) L st h := run_s rfl
theorem r_X6_init_13 : run E g mi_X6_init d lm RT F pm_X6_init (n + 1) 13 L st h = exI E d lm RT F (run E g mi_X6_init d lm RT F pm_X6_init n) (0, 8, 0, 15, []) L st h := run_s rfl
theorem r_X6_init_15 : run E g mi_X6_init d lm RT F pm_X6_init (n + 1) 15 L st h = exI E d lm RT F (run E g mi_X6_init d lm RT F pm_X6_init n) (42, 0, 0, 17, []) L st h := run_s rfl
theorem r_X6_init_17 : run E g mi_X6_init d lm RT F pm_X6_init (n + 1) 17 L st h = exI E d lm RT F (run E g mi_X6_init d lm RT F pm_X6_init n) (37, ((6 : Nat) : Int), ((1 : Nat) : Int), 20, [3]) L st h := run_s rfl
theorem r_X6_init_20 : run E g mi_X6_init d lm RT F pm_X6_init (n + 1) 20 L st h = exI E d lm RT F (run E g mi_X6_init d lm RT F pm_X6_init n) (2, ((0 : Nat) : Int), 0, 21, []) L st h := run_s rfl
theorem r_X6_init_21 : run E g mi_X6_init d lm RT F pm_X6_init (n + 1) 21 L st h = exI E d lm RT F (run E g mi_X6_init d lm RT F pm_X6_init n) (0, 8, 0, 23, []) L st h := run_s rfl
theorem r_X6_init_23 : run E g mi_X6_init d lm RT F pm_X6_init (n + 1) 23 L st h = exI E d lm RT F (run E g mi_X6_init d lm RT F pm_X6_init n) (42, 2, 0, 25, []) L st h := run_s rfl
theorem r_X6_init_25 : run E g mi_X6_init d lm RT F pm_X6_init (n + 1) 25 L st h = exI E d lm RT F (run E g mi_X6_init d lm RT F pm_X6_init n) (37, ((6 : Nat) : Int), ((2 : Nat) : Int), 28, [3]) L st h := run_s rfl
theorem r_X6_init_28 : run E g mi_X6_init d lm RT F pm_X6_init (n + 1) 28 L st h = exI E d lm RT F (run E g mi_X6_init d lm RT F pm_X6_init n) (48, 4, 0, 0, []) L st h := run_s rfl
theorem e_X6_init (n : Nat) {pc : Nat} (hF : FOk E d F) (hx : run E g mi_X6_init d lm RT F pm_X6_init n pc L st h) : G E g mi_X6_init d lm RT pc L st h := run_sound hF pk_X6_init n pc L st h hx
end
def mi_X6_evenOut : MI := (6, cX6_evenOut, 6, 4, false)
theorem mo_X6_evenOut : miOk mi_X6_evenOut (mt 32) = true := by decide +kernel
def tl_X6_evenOut : List (Nat × PT) := [(0, (1, ((1 : Nat) : Int), 0, 1, [])),
  (1, (45, ((145 : Nat) : Int), ((1 : Nat) : Int), 4, [])),
  (4, (4, ((3 : Nat) : Int), 0, 5, [])),
  (5, (1, ((3 : Nat) : Int), 0, 6, [])),
  (6, (31, 1, ((10 : Nat) : Int), 9, [])),
  (9, (48, 4, 0, 0, [])),
  (10, (1, ((0 : Nat) : Int), 0, 11, [])),
  (11, (1, ((3 : Nat) : Int), 0, 12, [])),
  (12, (12, 0, 0, 13, [])),
  (13, (4, ((4 : Nat) : Int), 0, 15, [])),
  (15, (0, 0, 0, 16, [])),
  (16, (4, ((5 : Nat) : Int), 0, 18, [])),
  (18, (1, ((5 : Nat) : Int), 0, 20, [])),
  (20, (0, 8, 0, 22, [])),
  (22, (32, 3, ((61 : Nat) : Int), 25, [])),
  (25, (1, ((1 : Nat) : Int), 0, 26, [])),
  (26, (1, ((5 : Nat) : Int), 0, 28, [])),
  (28, (45, ((69 : Nat) : Int), ((2 : Nat) : Int), 31, [])),
  (31, (31, 0, ((55 : Nat) : Int), 34, [])),
  (34, (2, ((2 : Nat) : Int), 0, 35, [])),
  (35, (1, ((5 : Nat) : Int), 0, 37, [])),
  (37, (1, ((0 : Nat) : Int), 0, 38, [])),
  (38, (1, ((3 : Nat) : Int), 0, 39, [])),
  (39, (11, 0, 0, 40, [])),
  (40, (1, ((4 : Nat) : Int), 0, 42, [])),
  (42, (31, 5, ((49 : Nat) : Int), 45, [])),
  (45, (0, 1, 0, 46, [])),
  (46, (33, ((50 : Nat) : Int), 0, 0, [])),
  (49, (0, 0, 0, 50, [])),
  (50, (8, 0, 0, 51, [])),
  (51, (39, 0, 0, 52, [])),
  (52, (7, ((4 : Nat) : Int), (-1), 55, [])),
  (55, (7, ((5 : Nat) : Int), 1, 58, [])),
  (58, (33, ((18 : Nat) : Int), 0, 0, [])),
  (61, (48, 4, 0, 0, []))]
theorem tk_X6_evenOut : tOk mi_X6_evenOut tl_X6_evenOut = true := by decide +kernel
def pm_X6_evenOut (pc : Nat) : Option PT := if [18].contains pc then none else tl_X6_evenOut.lookup pc
theorem pk_X6_evenOut : ∀ pc pt, pm_X6_evenOut pc = some pt → okPt mi_X6_evenOut pc pt := fun pc pt h => tOk_pm tk_X6_evenOut h
section
variable {E : ET} {g : GT} {d : Nat} {lm : Nat × Nat} {RT : RTy} {F : FT} {n : Nat} {L : LV} {st : List AV} {h : AH}
theorem r_X6_evenOut_0 : run E g mi_X6_evenOut d lm RT F pm_X6_evenOut (n + 1) 0 L st h = exI E d lm RT F (run E g mi_X6_evenOut d lm RT F pm_X6_evenOut n) (1, ((1 : Nat) : Int), 0, 1, []) L st h := run_s rfl
theorem r_X6_evenOut_1 : run E g mi_X6_evenOut d lm RT F pm_X6_evenOut (n + 1) 1 L st h = exI E d lm RT F (run E g mi_X6_evenOut d lm RT F pm_X6_evenOut n) (45, ((145 : Nat) : Int), ((1 : Nat) : Int), 4, []) L st h := run_s rfl
theorem r_X6_evenOut_4 : run E g mi_X6_evenOut d lm RT F pm_X6_evenOut (n + 1) 4 L st h = exI E d lm RT F (run E g mi_X6_evenOut d lm RT F pm_X6_evenOut n) (4, ((3 : Nat) : Int), 0, 5, []) L st h := run_s rfl
theorem r_X6_evenOut_5 : run E g mi_X6_evenOut d lm RT F pm_X6_evenOut (n + 1) 5 L st h = exI E d lm RT F (run E g mi_X6_evenOut d lm RT F pm_X6_evenOut n) (1, ((3 : Nat) : Int), 0, 6, []) L st h := run_s rfl
theorem r_X6_evenOut_6 : run E g mi_X6_evenOut d lm RT F pm_X6_evenOut (n + 1) 6 L st h = exI E d lm RT F (run E g mi_X6_evenOut d lm RT F pm_X6_evenOut n) (31, 1, ((10 : Nat) : Int), 9, []) L st h := run_s rfl
theorem r_X6_evenOut_9 : run E g mi_X6_evenOut d lm RT F pm_X6_evenOut (n + 1) 9 L st h = exI E d lm RT F (run E g mi_X6_evenOut d lm RT F pm_X6_evenOut n) (48, 4, 0, 0, []) L st h := run_s rfl
theorem r_X6_evenOut_10 : run E g mi_X6_evenOut d lm RT F pm_X6_evenOut (n + 1) 10 L st h = exI E d lm RT F (run E g mi_X6_evenOut d lm RT F pm_X6_evenOut n) (1, ((0 : Nat) : Int), 0, 11, []) L st h := run_s rfl
theorem r_X6_evenOut_11 : run E g mi_X6_evenOut d lm RT F pm_X6_evenOut (n + 1) 11 L st h = exI E d lm RT F (run E g mi_X6_evenOut d lm RT F pm_X6_evenOut n) (1, ((3 : Nat) : Int), 0, 12, []) L st h := run_s rfl
theorem r_X6_evenOut_12 : run E g mi_X6_evenOut d lm RT F pm_X6_evenOut (n + 1) 12 L st h = exI E d lm RT F (run E g mi_X6_evenOut d lm RT F pm_X6_evenOut n) (12, 0, 0, 13, []) L st h := run_s rfl
theorem r_X6_evenOut_13 : run E g mi_X6_evenOut d lm RT F pm_X6_evenOut (n + 1) 13 L st h = exI E d lm RT F (run E g mi_X6_evenOut d lm RT F pm_X6_evenOut n) (4, ((4 : Nat) : Int), 0, 15, []) L st h := run_s rfl
theorem r_X6_evenOut_15 : run E g mi_X6_evenOut d lm RT F pm_X6_evenOut (n + 1) 15 L st h = exI E d lm RT F (run E g mi_X6_evenOut d lm RT F pm_X6_evenOut n) (0, 0, 0, 16, []) L st h := run_s rfl
theorem r_X6_evenOut_16 : run E g mi_X6_evenOut d lm RT F pm_X6_evenOut (n + 1) 16 L st h = exI E d lm RT F (run E g mi_X6_evenOut d lm RT F pm_X6_evenOut n) (4, ((5 : Nat) : Int), 0, 18, []) L st h := run_s rfl
theorem r_X6_evenOut_18 : run E g mi_X6_evenOut d lm RT F pm_X6_evenOut (n + 1) 18 L st h = G E g mi_X6_evenOut d lm RT 18 L st h := run_c rfl
theorem q_X6_evenOut_18 (n : Nat) (hF : FOk E d F) (hx : exI E d lm RT F (run E g mi_X6_evenOut d lm RT F pm_X6_evenOut n) (1, ((5 : Nat) : Int), 0, 20, []) L st h) : G E g mi_X6_evenOut d lm RT 18 L st h := sstep hF (tOk_spec tk_X6_evenOut (by decide +kernel)) (run_sound hF pk_X6_evenOut n) hx
theorem r_X6_evenOut_20 : run E g mi_X6_evenOut d lm RT F pm_X6_evenOut (n + 1) 20 L st h = exI E d lm RT F (run E g mi_X6_evenOut d lm RT F pm_X6_evenOut n) (0, 8, 0, 22, []) L st h := run_s rfl
theorem r_X6_evenOut_22 : run E g mi_X6_evenOut d lm RT F pm_X6_evenOut (n + 1) 22 L st h = exI E d lm RT F (run E g mi_X6_evenOut d lm RT F pm_X6_evenOut n) (32, 3, ((61 : Nat) : Int), 25, []) L st h := run_s rfl
theorem r_X6_evenOut_25 : run E g mi_X6_evenOut d lm RT F pm_X6_evenOut (n + 1) 25 L st h = exI E d lm RT F (run E g mi_X6_evenOut d lm RT F pm_X6_evenOut n) (1, ((1 : Nat) : Int), 0, 26, []) L st h := run_s rfl
theorem r_X6_evenOut_26 : run E g mi_X6_evenOut d lm RT F pm_X6_evenOut (n + 1) 26 L st h = exI E d lm RT F (run E g mi_X6_evenOut d lm RT F pm_X6_evenOut n) (1, ((5 : Nat) : Int), 0, 28, []) L st h := run_s rfl
theorem r_X6_evenOut_28 : run E g mi_X6_evenOut d lm RT F pm_X6_evenOut (n + 1) 28 L st h = exI E d lm RT F (run E g mi_X6_evenOut d lm RT F pm_X6_evenOut n) (45, ((69 : Nat) : Int), ((2 : Nat) : Int), 31, []) L st h := run_s rfl
theorem r_X6_evenOut_31 : run E g mi_X6_evenOut d lm RT F pm_X6_evenOut (n + 1) 31 L st h = exI E d lm RT F (run E g mi_X6_evenOut d lm RT F pm_X6_evenOut n) (31, 0, ((55 : Nat) : Int), 34, []) L st h := run_s rfl
theorem r_X6_evenOut_34 : run E g mi_X6_evenOut d lm RT F pm_X6_evenOut (n + 1) 34 L st h = exI E d lm RT F (run E g mi_X6_evenOut d lm RT F pm_X6_evenOut n) (2, ((2 : Nat) : Int), 0, 35, []) L st h := run_s rfl
theorem r_X6_evenOut_35 : run E g mi_X6_evenOut d lm RT F pm_X6_evenOut (n + 1) 35 L st h = exI E d lm RT F (run E g mi_X6_evenOut d lm RT F pm_X6_evenOut n) (1, ((5 : Nat) : Int), 0, 37, []) L st h := run_s rfl
theorem r_X6_evenOut_37 : run E g mi_X6_evenOut d lm RT F pm_X6_evenOut (n + 1) 37 L st h = exI E d lm RT F (run E g mi_X6_evenOut d lm RT F pm_X6_evenOut n) (1, ((0 : Nat) : Int), 0, 38, []) L st h := run_s rfl
theorem r_X6_evenOut_38 : run E g mi_X6_evenOut d lm RT F pm_X6_evenOut (n + 1) 38 L st h = exI E d lm RT F (run E g mi_X6_evenOut d lm RT F pm_X6_evenOut n) (1, ((3 : Nat) : Int), 0, 39, []) L st h := run_s rfl
theorem r_X6_evenOut_39 : run E g mi_X6_evenOut d lm RT F pm_X6_evenOut (n + 1) 39 L st h = exI E d lm RT F (run E g mi_X6_evenOut d lm RT F pm_X6_evenOut n) (11, 0, 0, 40, []) L st h := run_s rfl
theorem r_X6_evenOut_40 : run E g mi_X6_evenOut d lm RT F pm_X6_evenOut (n + 1) 40 L st h = exI E d lm RT F (run E g mi_X6_evenOut d lm RT F pm_X6_evenOut n) (1, ((4 : Nat) : Int), 0, 42, []) L st h := run_s rfl
theorem r_X6_evenOut_42 : run E g mi_X6_evenOut d lm RT F pm_X6_evenOut (n + 1) 42 L st h = exI E d lm RT F (run E g mi_X6_evenOut d lm RT F pm_X6_evenOut n) (31, 5, ((49 : Nat) : Int), 45, []) L st h := run_s rfl
theorem r_X6_evenOut_45 : run E g mi_X6_evenOut d lm RT F pm_X6_evenOut (n + 1) 45 L st h = exI E d lm RT F (run E g mi_X6_evenOut d lm RT F pm_X6_evenOut n) (0, 1, 0, 46, []) L st h := run_s rfl
theorem r_X6_evenOut_46 : run E g mi_X6_evenOut d lm RT F pm_X6_evenOut (n + 1) 46 L st h = exI E d lm RT F (run E g mi_X6_evenOut d lm RT F pm_X6_evenOut n) (33, ((50 : Nat) : Int), 0, 0, []) L st h := run_s rfl
theorem r_X6_evenOut_49 : run E g mi_X6_evenOut d lm RT F pm_X6_evenOut (n + 1) 49 L st h = exI E d lm RT F (run E g mi_X6_evenOut d lm RT F pm_X6_evenOut n) (0, 0, 0, 50, []) L st h := run_s rfl
theorem r_X6_evenOut_50 : run E g mi_X6_evenOut d lm RT F pm_X6_evenOut (n + 1) 50 L st h = exI E d lm RT F (run E g mi_X6_evenOut d lm RT F pm_X6_evenOut n) (8, 0, 0, 51, []) L st h := run_s rfl
theorem r_X6_evenOut_51 : run E g mi_X6_evenOut d lm RT F pm_X6_evenOut (n + 1) 51 L st h = exI E d lm RT F (run E g mi_X6_evenOut d lm RT F pm_X6_evenOut n) (39, 0, 0, 52, []) L st h := run_s rfl
theorem r_X6_evenOut_52 : run E g mi_X6_evenOut d lm RT F pm_X6_evenOut (n + 1) 52 L st h = exI E d lm RT F (run E g mi_X6_evenOut d lm RT F pm_X6_evenOut n) (7, ((4 : Nat) : Int), (-1), 55, []) L st h := run_s rfl
theorem r_X6_evenOut_55 : run E g mi_X6_evenOut d lm RT F pm_X6_evenOut (n + 1) 55 L st h = exI E d lm RT F (run E g mi_X6_evenOut d lm RT F pm_X6_evenOut n) (7, ((5 : Nat) : Int), 1, 58, []) L st h := run_s rfl
theorem r_X6_evenOut_58 : run E g mi_X6_evenOut d lm RT F pm_X6_evenOut (n + 1) 58 L st h = exI E d lm RT F (run E g mi_X6_evenOut d lm RT F pm_X6_evenOut n) (33, ((18 : Nat) : Int), 0, 0, []) L st h := run_s rfl
theorem r_X6_evenOut_61 : run E g mi_X6_evenOut d lm RT F pm_X6_evenOut (n + 1) 61 L st h = exI E d lm RT F (run E g mi_X6_evenOut d lm RT F pm_X6_evenOut n) (48, 4, 0, 0, []) L st h := run_s rfl
theorem e_X6_evenOut (n : Nat) {pc : Nat} (hF : FOk E d F) (hx : run E g mi_X6_evenOut d lm RT F pm_X6_evenOut n pc L st h) : G E g mi_X6_evenOut d lm RT pc L st h := run_sound hF pk_X6_evenOut n pc L st h hx
end
def mi_X6_shareOut : MI := (6, cX6_shareOut, 10, 4, false)
theorem mo_X6_shareOut : miOk mi_X6_shareOut (mt 33) = true := by decide +kernel
def tl_X6_shareOut : List (Nat × PT) := [(0, (2, ((0 : Nat) : Int), 0, 1, [])),
  (1, (1, ((2 : Nat) : Int), 0, 2, [])),
  (2, (51, ((34 : Nat) : Int), ((2 : Nat) : Int), 5, [6])),
  (5, (6, ((4 : Nat) : Int), 0, 7, [])),
  (7, (3, ((4 : Nat) : Int), 0, 9, [])),
  (9, (27, 0, 0, 10, [])),
  (10, (24, 0, 0, 11, [])),
  (11, (31, 4, ((21 : Nat) : Int), 14, [])),
  (14, (1, ((1 : Nat) : Int), 0, 15, [])),
  (15, (1, ((2 : Nat) : Int), 0, 16, [])),
  (16, (2, ((3 : Nat) : Int), 0, 17, [])),
  (17, (44, ((32 : Nat) : Int), ((3 : Nat) : Int), 20, [])),
  (20, (48, 4, 0, 0, [])),
  (21, (1, ((1 : Nat) : Int), 0, 22, [])),
  (22, (4, ((6 : Nat) : Int), 0, 24, [])),
  (24, (0, 0, 0, 25, [])),
  (25, (4, ((7 : Nat) : Int), 0, 27, [])),
  (27, (1, ((7 : Nat) : Int), 0, 29, [])),
  (29, (0, 8, 0, 31, [])),
  (31, (32, 3, ((92 : Nat) : Int), 34, [])),
  (34, (1, ((2 : Nat) : Int), 0, 35, [])),
  (35, (1, ((7 : Nat) : Int), 0, 37, [])),
  (37, (45, ((69 : Nat) : Int), ((2 : Nat) : Int), 40, [])),
  (40, (31, 0, ((86 : Nat) : Int), 43, [])),
  (43, (1, ((1 : Nat) : Int), 0, 44, [])),
  (44, (25, 0, 0, 45, [])),
  (45, (2, ((0 : Nat) : Int), 0, 46, [])),
  (46, (35, ((6 : Nat) : Int), ((0 : Nat) : Int), 49, [])),
  (49, (1, ((7 : Nat) : Int), 0, 51, [])),
  (51, (38, 2, 0, 52, [])),
  (52, (21, 0, 0, 53, [])),
  (53, (6, ((8 : Nat) : Int), 0, 55, [])),
  (55, (2, ((3 : Nat) : Int), 0, 56, [])),
  (56, (1, ((7 : Nat) : Int), 0, 58, [])),
  (58, (3, ((8 : Nat) : Int), 0, 60, [])),
  (60, (3, ((4 : Nat) : Int), 0, 62, [])),
  (62, (22, 0, 0, 63, [])),
  (63, (26, 0, 0, 64, [])),
  (64, (39, 0, 0, 65, [])),
  (65, (2, ((0 : Nat) : Int), 0, 66, [])),
  (66, (35, ((6 : Nat) : Int), ((2 : Nat) : Int), 69, [])),
  (69, (1, ((7 : Nat) : Int), 0, 71, [])),
  (71, (3, ((8 : Nat) : Int), 0, 73, [])),
  (73, (3, ((4 : Nat) : Int), 0, 75, [])),
  (75, (23, 0, 0, 76, [])),
  (76, (39, 2, 0, 77, [])),
  (77, (1, ((6 : Nat) : Int), 0, 79, [])),
  (79, (2, ((3 : Nat) : Int), 0, 80, [])),
  (80, (1, ((7 : Nat) : Int), 0, 82, [])),
  (82, (38, 0, 0, 83, [])),
  (83, (9, 0, 0, 84, [])),
  (84, (4, ((6 : Nat) : Int), 0, 86, [])),
  (86, (7, ((7 : Nat) : Int), 1, 89, [])),
  (89, (33, ((27 : Nat) : Int), 0, 0, [])),
  (92, (0, 0, 0, 93, [])),
  (93, (4, ((7 : Nat) : Int), 0, 95, [])),
  (95, (1, ((7 : Nat) : Int), 0, 97, [])),
  (97, (0, 8, 0, 99, [])),
  (99, (32, 3, ((121 : Nat) : Int), 102, [])),
  (102, (1, ((7 : Nat) : Int), 0, 104, [])),
  (104, (1, ((6 : Nat) : Int), 0, 106, [])),
  (106, (32, 3, ((121 : Nat) : Int), 109, [])),
  (109, (2, ((0 : Nat) : Int), 0, 110, [])),
  (110, (1, ((2 : Nat) : Int), 0, 111, [])),
  (111, (2, ((3 : Nat) : Int), 0, 112, [])),
  (112, (51, ((35 : Nat) : Int), ((3 : Nat) : Int), 115, [6])),
  (115, (7, ((7 : Nat) : Int), 1, 118, [])),
  (118, (33, ((95 : Nat) : Int), 0, 0, [])),
  (121, (48, 4, 0, 0, []))]
theorem tk_X6_shareOut_0 : tOk mi_X6_shareOut ((tl_X6_shareOut.drop 0).take 45) = true := by decide +kernel
theorem tk_X6_shareOut_1 : tOk mi_X6_shareOut ((tl_X6_shareOut.drop 45).take 45) = true := by decide +kernel
theorem tk_X6_shareOut : tOk mi_X6_shareOut tl_X6_shareOut = true := by
  refine tOk_cut 45 (by decide) (fun q hq => ?_)
  have hl : tl_X6_shareOut.length = 69 := by decide +kernel
  rw [hl] at hq
  rcases (show q = 0 ∨ q = 1 by omega) with rfl | rfl
  · exact tk_X6_shareOut_0
  · exact tk_X6_shareOut_1
def pm_X6_shareOut (pc : Nat) : Option PT := if [27, 95].contains pc then none else tl_X6_shareOut.lookup pc
theorem pk_X6_shareOut : ∀ pc pt, pm_X6_shareOut pc = some pt → okPt mi_X6_shareOut pc pt := fun pc pt h => tOk_pm tk_X6_shareOut h
section
variable {E : ET} {g : GT} {d : Nat} {lm : Nat × Nat} {RT : RTy} {F : FT} {n : Nat} {L : LV} {st : List AV} {h : AH}
theorem r_X6_shareOut_0 : run E g mi_X6_shareOut d lm RT F pm_X6_shareOut (n + 1) 0 L st h = exI E d lm RT F (run E g mi_X6_shareOut d lm RT F pm_X6_shareOut n) (2, ((0 : Nat) : Int), 0, 1, []) L st h := run_s rfl
theorem r_X6_shareOut_1 : run E g mi_X6_shareOut d lm RT F pm_X6_shareOut (n + 1) 1 L st h = exI E d lm RT F (run E g mi_X6_shareOut d lm RT F pm_X6_shareOut n) (1, ((2 : Nat) : Int), 0, 2, []) L st h := run_s rfl
theorem r_X6_shareOut_2 : run E g mi_X6_shareOut d lm RT F pm_X6_shareOut (n + 1) 2 L st h = exI E d lm RT F (run E g mi_X6_shareOut d lm RT F pm_X6_shareOut n) (51, ((34 : Nat) : Int), ((2 : Nat) : Int), 5, [6]) L st h := run_s rfl
theorem r_X6_shareOut_5 : run E g mi_X6_shareOut d lm RT F pm_X6_shareOut (n + 1) 5 L st h = exI E d lm RT F (run E g mi_X6_shareOut d lm RT F pm_X6_shareOut n) (6, ((4 : Nat) : Int), 0, 7, []) L st h := run_s rfl
theorem r_X6_shareOut_7 : run E g mi_X6_shareOut d lm RT F pm_X6_shareOut (n + 1) 7 L st h = exI E d lm RT F (run E g mi_X6_shareOut d lm RT F pm_X6_shareOut n) (3, ((4 : Nat) : Int), 0, 9, []) L st h := run_s rfl
theorem r_X6_shareOut_9 : run E g mi_X6_shareOut d lm RT F pm_X6_shareOut (n + 1) 9 L st h = exI E d lm RT F (run E g mi_X6_shareOut d lm RT F pm_X6_shareOut n) (27, 0, 0, 10, []) L st h := run_s rfl
theorem r_X6_shareOut_10 : run E g mi_X6_shareOut d lm RT F pm_X6_shareOut (n + 1) 10 L st h = exI E d lm RT F (run E g mi_X6_shareOut d lm RT F pm_X6_shareOut n) (24, 0, 0, 11, []) L st h := run_s rfl
theorem r_X6_shareOut_11 : run E g mi_X6_shareOut d lm RT F pm_X6_shareOut (n + 1) 11 L st h = exI E d lm RT F (run E g mi_X6_shareOut d lm RT F pm_X6_shareOut n) (31, 4, ((21 : Nat) : Int), 14, []) L st h := run_s rfl
theorem r_X6_shareOut_14 : run E g mi_X6_shareOut d lm RT F pm_X6_shareOut (n + 1) 14 L st h = exI E d lm RT F (run E g mi_X6_shareOut d lm RT F pm_X6_shareOut n) (1, ((1 : Nat) : Int), 0, 15, []) L st h := run_s rfl
theorem r_X6_shareOut_15 : run E g mi_X6_shareOut d lm RT F pm_X6_shareOut (n + 1) 15 L st h = exI E d lm RT F (run E g mi_X6_shareOut d lm RT F pm_X6_shareOut n) (1, ((2 : Nat) : Int), 0, 16, []) L st h := run_s rfl
theorem r_X6_shareOut_16 : run E g mi_X6_shareOut d lm RT F pm_X6_shareOut (n + 1) 16 L st h = exI E d lm RT F (run E g mi_X6_shareOut d lm RT F pm_X6_shareOut n) (2, ((3 : Nat) : Int), 0, 17, []) L st h := run_s rfl
theorem r_X6_shareOut_17 : run E g mi_X6_shareOut d lm RT F pm_X6_shareOut (n + 1) 17 L st h = exI E d lm RT F (run E g mi_X6_shareOut d lm RT F pm_X6_shareOut n) (44, ((32 : Nat) : Int), ((3 : Nat) : Int), 20, []) L st h := run_s rfl
theorem r_X6_shareOut_20 : run E g mi_X6_shareOut d lm RT F pm_X6_shareOut (n + 1) 20 L st h = exI E d lm RT F (run E g mi_X6_shareOut d lm RT F pm_X6_shareOut n) (48, 4, 0, 0, []) L st h := run_s rfl
theorem r_X6_shareOut_21 : run E g mi_X6_shareOut d lm RT F pm_X6_shareOut (n + 1) 21 L st h = exI E d lm RT F (run E g mi_X6_shareOut d lm RT F pm_X6_shareOut n) (1, ((1 : Nat) : Int), 0, 22, []) L st h := run_s rfl
theorem r_X6_shareOut_22 : run E g mi_X6_shareOut d lm RT F pm_X6_shareOut (n + 1) 22 L st h = exI E d lm RT F (run E g mi_X6_shareOut d lm RT F pm_X6_shareOut n) (4, ((6 : Nat) : Int), 0, 24, []) L st h := run_s rfl
theorem r_X6_shareOut_24 : run E g mi_X6_shareOut d lm RT F pm_X6_shareOut (n + 1) 24 L st h = exI E d lm RT F (run E g mi_X6_shareOut d lm RT F pm_X6_shareOut n) (0, 0, 0, 25, []) L st h := run_s rfl
theorem r_X6_shareOut_25 : run E g mi_X6_shareOut d lm RT F pm_X6_shareOut (n + 1) 25 L st h = exI E d lm RT F (run E g mi_X6_shareOut d lm RT F pm_X6_shareOut n) (4, ((7 : Nat) : Int), 0, 27, []) L st h := run_s rfl
theorem r_X6_shareOut_27 : run E g mi_X6_shareOut d lm RT F pm_X6_shareOut (n + 1) 27 L st h = G E g mi_X6_shareOut d lm RT 27 L st h := run_c rfl
theorem q_X6_shareOut_27 (n : Nat) (hF : FOk E d F) (hx : exI E d lm RT F (run E g mi_X6_shareOut d lm RT F pm_X6_shareOut n) (1, ((7 : Nat) : Int), 0, 29, []) L st h) : G E g mi_X6_shareOut d lm RT 27 L st h := sstep hF (tOk_spec tk_X6_shareOut (by decide +kernel)) (run_sound hF pk_X6_shareOut n) hx
theorem r_X6_shareOut_29 : run E g mi_X6_shareOut d lm RT F pm_X6_shareOut (n + 1) 29 L st h = exI E d lm RT F (run E g mi_X6_shareOut d lm RT F pm_X6_shareOut n) (0, 8, 0, 31, []) L st h := run_s rfl
theorem r_X6_shareOut_31 : run E g mi_X6_shareOut d lm RT F pm_X6_shareOut (n + 1) 31 L st h = exI E d lm RT F (run E g mi_X6_shareOut d lm RT F pm_X6_shareOut n) (32, 3, ((92 : Nat) : Int), 34, []) L st h := run_s rfl
theorem r_X6_shareOut_34 : run E g mi_X6_shareOut d lm RT F pm_X6_shareOut (n + 1) 34 L st h = exI E d lm RT F (run E g mi_X6_shareOut d lm RT F pm_X6_shareOut n) (1, ((2 : Nat) : Int), 0, 35, []) L st h := run_s rfl
theorem r_X6_shareOut_35 : run E g mi_X6_shareOut d lm RT F pm_X6_shareOut (n + 1) 35 L st h = exI E d lm RT F (run E g mi_X6_shareOut d lm RT F pm_X6_shareOut n) (1, ((7 : Nat) : Int), 0, 37, []) L st h := run_s rfl
theorem r_X6_shareOut_37 : run E g mi_X6_shareOut d lm RT F pm_X6_shareOut (n + 1) 37 L st h = exI E d lm RT F (run E g mi_X6_shareOut d lm RT F pm_X6_shareOut n) (45, ((69 : Nat) : Int), ((2 : Nat) : Int), 40, []) L st h := run_s rfl
theorem r_X6_shareOut_40 : run E g mi_X6_shareOut d lm RT F pm_X6_shareOut (n + 1) 40 L st h = exI E d lm RT F (run E g mi_X6_shareOut d lm RT F pm_X6_shareOut n) (31, 0, ((86 : Nat) : Int), 43, []) L st h := run_s rfl
theorem r_X6_shareOut_43 : run E g mi_X6_shareOut d lm RT F pm_X6_shareOut (n + 1) 43 L st h = exI E d lm RT F (run E g mi_X6_shareOut d lm RT F pm_X6_shareOut n) (1, ((1 : Nat) : Int), 0, 44, []) L st h := run_s rfl
theorem r_X6_shareOut_44 : run E g mi_X6_shareOut d lm RT F pm_X6_shareOut (n + 1) 44 L st h = exI E d lm RT F (run E g mi_X6_shareOut d lm RT F pm_X6_shareOut n) (25, 0, 0, 45, []) L st h := run_s rfl
theorem r_X6_shareOut_45 : run E g mi_X6_shareOut d lm RT F pm_X6_shareOut (n + 1) 45 L st h = exI E d lm RT F (run E g mi_X6_shareOut d lm RT F pm_X6_shareOut n) (2, ((0 : Nat) : Int), 0, 46, []) L st h := run_s rfl
theorem r_X6_shareOut_46 : run E g mi_X6_shareOut d lm RT F pm_X6_shareOut (n + 1) 46 L st h = exI E d lm RT F (run E g mi_X6_shareOut d lm RT F pm_X6_shareOut n) (35, ((6 : Nat) : Int), ((0 : Nat) : Int), 49, []) L st h := run_s rfl
theorem r_X6_shareOut_49 : run E g mi_X6_shareOut d lm RT F pm_X6_shareOut (n + 1) 49 L st h = exI E d lm RT F (run E g mi_X6_shareOut d lm RT F pm_X6_shareOut n) (1, ((7 : Nat) : Int), 0, 51, []) L st h := run_s rfl
theorem r_X6_shareOut_51 : run E g mi_X6_shareOut d lm RT F pm_X6_shareOut (n + 1) 51 L st h = exI E d lm RT F (run E g mi_X6_shareOut d lm RT F pm_X6_shareOut n) (38, 2, 0, 52, []) L st h := run_s rfl
theorem r_X6_shareOut_52 : run E g mi_X6_shareOut d lm RT F pm_X6_shareOut (n + 1) 52 L st h = exI E d lm RT F (run E g mi_X6_shareOut d lm RT F pm_X6_shareOut n) (21, 0, 0, 53, []) L st h := run_s rfl
theorem r_X6_shareOut_53 : run E g mi_X6_shareOut d lm RT F pm_X6_shareOut (n + 1) 53 L st h = exI E d lm RT F (run E g mi_X6_shareOut d lm RT F pm_X6_shareOut n) (6, ((8 : Nat) : Int), 0, 55, []) L st h := run_s rfl
theorem r_X6_shareOut_55 : run E g mi_X6_shareOut d lm RT F pm_X6_shareOut (n + 1) 55 L st h = exI E d lm RT F (run E g mi_X6_shareOut d lm RT F pm_X6_shareOut n) (2, ((3 : Nat) : Int), 0, 56, []) L st h := run_s rfl
theorem r_X6_shareOut_56 : run E g mi_X6_shareOut d lm RT F pm_X6_shareOut (n + 1) 56 L st h = exI E d lm RT F (run E g mi_X6_shareOut d lm RT F pm_X6_shareOut n) (1, ((7 : Nat) : Int), 0, 58, []) L st h := run_s rfl
theorem r_X6_shareOut_58 : run E g mi_X6_shareOut d lm RT F pm_X6_shareOut (n + 1) 58 L st h = exI E d lm RT F (run E g mi_X6_shareOut d lm RT F pm_X6_shareOut n) (3, ((8 : Nat) : Int), 0, 60, []) L st h := run_s rfl
theorem r_X6_shareOut_60 : run E g mi_X6_shareOut d lm RT F pm_X6_shareOut (n + 1) 60 L st h = exI E d lm RT F (run E g mi_X6_shareOut d lm RT F pm_X6_shareOut n) (3, ((4 : Nat) : Int), 0, 62, []) L st h := run_s rfl
theorem r_X6_shareOut_62 : run E g mi_X6_shareOut d lm RT F pm_X6_shareOut (n + 1) 62 L st h = exI E d lm RT F (run E g mi_X6_shareOut d lm RT F pm_X6_shareOut n) (22, 0, 0, 63, []) L st h := run_s rfl
theorem r_X6_shareOut_63 : run E g mi_X6_shareOut d lm RT F pm_X6_shareOut (n + 1) 63 L st h = exI E d lm RT F (run E g mi_X6_shareOut d lm RT F pm_X6_shareOut n) (26, 0, 0, 64, []) L st h := run_s rfl
theorem r_X6_shareOut_64 : run E g mi_X6_shareOut d lm RT F pm_X6_shareOut (n + 1) 64 L st h = exI E d lm RT F (run E g mi_X6_shareOut d lm RT F pm_X6_shareOut n) (39, 0, 0, 65, []) L st h := run_s rfl
theorem r_X6_shareOut_65 : run E g mi_X6_shareOut d lm RT F pm_X6_shareOut (n + 1) 65 L st h = exI E d lm RT F (run E g mi_X6_shareOut d lm RT F pm_X6_shareOut n) (2, ((0 : Nat) : Int), 0, 66, []) L st h := run_s rfl
theorem r_X6_shareOut_66 : run E g mi_X6_shareOut d lm RT F pm_X6_shareOut (n + 1) 66 L st h = exI E d lm RT F (run E g mi_X6_shareOut d lm RT F pm_X6_shareOut n) (35, ((6 : Nat) : Int), ((2 : Nat) : Int), 69, []) L st h := run_s rfl
theorem r_X6_shareOut_69 : run E g mi_X6_shareOut d lm RT F pm_X6_shareOut (n + 1) 69 L st h = exI E d lm RT F (run E g mi_X6_shareOut d lm RT F pm_X6_shareOut n) (1, ((7 : Nat) : Int), 0, 71, []) L st h := run_s rfl
theorem r_X6_shareOut_71 : run E g mi_X6_shareOut d lm RT F pm_X6_shareOut (n + 1) 71 L st h = exI E d lm RT F (run E g mi_X6_shareOut d lm RT F pm_X6_shareOut n) (3, ((8 : Nat) : Int), 0, 73, []) L st h := run_s rfl
theorem r_X6_shareOut_73 : run E g mi_X6_shareOut d lm RT F pm_X6_shareOut (n + 1) 73 L st h = exI E d lm RT F (run E g mi_X6_shareOut d lm RT F pm_X6_shareOut n) (3, ((4 : Nat) : Int), 0, 75, []) L st h := run_s rfl
theorem r_X6_shareOut_75 : run E g mi_X6_shareOut d lm RT F pm_X6_shareOut (n + 1) 75 L st h = exI E d lm RT F (run E g mi_X6_shareOut d lm RT F pm_X6_shareOut n) (23, 0, 0, 76, []) L st h := run_s rfl
theorem r_X6_shareOut_76 : run E g mi_X6_shareOut d lm RT F pm_X6_shareOut (n + 1) 76 L st h = exI E d lm RT F (run E g mi_X6_shareOut d lm RT F pm_X6_shareOut n) (39, 2, 0, 77, []) L st h := run_s rfl
theorem r_X6_shareOut_77 : run E g mi_X6_shareOut d lm RT F pm_X6_shareOut (n + 1) 77 L st h = exI E d lm RT F (run E g mi_X6_shareOut d lm RT F pm_X6_shareOut n) (1, ((6 : Nat) : Int), 0, 79, []) L st h := run_s rfl
theorem r_X6_shareOut_79 : run E g mi_X6_shareOut d lm RT F pm_X6_shareOut (n + 1) 79 L st h = exI E d lm RT F (run E g mi_X6_shareOut d lm RT F pm_X6_shareOut n) (2, ((3 : Nat) : Int), 0, 80, []) L st h := run_s rfl
theorem r_X6_shareOut_80 : run E g mi_X6_shareOut d lm RT F pm_X6_shareOut (n + 1) 80 L st h = exI E d lm RT F (run E g mi_X6_shareOut d lm RT F pm_X6_shareOut n) (1, ((7 : Nat) : Int), 0, 82, []) L st h := run_s rfl
theorem r_X6_shareOut_82 : run E g mi_X6_shareOut d lm RT F pm_X6_shareOut (n + 1) 82 L st h = exI E d lm RT F (run E g mi_X6_shareOut d lm RT F pm_X6_shareOut n) (38, 0, 0, 83, []) L st h := run_s rfl
theorem r_X6_shareOut_83 : run E g mi_X6_shareOut d lm RT F pm_X6_shareOut (n + 1) 83 L st h = exI E d lm RT F (run E g mi_X6_shareOut d lm RT F pm_X6_shareOut n) (9, 0, 0, 84, []) L st h := run_s rfl
theorem r_X6_shareOut_84 : run E g mi_X6_shareOut d lm RT F pm_X6_shareOut (n + 1) 84 L st h = exI E d lm RT F (run E g mi_X6_shareOut d lm RT F pm_X6_shareOut n) (4, ((6 : Nat) : Int), 0, 86, []) L st h := run_s rfl
theorem r_X6_shareOut_86 : run E g mi_X6_shareOut d lm RT F pm_X6_shareOut (n + 1) 86 L st h = exI E d lm RT F (run E g mi_X6_shareOut d lm RT F pm_X6_shareOut n) (7, ((7 : Nat) : Int), 1, 89, []) L st h := run_s rfl
theorem r_X6_shareOut_89 : run E g mi_X6_shareOut d lm RT F pm_X6_shareOut (n + 1) 89 L st h = exI E d lm RT F (run E g mi_X6_shareOut d lm RT F pm_X6_shareOut n) (33, ((27 : Nat) : Int), 0, 0, []) L st h := run_s rfl
theorem r_X6_shareOut_92 : run E g mi_X6_shareOut d lm RT F pm_X6_shareOut (n + 1) 92 L st h = exI E d lm RT F (run E g mi_X6_shareOut d lm RT F pm_X6_shareOut n) (0, 0, 0, 93, []) L st h := run_s rfl
theorem r_X6_shareOut_93 : run E g mi_X6_shareOut d lm RT F pm_X6_shareOut (n + 1) 93 L st h = exI E d lm RT F (run E g mi_X6_shareOut d lm RT F pm_X6_shareOut n) (4, ((7 : Nat) : Int), 0, 95, []) L st h := run_s rfl
theorem r_X6_shareOut_95 : run E g mi_X6_shareOut d lm RT F pm_X6_shareOut (n + 1) 95 L st h = G E g mi_X6_shareOut d lm RT 95 L st h := run_c rfl
theorem q_X6_shareOut_95 (n : Nat) (hF : FOk E d F) (hx : exI E d lm RT F (run E g mi_X6_shareOut d lm RT F pm_X6_shareOut n) (1, ((7 : Nat) : Int), 0, 97, []) L st h) : G E g mi_X6_shareOut d lm RT 95 L st h := sstep hF (tOk_spec tk_X6_shareOut (by decide +kernel)) (run_sound hF pk_X6_shareOut n) hx
theorem r_X6_shareOut_97 : run E g mi_X6_shareOut d lm RT F pm_X6_shareOut (n + 1) 97 L st h = exI E d lm RT F (run E g mi_X6_shareOut d lm RT F pm_X6_shareOut n) (0, 8, 0, 99, []) L st h := run_s rfl
theorem r_X6_shareOut_99 : run E g mi_X6_shareOut d lm RT F pm_X6_shareOut (n + 1) 99 L st h = exI E d lm RT F (run E g mi_X6_shareOut d lm RT F pm_X6_shareOut n) (32, 3, ((121 : Nat) : Int), 102, []) L st h := run_s rfl
theorem r_X6_shareOut_102 : run E g mi_X6_shareOut d lm RT F pm_X6_shareOut (n + 1) 102 L st h = exI E d lm RT F (run E g mi_X6_shareOut d lm RT F pm_X6_shareOut n) (1, ((7 : Nat) : Int), 0, 104, []) L st h := run_s rfl
theorem r_X6_shareOut_104 : run E g mi_X6_shareOut d lm RT F pm_X6_shareOut (n + 1) 104 L st h = exI E d lm RT F (run E g mi_X6_shareOut d lm RT F pm_X6_shareOut n) (1, ((6 : Nat) : Int), 0, 106, []) L st h := run_s rfl
theorem r_X6_shareOut_106 : run E g mi_X6_shareOut d lm RT F pm_X6_shareOut (n + 1) 106 L st h = exI E d lm RT F (run E g mi_X6_shareOut d lm RT F pm_X6_shareOut n) (32, 3, ((121 : Nat) : Int), 109, []) L st h := run_s rfl
theorem r_X6_shareOut_109 : run E g mi_X6_shareOut d lm RT F pm_X6_shareOut (n + 1) 109 L st h = exI E d lm RT F (run E g mi_X6_shareOut d lm RT F pm_X6_shareOut n) (2, ((0 : Nat) : Int), 0, 110, []) L st h := run_s rfl
theorem r_X6_shareOut_110 : run E g mi_X6_shareOut d lm RT F pm_X6_shareOut (n + 1) 110 L st h = exI E d lm RT F (run E g mi_X6_shareOut d lm RT F pm_X6_shareOut n) (1, ((2 : Nat) : Int), 0, 111, []) L st h := run_s rfl
theorem r_X6_shareOut_111 : run E g mi_X6_shareOut d lm RT F pm_X6_shareOut (n + 1) 111 L st h = exI E d lm RT F (run E g mi_X6_shareOut d lm RT F pm_X6_shareOut n) (2, ((3 : Nat) : Int), 0, 112, []) L st h := run_s rfl
theorem r_X6_shareOut_112 : run E g mi_X6_shareOut d lm RT F pm_X6_shareOut (n + 1) 112 L st h = exI E d lm RT F (run E g mi_X6_shareOut d lm RT F pm_X6_shareOut n) (51, ((35 : Nat) : Int), ((3 : Nat) : Int), 115, [6]) L st h := run_s rfl
theorem r_X6_shareOut_115 : run E g mi_X6_shareOut d lm RT F pm_X6_shareOut (n + 1) 115 L st h = exI E d lm RT F (run E g mi_X6_shareOut d lm RT F pm_X6_shareOut n) (7, ((7 : Nat) : Int), 1, 118, []) L st h := run_s rfl
theorem r_X6_shareOut_118 : run E g mi_X6_shareOut d lm RT F pm_X6_shareOut (n + 1) 118 L st h = exI E d lm RT F (run E g mi_X6_shareOut d lm RT F pm_X6_shareOut n) (33, ((95 : Nat) : Int), 0, 0, []) L st h := run_s rfl
theorem r_X6_shareOut_121 : run E g mi_X6_shareOut d lm RT F pm_X6_shareOut (n + 1) 121 L st h = exI E d lm RT F (run E g mi_X6_shareOut d lm RT F pm_X6_shareOut n) (48, 4, 0, 0, []) L st h := run_s rfl
theorem e_X6_shareOut (n : Nat) {pc : Nat} (hF : FOk E d F) (hx : run E g mi_X6_shareOut d lm RT F pm_X6_shareOut n pc L st h) : G E g mi_X6_shareOut d lm RT pc L st h := run_sound hF pk_X6_shareOut n pc L st h hx
end
def mi_X6_sumOfValues : MI := (6, cX6_sumOfValues, 5, 2, false)
theorem mo_X6_sumOfValues : miOk mi_X6_sumOfValues (mt 34) = true := by decide +kernel
def tl_X6_sumOfValues : List (Nat × PT) := [(0, (27, 0, 0, 1, [])),
  (1, (6, ((2 : Nat) : Int), 0, 2, [])),
  (2, (0, 0, 0, 3, [])),
  (3, (4, ((4 : Nat) : Int), 0, 5, [])),
  (5, (1, ((4 : Nat) : Int), 0, 7, [])),
  (7, (0, 8, 0, 9, [])),
  (9, (32, 3, ((37 : Nat) : Int), 12, [])),
  (12, (1, ((1 : Nat) : Int), 0, 13, [])),
  (13, (1, ((4 : Nat) : Int), 0, 15, [])),
  (15, (45, ((69 : Nat) : Int), ((2 : Nat) : Int), 18, [])),
  (18, (31, 0, ((31 : Nat) : Int), 21, [])),
  (21, (3, ((2 : Nat) : Int), 0, 22, [])),
  (22, (2, ((0 : Nat) : Int), 0, 23, [])),
  (23, (35, ((6 : Nat) : Int), ((0 : Nat) : Int), 26, [])),
  (26, (1, ((4 : Nat) : Int), 0, 28, [])),
  (28, (38, 2, 0, 29, [])),
  (29, (19, 0, 0, 30, [])),
  (30, (6, ((2 : Nat) : Int), 0, 31, [])),
  (31, (7, ((4 : Nat) : Int), 1, 34, [])),
  (34, (33, ((5 : Nat) : Int), 0, 0, [])),
  (37, (3, ((2 : Nat) : Int), 0, 38, [])),
  (38, (48, 2, 0, 0, []))]
theorem tk_X6_sumOfValues : tOk mi_X6_sumOfValues tl_X6_sumOfValues = true := by decide +kernel
def pm_X6_sumOfValues (pc : Nat) : Option PT := if [5].contains pc then none else tl_X6_sumOfValues.lookup pc
theorem pk_X6_sumOfValues : ∀ pc pt, pm_X6_sumOfValues pc = some pt → okPt mi_X6_sumOfValues pc pt := fun pc pt h => tOk_pm tk_X6_sumOfValues h
section
variable {E : ET} {g : GT} {d : Nat} {lm : Nat × Nat} {RT : RTy} {F : FT} {n : Nat} {L : LV} {st : List AV} {h : AH}
theorem r_X6_sumOfValues_0 : run E g mi_X6_sumOfValues d lm RT F pm_X6_sumOfValues (n + 1) 0 L st h = exI E d lm RT F (run E g mi_X6_sumOfValues d lm RT F pm_X6_sumOfValues n) (27, 0, 0, 1, []) L st h := run_s rfl
theorem r_X6_sumOfValues_1 : run E g mi_X6_sumOfValues d lm RT F pm_X6_sumOfValues (n + 1) 1 L st h = exI E d lm RT F (run E g mi_X6_sumOfValues d lm RT F pm_X6_sumOfValues n) (6, ((2 : Nat) : Int), 0, 2, []) L st h := run_s rfl
theorem r_X6_sumOfValues_2 : run E g mi_X6_sumOfValues d lm RT F pm_X6_sumOfValues (n + 1) 2 L st h = exI E d lm RT F (run E g mi_X6_sumOfValues d lm RT F pm_X6_sumOfValues n) (0, 0, 0, 3, []) L st h := run_s rfl
theorem r_X6_sumOfValues_3 : run E g mi_X6_sumOfValues d lm RT F pm_X6_sumOfValues (n + 1) 3 L st h = exI E d lm RT F (run E g mi_X6_sumOfValues d lm RT F pm_X6_sumOfValues n) (4, ((4 : Nat) : Int), 0, 5, []) L st h := run_s rfl
theorem r_X6_sumOfValues_5 : run E g mi_X6_sumOfValues d lm RT F pm_X6_sumOfValues (n + 1) 5 L st h = G E g mi_X6_sumOfValues d lm RT 5 L st h := run_c rfl
theorem q_X6_sumOfValues_5 (n : Nat) (hF : FOk E d F) (hx : exI E d lm RT F (run E g mi_X6_sumOfValues d lm RT F pm_X6_sumOfValues n) (1, ((4 : Nat) : Int), 0, 7, []) L st h) : G E g mi_X6_sumOfValues d lm RT 5 L st h := sstep hF (tOk_spec tk_X6_sumOfValues (by decide +kernel)) (run_sound hF pk_X6_sumOfValues n) hx
theorem r_X6_sumOfValues_7 : run E g mi_X6_sumOfValues d lm RT F pm_X6_sumOfValues (n + 1) 7 L st h = exI E d lm RT F (run E g mi_X6_sumOfValues d lm RT F pm_X6_sumOfValues n) (0, 8, 0, 9, []) L st h := run_s rfl
theorem r_X6_sumOfValues_9 : run E g mi_X6_sumOfValues d lm RT F pm_X6_sumOfValues (n + 1) 9 L st h = exI E d lm RT F (run E g mi_X6_sumOfValues d lm RT F pm_X6_sumOfValues n) (32, 3, ((37 : Nat) : Int), 12, []) L st h := run_s rfl
theorem r_X6_sumOfValues_12 : run E g mi_X6_sumOfValues d lm RT F pm_X6_sumOfValues (n + 1) 12 L st h = exI E d lm RT F (run E g mi_X6_sumOfValues d lm RT F pm_X6_sumOfValues n) (1, ((1 : Nat) : Int), 0, 13, []) L st h := run_s rfl
theorem r_X6_sumOfValues_13 : run E g mi_X6_sumOfValues d lm RT F pm_X6_sumOfValues (n + 1) 13 L st h = exI E d lm RT F (run E g mi_X6_sumOfValues d lm RT F pm_X6_sumOfValues n) (1, ((4 : Nat) : Int), 0, 15, []) L st h := run_s rfl
theorem r_X6_sumOfValues_15 : run E g mi_X6_sumOfValues d lm RT F pm_X6_sumOfValues (n + 1) 15 L st h = exI E d lm RT F (run E g mi_X6_sumOfValues d lm RT F pm_X6_sumOfValues n) (45, ((69 : Nat) : Int), ((2 : Nat) : Int), 18, []) L st h := run_s rfl
theorem r_X6_sumOfValues_18 : run E g mi_X6_sumOfValues d lm RT F pm_X6_sumOfValues (n + 1) 18 L st h = exI E d lm RT F (run E g mi_X6_sumOfValues d lm RT F pm_X6_sumOfValues n) (31, 0, ((31 : Nat) : Int), 21, []) L st h := run_s rfl
theorem r_X6_sumOfValues_21 : run E g mi_X6_sumOfValues d lm RT F pm_X6_sumOfValues (n + 1) 21 L st h = exI E d lm RT F (run E g mi_X6_sumOfValues d lm RT F pm_X6_sumOfValues n) (3, ((2 : Nat) : Int), 0, 22, []) L st h := run_s rfl
theorem r_X6_sumOfValues_22 : run E g mi_X6_sumOfValues d lm RT F pm_X6_sumOfValues (n + 1) 22 L st h = exI E d lm RT F (run E g mi_X6_sumOfValues d lm RT F pm_X6_sumOfValues n) (2, ((0 : Nat) : Int), 0, 23, []) L st h := run_s rfl
theorem r_X6_sumOfValues_23 : run E g mi_X6_sumOfValues d lm RT F pm_X6_sumOfValues (n + 1) 23 L st h = exI E d lm RT F (run E g mi_X6_sumOfValues d lm RT F pm_X6_sumOfValues n) (35, ((6 : Nat) : Int), ((0 : Nat) : Int), 26, []) L st h := run_s rfl
theorem r_X6_sumOfValues_26 : run E g mi_X6_sumOfValues d lm RT F pm_X6_sumOfValues (n + 1) 26 L st h = exI E d lm RT F (run E g mi_X6_sumOfValues d lm RT F pm_X6_sumOfValues n) (1, ((4 : Nat) : Int), 0, 28, []) L st h := run_s rfl
theorem r_X6_sumOfValues_28 : run E g mi_X6_sumOfValues d lm RT F pm_X6_sumOfValues (n + 1) 28 L st h = exI E d lm RT F (run E g mi_X6_sumOfValues d lm RT F pm_X6_sumOfValues n) (38, 2, 0, 29, []) L st h := run_s rfl
theorem r_X6_sumOfValues_29 : run E g mi_X6_sumOfValues d lm RT F pm_X6_sumOfValues (n + 1) 29 L st h = exI E d lm RT F (run E g mi_X6_sumOfValues d lm RT F pm_X6_sumOfValues n) (19, 0, 0, 30, []) L st h := run_s rfl
theorem r_X6_sumOfValues_30 : run E g mi_X6_sumOfValues d lm RT F pm_X6_sumOfValues (n + 1) 30 L st h = exI E d lm RT F (run E g mi_X6_sumOfValues d lm RT F pm_X6_sumOfValues n) (6, ((2 : Nat) : Int), 0, 31, []) L st h := run_s rfl
theorem r_X6_sumOfValues_31 : run E g mi_X6_sumOfValues d lm RT F pm_X6_sumOfValues (n + 1) 31 L st h = exI E d lm RT F (run E g mi_X6_sumOfValues d lm RT F pm_X6_sumOfValues n) (7, ((4 : Nat) : Int), 1, 34, []) L st h := run_s rfl
theorem r_X6_sumOfValues_34 : run E g mi_X6_sumOfValues d lm RT F pm_X6_sumOfValues (n + 1) 34 L st h = exI E d lm RT F (run E g mi_X6_sumOfValues d lm RT F pm_X6_sumOfValues n) (33, ((5 : Nat) : Int), 0, 0, []) L st h := run_s rfl
theorem r_X6_sumOfValues_37 : run E g mi_X6_sumOfValues d lm RT F pm_X6_sumOfValues (n + 1) 37 L st h = exI E d lm RT F (run E g mi_X6_sumOfValues d lm RT F pm_X6_sumOfValues n) (3, ((2 : Nat) : Int), 0, 38, []) L st h := run_s rfl
theorem r_X6_sumOfValues_38 : run E g mi_X6_sumOfValues d lm RT F pm_X6_sumOfValues (n + 1) 38 L st h = exI E d lm RT F (run E g mi_X6_sumOfValues d lm RT F pm_X6_sumOfValues n) (48, 2, 0, 0, []) L st h := run_s rfl
theorem e_X6_sumOfValues (n : Nat) {pc : Nat} (hF : FOk E d F) (hx : run E g mi_X6_sumOfValues d lm RT F pm_X6_sumOfValues n pc L st h) : G E g mi_X6_sumOfValues d lm RT pc L st h := run_sound hF pk_X6_sumOfValues n pc L st h hx
end
def mi_X6_giveOne : MI := (6, cX6_giveOne, 5, 4, false)
theorem mo_X6_giveOne : miOk mi_X6_giveOne (mt 35) = true := by decide +kernel
def tl_X6_giveOne : List (Nat × PT) := [(0, (0, (-9), 0, 2, [])),
  (2, (4, ((3 : Nat) : Int), 0, 3, [])),
  (3, (0, 0, 0, 4, [])),
  (4, (4, ((4 : Nat) : Int), 0, 6, [])),
  (6, (1, ((4 : Nat) : Int), 0, 8, [])),
  (8, (0, 8, 0, 10, [])),
  (10, (32, 3, ((54 : Nat) : Int), 13, [])),
  (13, (1, ((1 : Nat) : Int), 0, 14, [])),
  (14, (1, ((4 : Nat) : Int), 0, 16, [])),
  (16, (45, ((69 : Nat) : Int), ((2 : Nat) : Int), 19, [])),
  (19, (31, 0, ((48 : Nat) : Int), 22, [])),
  (22, (1, ((3 : Nat) : Int), 0, 23, [])),
  (23, (0, (-9), 0, 25, [])),
  (25, (32, 0, ((45 : Nat) : Int), 28, [])),
  (28, (2, ((0 : Nat) : Int), 0, 29, [])),
  (29, (35, ((6 : Nat) : Int), ((2 : Nat) : Int), 32, [])),
  (32, (1, ((4 : Nat) : Int), 0, 34, [])),
  (34, (38, 2, 0, 35, [])),
  (35, (2, ((0 : Nat) : Int), 0, 36, [])),
  (36, (35, ((6 : Nat) : Int), ((2 : Nat) : Int), 39, [])),
  (39, (1, ((3 : Nat) : Int), 0, 40, [])),
  (40, (38, 2, 0, 41, [])),
  (41, (24, 0, 0, 42, [])),
  (42, (31, 5, ((48 : Nat) : Int), 45, [])),
  (45, (1, ((4 : Nat) : Int), 0, 47, [])),
  (47, (4, ((3 : Nat) : Int), 0, 48, [])),
  (48, (7, ((4 : Nat) : Int), 1, 51, [])),
  (51, (33, ((6 : Nat) : Int), 0, 0, [])),
  (54, (1, ((3 : Nat) : Int), 0, 55, [])),
  (55, (0, (-9), 0, 57, [])),
  (57, (32, 0, ((76 : Nat) : Int), 60, [])),
  (60, (2, ((2 : Nat) : Int), 0, 61, [])),
  (61, (1, ((3 : Nat) : Int), 0, 62, [])),
  (62, (29, 0, 0, 63, [])),
  (63, (38, 0, 0, 64, [])),
  (64, (0, 1, 0, 65, [])),
  (65, (8, 0, 0, 66, [])),
  (66, (39, 0, 0, 67, [])),
  (67, (2, ((0 : Nat) : Int), 0, 68, [])),
  (68, (35, ((6 : Nat) : Int), ((2 : Nat) : Int), 71, [])),
  (71, (1, ((3 : Nat) : Int), 0, 72, [])),
  (72, (27, (-1), 0, 75, [])),
  (75, (39, 2, 0, 76, [])),
  (76, (48, 4, 0, 0, []))]
theorem tk_X6_giveOne : tOk mi_X6_giveOne tl_X6_giveOne = true := by decide +kernel
def pm_X6_giveOne (pc : Nat) : Option PT := if [6].contains pc then none else tl_X6_giveOne.lookup pc
theorem pk_X6_giveOne : ∀ pc pt, pm_X6_giveOne pc = some pt → okPt mi_X6_giveOne pc pt := fun pc pt h => tOk_pm tk_X6_giveOne h
section
variable {E : ET} {g : GT} {d : Nat} {lm : Nat × Nat} {RT : RTy} {F : FT} {n : Nat} {L : LV} {st : List AV} {h : AH}
theorem r_X6_giveOne_0 : run E g mi_X6_giveOne d lm RT F pm_X6_giveOne (n + 1) 0 L st h = exI E d lm RT F (run E g mi_X6_giveOne d lm RT F pm_X6_giveOne n) (0, (-9), 0, 2, []) L st h := run_s rfl
theorem r_X6_giveOne_2 : run E g mi_X6_giveOne d lm RT F pm_X6_giveOne (n + 1) 2 L st h = exI E d lm RT F (run E g mi_X6_giveOne d lm RT F pm_X6_giveOne n) (4, ((3 : Nat) : Int), 0, 3, []) L st h := run_s rfl
theorem r_X6_giveOne_3 : run E g mi_X6_giveOne d lm RT F pm_X6_giveOne (n + 1) 3 L st h = exI E d lm RT F (run E g mi_X6_giveOne d lm RT F pm_X6_giveOne n) (0, 0, 0, 4, []) L st h := run_s rfl
theorem r_X6_giveOne_4 : run E g mi_X6_giveOne d lm RT F pm_X6_giveOne (n + 1) 4 L st h = exI E d lm RT F (run E g mi_X6_giveOne d lm RT F pm_X6_giveOne n) (4, ((4 : Nat) : Int), 0, 6, []) L st h := run_s rfl
theorem r_X6_giveOne_6 : run E g mi_X6_giveOne d lm RT F pm_X6_giveOne (n + 1) 6 L st h = G E g mi_X6_giveOne d lm RT 6 L st h := run_c rfl
theorem q_X6_giveOne_6 (n : Nat) (hF : FOk E d F) (hx : exI E d lm RT F (run E g mi_X6_giveOne d lm RT F pm_X6_giveOne n) (1, ((4 : Nat) : Int), 0, 8, []) L st h) : G E g mi_X6_giveOne d lm RT 6 L st h := sstep hF (tOk_spec tk_X6_giveOne (by decide +kernel)) (run_sound hF pk_X6_giveOne n) hx
theorem r_X6_giveOne_8 : run E g mi_X6_giveOne d lm RT F pm_X6_giveOne (n + 1) 8 L st h = exI E d lm RT F (run E g mi_X6_giveOne d lm RT F pm_X6_giveOne n) (0, 8, 0, 10, []) L st h := run_s rfl
theorem r_X6_giveOne_10 : run E g mi_X6_giveOne d lm RT F pm_X6_giveOne (n + 1) 10 L st h = exI E d lm RT F (run E g mi_X6_giveOne d lm RT F pm_X6_giveOne n) (32, 3, ((54 : Nat) : Int), 13, []) L st h := run_s rfl
theorem r_X6_giveOne_13 : run E g mi_X6_giveOne d lm RT F pm_X6_giveOne (n + 1) 13 L st h = exI E d lm RT F (run E g mi_X6_giveOne d lm RT F pm_X6_giveOne n) (1, ((1 : Nat) : Int), 0, 14, []) L st h := run_s rfl
theorem r_X6_giveOne_14 : run E g mi_X6_giveOne d lm RT F pm_X6_giveOne (n + 1) 14 L st h = exI E d lm RT F (run E g mi_X6_giveOne d lm RT F pm_X6_giveOne n) (1, ((4 : Nat) : Int), 0, 16, []) L st h := run_s rfl
theorem r_X6_giveOne_16 : run E g mi_X6_giveOne d lm RT F pm_X6_giveOne (n + 1) 16 L st h = exI E d lm RT F (run E g mi_X6_giveOne d lm RT F pm_X6_giveOne n) (45, ((69 : Nat) : Int), ((2 : Nat) : Int), 19, []) L st h := run_s rfl
theorem r_X6_giveOne_19 : run E g mi_X6_giveOne d lm RT F pm_X6_giveOne (n + 1) 19 L st h = exI E d lm RT F (run E g mi_X6_giveOne d lm RT F pm_X6_giveOne n) (31, 0, ((48 : Nat) : Int), 22, []) L st h := run_s rfl
theorem r_X6_giveOne_22 : run E g mi_X6_giveOne d lm RT F pm_X6_giveOne (n + 1) 22 L st h = exI E d lm RT F (run E g mi_X6_giveOne d lm RT F pm_X6_giveOne n) (1, ((3 : Nat) : Int), 0, 23, []) L st h := run_s rfl
theorem r_X6_giveOne_23 : run E g mi_X6_giveOne d lm RT F pm_X6_giveOne (n + 1) 23 L st h = exI E d lm RT F (run E g mi_X6_giveOne d lm RT F pm_X6_giveOne n) (0, (-9), 0, 25, []) L st h := run_s rfl
theorem r_X6_giveOne_25 : run E g mi_X6_giveOne d lm RT F pm_X6_giveOne (n + 1) 25 L st h = exI E d lm RT F (run E g mi_X6_giveOne d lm RT F pm_X6_giveOne n) (32, 0, ((45 : Nat) : Int), 28, []) L st h := run_s rfl
theorem r_X6_giveOne_28 : run E g mi_X6_giveOne d lm RT F pm_X6_giveOne (n + 1) 28 L st h = exI E d lm RT F (run E g mi_X6_giveOne d lm RT F pm_X6_giveOne n) (2, ((0 : Nat) : Int), 0, 29, []) L st h := run_s rfl
theorem r_X6_giveOne_29 : run E g mi_X6_giveOne d lm RT F pm_X6_giveOne (n + 1) 29 L st h = exI E d lm RT F (run E g mi_X6_giveOne d lm RT F pm_X6_giveOne n) (35, ((6 : Nat) : Int), ((2 : Nat) : Int), 32, []) L st h := run_s rfl
theorem r_X6_giveOne_32 : run E g mi_X6_giveOne d lm RT F pm_X6_giveOne (n + 1) 32 L st h = exI E d lm RT F (run E g mi_X6_giveOne d lm RT F pm_X6_giveOne n) (1, ((4 : Nat) : Int), 0, 34, []) L st h := run_s rfl
theorem r_X6_giveOne_34 : run E g mi_X6_giveOne d lm RT F pm_X6_giveOne (n + 1) 34 L st h = exI E d lm RT F (run E g mi_X6_giveOne d lm RT F pm_X6_giveOne n) (38, 2, 0, 35, []) L st h := run_s rfl
theorem r_X6_giveOne_35 : run E g mi_X6_giveOne d lm RT F pm_X6_giveOne (n + 1) 35 L st h = exI E d lm RT F (run E g mi_X6_giveOne d lm RT F pm_X6_giveOne n) (2, ((0 : Nat) : Int), 0, 36, []) L st h := run_s rfl
theorem r_X6_giveOne_36 : run E g mi_X6_giveOne d lm RT F pm_X6_giveOne (n + 1) 36 L st h = exI E d lm RT F (run E g mi_X6_giveOne d lm RT F pm_X6_giveOne n) (35, ((6 : Nat) : Int), ((2 : Nat) : Int), 39, []) L st h := run_s rfl
theorem r_X6_giveOne_39 : run E g mi_X6_giveOne d lm RT F pm_X6_giveOne (n + 1) 39 L st h = exI E d lm RT F (run E g mi_X6_giveOne d lm RT F pm_X6_giveOne n) (1, ((3 : Nat) : Int), 0, 40, []) L st h := run_s rfl
theorem r_X6_giveOne_40 : run E g mi_X6_giveOne d lm RT F pm_X6_giveOne (n + 1) 40 L st h = exI E d lm RT F (run E g mi_X6_giveOne d lm RT F pm_X6_giveOne n) (38, 2, 0, 41, []) L st h := run_s rfl
theorem r_X6_giveOne_41 : run E g mi_X6_giveOne d lm RT F pm_X6_giveOne (n + 1) 41 L st h = exI E d lm RT F (run E g mi_X6_giveOne d lm RT F pm_X6_giveOne n) (24, 0, 0, 42, []) L st h := run_s rfl
theorem r_X6_giveOne_42 : run E g mi_X6_giveOne d lm RT F pm_X6_giveOne (n + 1) 42 L st h = exI E d lm RT F (run E g mi_X6_giveOne d lm RT F pm_X6_giveOne n) (31, 5, ((48 : Nat) : Int), 45, []) L st h := run_s rfl
theorem r_X6_giveOne_45 : run E g mi_X6_giveOne d lm RT F pm_X6_giveOne (n + 1) 45 L st h = exI E d lm RT F (run E g mi_X6_giveOne d lm RT F pm_X6_giveOne n) (1, ((4 : Nat) : Int), 0, 47, []) L st h := run_s rfl
theorem r_X6_giveOne_47 : run E g mi_X6_giveOne d lm RT F pm_X6_giveOne (n + 1) 47 L st h = exI E d lm RT F (run E g mi_X6_giveOne d lm RT F pm_X6_giveOne n) (4, ((3 : Nat) : Int), 0, 48, []) L st h := run_s rfl
theorem r_X6_giveOne_48 : run E g mi_X6_giveOne d lm RT F pm_X6_giveOne (n + 1) 48 L st h = exI E d lm RT F (run E g mi_X6_giveOne d lm RT F pm_X6_giveOne n) (7, ((4 : Nat) : Int), 1, 51, []) L st h := run_s rfl
theorem r_X6_giveOne_51 : run E g mi_X6_giveOne d lm RT F pm_X6_giveOne (n + 1) 51 L st h = exI E d lm RT F (run E g mi_X6_giveOne d lm RT F pm_X6_giveOne n) (33, ((6 : Nat) : Int), 0, 0, []) L st h := run_s rfl
theorem r_X6_giveOne_54 : run E g mi_X6_giveOne d lm RT F pm_X6_giveOne (n + 1) 54 L st h = exI E d lm RT F (run E g mi_X6_giveOne d lm RT F pm_X6_giveOne n) (1, ((3 : Nat) : Int), 0, 55, []) L st h := run_s rfl
theorem r_X6_giveOne_55 : run E g mi_X6_giveOne d lm RT F pm_X6_giveOne (n + 1) 55 L st h = exI E d lm RT F (run E g mi_X6_giveOne d lm RT F pm_X6_giveOne n) (0, (-9), 0, 57, []) L st h := run_s rfl
theorem r_X6_giveOne_57 : run E g mi_X6_giveOne d lm RT F pm_X6_giveOne (n + 1) 57 L st h = exI E d lm RT F (run E g mi_X6_giveOne d lm RT F pm_X6_giveOne n) (32, 0, ((76 : Nat) : Int), 60, []) L st h := run_s rfl
theorem r_X6_giveOne_60 : run E g mi_X6_giveOne d lm RT F pm_X6_giveOne (n + 1) 60 L st h = exI E d lm RT F (run E g mi_X6_giveOne d lm RT F pm_X6_giveOne n) (2, ((2 : Nat) : Int), 0, 61, []) L st h := run_s rfl
theorem r_X6_giveOne_61 : run E g mi_X6_giveOne d lm RT F pm_X6_giveOne (n + 1) 61 L st h = exI E d lm RT F (run E g mi_X6_giveOne d lm RT F pm_X6_giveOne n) (1, ((3 : Nat) : Int), 0, 62, []) L st h := run_s rfl
theorem r_X6_giveOne_62 : run E g mi_X6_giveOne d lm RT F pm_X6_giveOne (n + 1) 62 L st h = exI E d lm RT F (run E g mi_X6_giveOne d lm RT F pm_X6_giveOne n) (29, 0, 0, 63, []) L st h := run_s rfl
theorem r_X6_giveOne_63 : run E g mi_X6_giveOne d lm RT F pm_X6_giveOne (n + 1) 63 L st h = exI E d lm RT F (run E g mi_X6_giveOne d lm RT F pm_X6_giveOne n) (38, 0, 0, 64, []) L st h := run_s rfl
theorem r_X6_giveOne_64 : run E g mi_X6_giveOne d lm RT F pm_X6_giveOne (n + 1) 64 L st h = exI E d lm RT F (run E g mi_X6_giveOne d lm RT F pm_X6_giveOne n) (0, 1, 0, 65, []) L st h := run_s rfl
theorem r_X6_giveOne_65 : run E g mi_X6_giveOne d lm RT F pm_X6_giveOne (n + 1) 65 L st h = exI E d lm RT F (run E g mi_X6_giveOne d lm RT F pm_X6_giveOne n) (8, 0, 0, 66, []) L st h := run_s rfl
theorem r_X6_giveOne_66 : run E g mi_X6_giveOne d lm RT F pm_X6_giveOne (n + 1) 66 L st h = exI E d lm RT F (run E g mi_X6_giveOne d lm RT F pm_X6_giveOne n) (39, 0, 0, 67, []) L st h := run_s rfl
theorem r_X6_giveOne_67 : run E g mi_X6_giveOne d lm RT F pm_X6_giveOne (n + 1) 67 L st h = exI E d lm RT F (run E g mi_X6_giveOne d lm RT F pm_X6_giveOne n) (2, ((0 : Nat) : Int), 0, 68, []) L st h := run_s rfl
theorem r_X6_giveOne_68 : run E g mi_X6_giveOne d lm RT F pm_X6_giveOne (n + 1) 68 L st h = exI E d lm RT F (run E g mi_X6_giveOne d lm RT F pm_X6_giveOne n) (35, ((6 : Nat) : Int), ((2 : Nat) : Int), 71, []) L st h := run_s rfl
theorem r_X6_giveOne_71 : run E g mi_X6_giveOne d lm RT F pm_X6_giveOne (n + 1) 71 L st h = exI E d lm RT F (run E g mi_X6_giveOne d lm RT F pm_X6_giveOne n) (1, ((3 : Nat) : Int), 0, 72, []) L st h := run_s rfl
theorem r_X6_giveOne_72 : run E g mi_X6_giveOne d lm RT F pm_X6_giveOne (n + 1) 72 L st h = exI E d lm RT F (run E g mi_X6_giveOne d lm RT F pm_X6_giveOne n) (27, (-1), 0, 75, []) L st h := run_s rfl
theorem r_X6_giveOne_75 : run E g mi_X6_giveOne d lm RT F pm_X6_giveOne (n + 1) 75 L st h = exI E d lm RT F (run E g mi_X6_giveOne d lm RT F pm_X6_giveOne n) (39, 2, 0, 76, []) L st h := run_s rfl
theorem r_X6_giveOne_76 : run E g mi_X6_giveOne d lm RT F pm_X6_giveOne (n + 1) 76 L st h = exI E d lm RT F (run E g mi_X6_giveOne d lm RT F pm_X6_giveOne n) (48, 4, 0, 0, []) L st h := run_s rfl
theorem e_X6_giveOne (n : Nat) {pc : Nat} (hF : FOk E d F) (hx : run E g mi_X6_giveOne d lm RT F pm_X6_giveOne n pc L st h) : G E g mi_X6_giveOne d lm RT pc L st h := run_sound hF pk_X6_giveOne n pc L st h hx
end
def mi_X7_init : MI := (7, cX7_init, 1, 4, true)
theorem mo_X7_init : miOk mi_X7_init (mt 36) = true := by decide +kernel
def tl_X7_init : List (Nat × PT) := [(0, (2, ((0 : Nat) : Int), 0, 1, [])),
  (1, (47, 0, 0, 4, [])),
  (4, (2, ((0 : Nat) : Int), 0, 5, [])),
  (5, (0, 8, 0, 7, [])),
  (7, (42, 0, 0, 9, [])),
  (9, (37, ((7 : Nat) : Int), ((0 : Nat) : Int), 12, [3])),
  (12, (2, ((0 : Nat) : Int), 0, 13, [])),
  (13, (0, 8, 0, 15, [])),
  (15, (42, 0, 0, 17, [])),
  (17, (37, ((7 : Nat) : Int), ((1 : Nat) : Int), 20, [3])),
  (20, (2, ((0 : Nat) : Int), 0, 21, [])),
  (21, (0, 0, 0, 22, [])),
  (22, (36, ((7 : Nat) : Int), ((2 : Nat) : Int), 25, [0])),
  (25, (2, ((0 : Nat) : Int), 0, 26, [])),
  (26, (0, 0, 0, 27, [])),
  (27, (36, ((7 : Nat) : Int), ((3 : Nat) : Int), 30, [1])),
  (30, (2, ((0 : Nat) : Int), 0, 31, [])),
  (31, (0, 0, 0, 32, [])),
  (32, (36, ((7 : Nat) : Int), ((4 : Nat) : Int), 35, [1])),
  (35, (2, ((0 : Nat) : Int), 0, 36, [])),
  (36, (0, 0, 0, 37, [])),
  (37, (36, ((7 : Nat) : Int), ((5 : Nat) : Int), 40, [0])),
  (40, (2, ((0 : Nat) : Int), 0, 41, [])),
  (41, (0, 0, 0, 42, [])),
  (42, (36, ((7 : Nat) : Int), ((6 : Nat) : Int), 45, [0])),
  (45, (2, ((0 : Nat) : Int), 0, 46, [])),
  (46, (0, 0, 0, 47, [])),
  (47, (36, ((7 : Nat) : Int), ((7 : Nat) : Int), 50, [0])),
  (50, (2, ((0 : Nat) : Int), 0, 51, [])),
  (51, (0, (-9), 0, 53, [])),
  (53, (36, ((7 : Nat) : Int), ((8 : Nat) : Int), 56, [0])),
  (56, (2, ((0 : Nat) : Int), 0, 57, [])),
  (57, (0, 0, 0, 58, [])),
  (58, (36, ((7 : Nat) : Int), ((9 : Nat) : Int), 61, [0])),
  (61, (2, ((0 : Nat) : Int), 0, 62, [])),
  (62, (0, 0, 0, 63, [])),
  (63, (36, ((7 : Nat) : Int), ((10 : Nat) : Int), 66, [0])),
  (66, (2, ((0 : Nat) : Int), 0, 67, [])),
  (67, (0, 0, 0, 68, [])),
  (68, (36, ((7 : Nat) : Int), ((11 : Nat) : Int), 71, [0])),
  (71, (2, ((0 : Nat) : Int), 0, 72, [])),
  (72, (0, 0, 0, 73, [])),
  (73, (36, ((7 : Nat) : Int), ((12 : Nat) : Int), 76, [0])),
  (76, (48, 4, 0, 0, []))]
theorem tk_X7_init : tOk mi_X7_init tl_X7_init = true := by decide +kernel
def pm_X7_init (pc : Nat) : Option PT := if [].contains pc then none else tl_X7_init.lookup pc
theorem pk_X7_init : ∀ pc pt, pm_X7_init pc = some pt → okPt mi_X7_init pc pt := fun pc pt h => tOk_pm tk_X7_init h
section
variable {E : ET} {g : GT} {d : Nat} {lm : Nat × Nat} {RT : RTy} {F : FT} {n : Nat} {L : LV} {st : List AV} {h : AH}
theorem r_X7_init_0 : run E g mi_X7_init d lm RT F pm_X7_init (n + 1) 0 L st h = exI E d lm RT F (run E g mi_X7_init d lm RT F pm_X7_init n) (2, ((0 : Nat) : Int), 0, 1, []) L st h := run_s rfl
theorem r_X7_init_1 : run E g mi_X7_init d lm RT F pm_X7_init (n + 1) 1 L st h = exI E d lm RT F (run E g mi_X7_init d lm RT F pm_X7_init n) (47, 0, 0, 4, []) L st h := run_s rfl
theorem r_X7_init_4 : run E g mi_X7_init d lm RT F pm_X7_init (n + 1) 4 L st h = exI E d lm RT F (run E g mi_X7_init d lm RT F pm_X7_init n) (2, ((0 : Nat) : Int), 0, 5, []) L st h := run_s rfl
theorem r_X7_init_5 : run E g mi_X7_init d lm RT F pm_X7_init (n + 1) 5 L st h = exI E d lm RT F (run E g mi_X7_init d lm RT F pm_X7_init n) (0, 8, 0, 7, []) L st h := run_s rfl
theorem r_X7_init_7 : run E g mi_X7_init d lm RT F pm_X7_init (n + 1) 7 L st h = exI E d lm RT F (run E g mi_X7_init d lm RT F pm_X7_init n) (42, 0, 0, 9, []) L st h := run_s rfl
theorem r_X7_init_9 : run E g mi_X7_init d lm RT F pm_X7_init (n + 1) 9 L st h = exI E d lm RT F (run E g mi_X7_init d lm RT F pm_X7_init n) (37, ((7 : Nat) : Int), ((0 : Nat) : Int), 12, [3]) L st h := run_s rfl
theorem r_X7_init_12 : run E g mi_X7_init d lm RT F pm_X7_init (n + 1) 12 L st h = exI E d lm RT F (run E g mi_X7_init d lm RT F pm_X7_init n) (2, ((0 : Nat) : Int), 0, 13, []) L st h := run_s rfl
theorem r_X7_init_13 : run E g mi_X7_init d lm RT F pm_X7_init (n + 1) 13 L st h = exI E d lm RT F (run E g mi_X7_init d lm RT F pm_X7_init n) (0, 8, 0, 15, []) L st h := run_s rfl
theorem r_X7_init_15 : run E g mi_X7_init d lm RT F pm_X7_init (n + 1) 15 L st h = exI E d lm RT F (run E g mi_X7_init d lm RT F pm_X7_init n) (42, 0, 0, 17, []) L st h := run_s rfl
theorem r_X7_init_17 : run E g mi_X7_init d lm RT F pm_X7_init (n + 1) 17 L st h = exI E d lm RT F (run E g mi_X7_init d lm RT F pm_X7_init n) (37, ((7 : Nat) : Int), ((1 : Nat) : Int), 20, [3]) L st h := run_s rfl
theorem r_X7_init_20 : run E g mi_X7_init d lm RT F pm_X7_init (n + 1) 20 L st h = exI E d lm RT F (run E g mi_X7_init d lm RT F pm_X7_init n) (2, ((0 : Nat) : Int), 0, 21, []) L st h := run_s rfl
theorem r_X7_init_21 : run E g mi_X7_init d lm RT F pm_X7_init (n + 1) 21 L st h = exI E d lm RT F (run E g mi_X7_init d lm RT F pm_X7_init n) (0, 0, 0, 22, []) L st h := run_s rfl
theorem r_X7_init_22 : run E g mi_X7_init d lm RT F pm_X7_init (n + 1) 22 L st h = exI E d lm RT F (run E g mi_X7_init d lm RT F pm_X7_init n) (36, ((7 : Nat) : Int), ((2 : Nat) : Int), 25, [0]) L st h := run_s rfl
theorem r_X7_init_25 : run E g mi_X7_init d lm RT F pm_X7_init (n + 1) 25 L st h = exI E d lm RT F (run E g mi_X7_init d lm RT F pm_X7_init n) (2, ((0 : Nat) : Int), 0, 26, []) L st h := run_s rfl
theorem r_X7_init_26 : run E g mi_X7_init d lm RT F pm_X7_init (n + 1) 26 L st h = exI E d lm RT F (run E g mi_X7_init d lm RT F pm_X7_init n) (0, 0, 0, 27, []) L st h := run_s rfl
theorem r_X7_init_27 : run E g mi_X7_init d lm RT F pm_X7_init (n + 1) 27 L st h = exI E d lm RT F (run E g mi_X7_init d lm RT F pm_X7_init n) (36, ((7 : Nat) : Int), ((3 : Nat) : Int), 30, [1]) L st h := run_s rfl
theorem r_X7_init_30 : run E g mi_X7_init d lm RT F pm_X7_init (n + 1) 30 L st h = exI E d lm RT F (run E g mi_X7_init d lm RT F pm_X7_init n) (2, ((0 : Nat) : Int), 0, 31, []) L st h := run_s rfl
theorem r_X7_init_31 : run E g mi_X7_init d lm RT F pm_X7_init (n + 1) 31 L st h = exI E d lm RT F (run E g mi_X7_init d lm RT F pm_X7_init n) (0, 0, 0, 32, []) L st h := run_s rfl
theorem r_X7_init_32 : run E g mi_X7_init d lm RT F pm_X7_init (n + 1) 32 L st h = exI E d lm RT F (run E g mi_X7_init d lm RT F pm_X7_init n) (36, ((7 : Nat) : Int), ((4 : Nat) : Int), 35, [1]) L st h := run_s rfl
theorem r_X7_init_35 : run E g mi_X7_init d lm RT F pm_X7_init (n + 1) 35 L st h = exI E d lm RT F (run E g mi_X7_init d lm RT F pm_X7_init n) (2, ((0 : Nat) : Int), 0, 36, []) L st h := run_s rfl
theorem r_X7_init_36 : run E g mi_X7_init d lm RT F pm_X7_init (n + 1) 36 L st h = exI E d lm RT F (run E g mi_X7_init d lm RT F pm_X7_init n) (0, 0, 0, 37, []) L st h := run_s rfl
theorem r_X7_init_37 : run E g mi_X7_init d lm RT F pm_X7_init (n + 1) 37 L st h = exI E d lm RT F (run E g mi_X7_init d lm RT F pm_X7_init n) (36, ((7 : Nat) : Int), ((5 : Nat) : Int), 40, [0]) L st h := run_s rfl
theorem r_X7_init_40 : run E g mi_X7_init d lm RT F pm_X7_init (n + 1) 40 L st h = exI E d lm RT F (run E g mi_X7_init d lm RT F pm_X7_init n) (2, ((0 : Nat) : Int), 0, 41, []) L st h := run_s rfl
theorem r_X7_init_41 : run E g mi_X7_init d lm RT F pm_X7_init (n + 1) 41 L st h = exI E d lm RT F (run E g mi_X7_init d lm RT F pm_X7_init n) (0, 0, 0, 42, []) L st h := run_s rfl
theorem r_X7_init_42 : run E g mi_X7_init d lm RT F pm_X7_init (n + 1) 42 L st h = exI E d lm RT F (run E g mi_X7_init d lm RT F pm_X7_init n) (36, ((7 : Nat) : Int), ((6 : Nat) : Int), 45, [0]) L st h := run_s rfl
theorem r_X7_init_45 : run E g mi_X7_init d lm RT F pm_X7_init (n + 1) 45 L st h = exI E d lm RT F (run E g mi_X7_init d lm RT F pm_X7_init n) (2, ((0 : Nat) : Int), 0, 46, []) L st h := run_s rfl
theorem r_X7_init_46 : run E g mi_X7_init d lm RT F pm_X7_init (n + 1) 46 L st h = exI E d lm RT F (run E g mi_X7_init d lm RT F pm_X7_init n) (0, 0, 0, 47, []) L st h := run_s rfl
theorem r_X7_init_47 : run E g mi_X7_init d lm RT F pm_X7_init (n + 1) 47 L st h = exI E d lm RT F (run E g mi_X7_init d lm RT F pm_X7_init n) (36, ((7 : Nat) : Int), ((7 : Nat) : Int), 50, [0]) L st h := run_s rfl
theorem r_X7_init_50 : run E g mi_X7_init d lm RT F pm_X7_init (n + 1) 50 L st h = exI E d lm RT F (run E g mi_X7_init d lm RT F pm_X7_init n) (2, ((0 : Nat) : Int), 0, 51, []) L st h := run_s rfl
theorem r_X7_init_51 : run E g mi_X7_init d lm RT F pm_X7_init (n + 1) 51 L st h = exI E d lm RT F (run E g mi_X7_init d lm RT F pm_X7_init n) (0, (-9), 0, 53, []) L st h := run_s rfl
theorem r_X7_init_53 : run E g mi_X7_init d lm RT F pm_X7_init (n + 1) 53 L st h = exI E d lm RT F (run E g mi_X7_init d lm RT F pm_X7_init n) (36, ((7 : Nat) : Int), ((8 : Nat) : Int), 56, [0]) L st h := run_s rfl
theorem r_X7_init_56 : run E g mi_X7_init d lm RT F pm_X7_init (n + 1) 56 L st h = exI E d lm RT F (run E g mi_X7_init d lm RT F pm_X7_init n) (2, ((0 : Nat) : Int), 0, 57, []) L st h := run_s rfl
theorem r_X7_init_57 : run E g mi_X7_init d lm RT F pm_X7_init (n + 1) 57 L st h = exI E d lm RT F (run E g mi_X7_init d lm RT F pm_X7_init n) (0, 0, 0, 58, []) L st h := run_s rfl
theorem r_X7_init_58 : run E g mi_X7_init d lm RT F pm_X7_init (n + 1) 58 L st h = exI E d lm RT F (run E g mi_X7_init d lm RT F pm_X7_init n) (36, ((7 : Nat) : Int), ((9 : Nat) : Int), 61, [0]) L st h := run_s rfl
theorem r_X7_init_61 : run E g mi_X7_init d lm RT F pm_X7_init (n + 1) 61 L st h = exI E d lm RT F (run E g mi_X7_init d lm RT F pm_X7_init n) (2, ((0 : Nat) : Int), 0, 62, []) L st h := run_s rfl
theorem r_X7_init_62 : run E g mi_X7_init d lm RT F pm_X7_init (n + 1) 62 L st h = exI E d lm RT F (run E g mi_X7_init d lm RT F pm_X7_init n) (0, 0, 0, 63, []) L st h := run_s rfl
theorem r_X7_init_63 : run E g mi_X7_init d lm RT F pm_X7_init (n + 1) 63 L st h = exI E d lm RT F (run E g mi_X7_init d lm RT F pm_X7_init n) (36, ((7 : Nat) : Int), ((10 : Nat) : Int), 66, [0]) L st h := run_s rfl
theorem r_X7_init_66 : run E g mi_X7_init d lm RT F pm_X7_init (n + 1) 66 L st h = exI E d lm RT F (run E g mi_X7_init d lm RT F pm_X7_init n) (2, ((0 : Nat) : Int), 0, 67, []) L st h := run_s rfl
theorem r_X7_init_67 : run E g mi_X7_init d lm RT F pm_X7_init (n + 1) 67 L st h = exI E d lm RT F (run E g mi_X7_init d lm RT F pm_X7_init n) (0, 0, 0, 68, []) L st h := run_s rfl
theorem r_X7_init_68 : run E g mi_X7_init d lm RT F pm_X7_init (n + 1) 68 L st h = exI E d lm RT F (run E g mi_X7_init d lm RT F pm_X7_init n) (36, ((7 : Nat) : Int), ((11 : Nat) : Int), 71, [0]) L st h := run_s rfl
theorem r_X7_init_71 : run E g mi_X7_init d lm RT F pm_X7_init (n + 1) 71 L st h = exI E d lm RT F (run E g mi_X7_init d lm RT F pm_X7_init n) (2, ((0 : Nat) : Int), 0, 72, []) L st h := run_s rfl
theorem r_X7_init_72 : run E g mi_X7_init d lm RT F pm_X7_init (n + 1) 72 L st h = exI E d lm RT F (run E g mi_X7_init d lm RT F pm_X7_init n) (0, 0, 0, 73, []) L st h := run_s rfl
theorem r_X7_init_73 : run E g mi_X7_init d lm RT F pm_X7_init (n + 1) 73 L st h = exI E d lm RT F (run E g mi_X7_init d lm RT F pm_X7_init n) (36, ((7 : Nat) : Int), ((12 : Nat) : Int), 76, [0]) L st h := run_s rfl
theorem r_X7_init_76 : run E g mi_X7_init d lm RT F pm_X7_init (n + 1) 76 L st h = exI E d lm RT F (run E g mi_X7_init d lm RT F pm_X7_init n) (48, 4, 0, 0, []) L st h := run_s rfl
theorem e_X7_init (n : Nat) {pc : Nat} (hF : FOk E d F) (hx : run E g mi_X7_init d lm RT F pm_X7_init n pc L st h) : G E g mi_X7_init d lm RT pc L st h := run_sound hF pk_X7_init n pc L st h hx
end
def mi_X7_setOut : MI := (7, cX7_setOut, 5, 4, false)
theorem mo_X7_setOut : miOk mi_X7_setOut (mt 37) = true := by decide +kernel
def tl_X7_setOut : List (Nat × PT) := [(0, (2, ((0 : Nat) : Int), 0, 1, [])),
  (1, (0, 1, 0, 2, [])),
  (2, (36, ((7 : Nat) : Int), ((3 : Nat) : Int), 5, [1])),
  (5, (2, ((0 : Nat) : Int), 0, 6, [])),
  (6, (0, 0, 0, 7, [])),
  (7, (36, ((7 : Nat) : Int), ((4 : Nat) : Int), 10, [1])),
  (10, (2, ((0 : Nat) : Int), 0, 11, [])),
  (11, (1, ((1 : Nat) : Int), 0, 12, [])),
  (12, (36, ((7 : Nat) : Int), ((5 : Nat) : Int), 15, [0])),
  (15, (2, ((0 : Nat) : Int), 0, 16, [])),
  (16, (1, ((2 : Nat) : Int), 0, 17, [])),
  (17, (36, ((7 : Nat) : Int), ((6 : Nat) : Int), 20, [0])),
  (20, (2, ((0 : Nat) : Int), 0, 21, [])),
  (21, (1, ((3 : Nat) : Int), 0, 22, [])),
  (22, (36, ((7 : Nat) : Int), ((7 : Nat) : Int), 25, [0])),
  (25, (2, ((0 : Nat) : Int), 0, 26, [])),
  (26, (0, (-9), 0, 28, [])),
  (28, (36, ((7 : Nat) : Int), ((8 : Nat) : Int), 31, [0])),
  (31, (2, ((0 : Nat) : Int), 0, 32, [])),
  (32, (0, 0, 0, 33, [])),
  (33, (36, ((7 : Nat) : Int), ((11 : Nat) : Int), 36, [0])),
  (36, (2, ((0 : Nat) : Int), 0, 37, [])),
  (37, (0, 0, 0, 38, [])),
  (38, (36, ((7 : Nat) : Int), ((2 : Nat) : Int), 41, [0])),
  (41, (2, ((0 : Nat) : Int), 0, 42, [])),
  (42, (1, ((2 : Nat) : Int), 0, 43, [])),
  (43, (1, ((4 : Nat) : Int), 0, 45, [])),
  (45, (51, ((38 : Nat) : Int), ((3 : Nat) : Int), 48, [7])),
  (48, (48, 4, 0, 0, []))]
theorem tk_X7_setOut : tOk mi_X7_setOut tl_X7_setOut = true := by decide +kernel
def pm_X7_setOut (pc : Nat) : Option PT := if [].contains pc then none else tl_X7_setOut.lookup pc
theorem pk_X7_setOut : ∀ pc pt, pm_X7_setOut pc = some pt → okPt mi_X7_setOut pc pt := fun pc pt h => tOk_pm tk_X7_setOut h
section
variable {E : ET} {g : GT} {d : Nat} {lm : Nat × Nat} {RT : RTy} {F : FT} {n : Nat} {L : LV} {st : List AV} {h : AH}
theorem r_X7_setOut_0 : run E g mi_X7_setOut d lm RT F pm_X7_setOut (n + 1) 0 L st h = exI E d lm RT F (run E g mi_X7_setOut d lm RT F pm_X7_setOut n) (2, ((0 : Nat) : Int), 0, 1, []) L st h := run_s rfl
theorem r_X7_setOut_1 : run E g mi_X7_setOut d lm RT F pm_X7_setOut (n + 1) 1 L st h = exI E d lm RT F (run E g mi_X7_setOut d lm RT F pm_X7_setOut n) (0, 1, 0, 2, []) L st h := run_s rfl
theorem r_X7_setOut_2 : run E g mi_X7_setOut d lm RT F pm_X7_setOut (n + 1) 2 L st h = exI E d lm RT F (run E g mi_X7_setOut d lm RT F pm_X7_setOut n) (36, ((7 : Nat) : Int), ((3 : Nat) : Int), 5, [1]) L st h := run_s rfl
theorem r_X7_setOut_5 : run E g mi_X7_setOut d lm RT F pm_X7_setOut (n + 1) 5 L st h = exI E d lm RT F (run E g mi_X7_setOut d lm RT F pm_X7_setOut n) (2, ((0 : Nat) : Int), 0, 6, []) L st h := run_s rfl
theorem r_X7_setOut_6 : run E g mi_X7_setOut d lm RT F pm_X7_setOut (n + 1) 6 L st h = exI E d lm RT F (run E g mi_X7_setOut d lm RT F pm_X7_setOut n) (0, 0, 0, 7, []) L st h := run_s rfl
theorem r_X7_setOut_7 : run E g mi_X7_setOut d lm RT F pm_X7_setOut (n + 1) 7 L st h = exI E d lm RT F (run E g mi_X7_setOut d lm RT F pm_X7_setOut n) (36, ((7 : Nat) : Int), ((4 : Nat) : Int), 10, [1]) L st h := run_s rfl
theorem r_X7_setOut_10 : run E g mi_X7_setOut d lm RT F pm_X7_setOut (n + 1) 10 L st h = exI E d lm RT F (run E g mi_X7_setOut d lm RT F pm_X7_setOut n) (2, ((0 : Nat) : Int), 0, 11, []) L st h := run_s rfl
theorem r_X7_setOut_11 : run E g mi_X7_setOut d lm RT F pm_X7_setOut (n + 1) 11 L st h = exI E d lm RT F (run E g mi_X7_setOut d lm RT F pm_X7_setOut n) (1, ((1 : Nat) : Int), 0, 12, []) L st h := run_s rfl
theorem r_X7_setOut_12 : run E g mi_X7_setOut d lm RT F pm_X7_setOut (n + 1) 12 L st h = exI E d lm RT F (run E g mi_X7_setOut d lm RT F pm_X7_setOut n) (36, ((7 : Nat) : Int), ((5 : Nat) : Int), 15, [0]) L st h := run_s rfl
theorem r_X7_setOut_15 : run E g mi_X7_setOut d lm RT F pm_X7_setOut (n + 1) 15 L st h = exI E d lm RT F (run E g mi_X7_setOut d lm RT F pm_X7_setOut n) (2, ((0 : Nat) : Int), 0, 16, []) L st h := run_s rfl
theorem r_X7_setOut_16 : run E g mi_X7_setOut d lm RT F pm_X7_setOut (n + 1) 16 L st h = exI E d lm RT F (run E g mi_X7_setOut d lm RT F pm_X7_setOut n) (1, ((2 : Nat) : Int), 0, 17, []) L st h := run_s rfl
theorem r_X7_setOut_17 : run E g mi_X7_setOut d lm RT F pm_X7_setOut (n + 1) 17 L st h = exI E d lm RT F (run E g mi_X7_setOut d lm RT F pm_X7_setOut n) (36, ((7 : Nat) : Int), ((6 : Nat) : Int), 20, [0]) L st h := run_s rfl
theorem r_X7_setOut_20 : run E g mi_X7_setOut d lm RT F pm_X7_setOut (n + 1) 20 L st h = exI E d lm RT F (run E g mi_X7_setOut d lm RT F pm_X7_setOut n) (2, ((0 : Nat) : Int), 0, 21, []) L st h := run_s rfl
theorem r_X7_setOut_21 : run E g mi_X7_setOut d lm RT F pm_X7_setOut (n + 1) 21 L st h = exI E d lm RT F (run E g mi_X7_setOut d lm RT F pm_X7_setOut n) (1, ((3 : Nat) : Int), 0, 22, []) L st h := run_s rfl
theorem r_X7_setOut_22 : run E g mi_X7_setOut d lm RT F pm_X7_setOut (n + 1) 22 L st h = exI E d lm RT F (run E g mi_X7_setOut d lm RT F pm_X7_setOut n) (36, ((7 : Nat) : Int), ((7 : Nat) : Int), 25, [0]) L st h := run_s rfl
theorem r_X7_setOut_25 : run E g mi_X7_setOut d lm RT F pm_X7_setOut (n + 1) 25 L st h = exI E d lm RT F (run E g mi_X7_setOut d lm RT F pm_X7_setOut n) (2, ((0 : Nat) : Int), 0, 26, []) L st h := run_s rfl
theorem r_X7_setOut_26 : run E g mi_X7_setOut d lm RT F pm_X7_setOut (n + 1) 26 L st h = exI E d lm RT F (run E g mi_X7_setOut d lm RT F pm_X7_setOut n) (0, (-9), 0, 28, []) L st h := run_s rfl
theorem r_X7_setOut_28 : run E g mi_X7_setOut d lm RT F pm_X7_setOut (n + 1) 28 L st h = exI E d lm RT F (run E g mi_X7_setOut d lm RT F pm_X7_setOut n) (36, ((7 : Nat) : Int), ((8 : Nat) : Int), 31, [0]) L st h := run_s rfl
theorem r_X7_setOut_31 : run E g mi_X7_setOut d lm RT F pm_X7_setOut (n + 1) 31 L st h = exI E d lm RT F (run E g mi_X7_setOut d lm RT F pm_X7_setOut n) (2, ((0 : Nat) : Int), 0, 32, []) L st h := run_s rfl
theorem r_X7_setOut_32 : run E g mi_X7_setOut d lm RT F pm_X7_setOut (n + 1) 32 L st h = exI E d lm RT F (run E g mi_X7_setOut d lm RT F pm_X7_setOut n) (0, 0, 0, 33, []) L st h := run_s rfl
theorem r_X7_setOut_33 : run E g mi_X7_setOut d lm RT F pm_X7_setOut (n + 1) 33 L st h = exI E d lm RT F (run E g mi_X7_setOut d lm RT F pm_X7_setOut n) (36, ((7 : Nat) : Int), ((11 : Nat) : Int), 36, [0]) L st h := run_s rfl
theorem r_X7_setOut_36 : run E g mi_X7_setOut d lm RT F pm_X7_setOut (n + 1) 36 L st h = exI E d lm RT F (run E g mi_X7_setOut d lm RT F pm_X7_setOut n) (2, ((0 : Nat) : Int), 0, 37, []) L st h := run_s rfl
theorem r_X7_setOut_37 : run E g mi_X7_setOut d lm RT F pm_X7_setOut (n + 1) 37 L st h = exI E d lm RT F (run E g mi_X7_setOut d lm RT F pm_X7_setOut n) (0, 0, 0, 38, []) L st h := run_s rfl
theorem r_X7_setOut_38 : run E g mi_X7_setOut d lm RT F pm_X7_setOut (n + 1) 38 L st h = exI E d lm RT F (run E g mi_X7_setOut d lm RT F pm_X7_setOut n) (36, ((7 : Nat) : Int), ((2 : Nat) : Int), 41, [0]) L st h := run_s rfl
theorem r_X7_setOut_41 : run E g mi_X7_setOut d lm RT F pm_X7_setOut (n + 1) 41 L st h = exI E d lm RT F (run E g mi_X7_setOut d lm RT F pm_X7_setOut n) (2, ((0 : Nat) : Int), 0, 42, []) L st h := run_s rfl
theorem r_X7_setOut_42 : run E g mi_X7_setOut d lm RT F pm_X7_setOut (n + 1) 42 L st h = exI E d lm RT F (run E g mi_X7_setOut d lm RT F pm_X7_setOut n) (1, ((2 : Nat) : Int), 0, 43, []) L st h := run_s rfl
theorem r_X7_setOut_43 : run E g mi_X7_setOut d lm RT F pm_X7_setOut (n + 1) 43 L st h = exI E d lm RT F (run E g mi_X7_setOut d lm RT F pm_X7_setOut n) (1, ((4 : Nat) : Int), 0, 45, []) L st h := run_s rfl
theorem r_X7_setOut_45 : run E g mi_X7_setOut d lm RT F pm_X7_setOut (n + 1) 45 L st h = exI E d lm RT F (run E g mi_X7_setOut d lm RT F pm_X7_setOut n) (51, ((38 : Nat) : Int), ((3 : Nat) : Int), 48, [7]) L st h := run_s rfl
theorem r_X7_setOut_48 : run E g mi_X7_setOut d lm RT F pm_X7_setOut (n + 1) 48 L st h = exI E d lm RT F (run E g mi_X7_setOut d lm RT F pm_X7_setOut n) (48, 4, 0, 0, []) L st h := run_s rfl
theorem e_X7_setOut (n : Nat) {pc : Nat} (hF : FOk E d F) (hx : run E g mi_X7_setOut d lm RT F pm_X7_setOut n pc L st h) : G E g mi_X7_setOut d lm RT pc L st h := run_sound hF pk_X7_setOut n pc L st h hx
end
def mi_X7_remember : MI := (7, cX7_remember, 4, 4, false)
theorem mo_X7_remember : miOk mi_X7_remember (mt 38) = true := by decide +kernel
def tl_X7_remember : List (Nat × PT) := [(0, (0, 0, 0, 1, [])),
  (1, (4, ((3 : Nat) : Int), 0, 2, [])),
  (2, (1, ((3 : Nat) : Int), 0, 3, [])),
  (3, (2, ((0 : Nat) : Int), 0, 4, [])),
  (4, (35, ((7 : Nat) : Int), ((2 : Nat) : Int), 7, [])),
  (7, (32, 3, ((34 : Nat) : Int), 10, [])),
  (10, (2, ((0 : Nat) : Int), 0, 11, [])),
  (11, (35, ((7 : Nat) : Int), ((0 : Nat) : Int), 14, [])),
  (14, (1, ((3 : Nat) : Int), 0, 15, [])),
  (15, (38, 0, 0, 16, [])),
  (16, (1, ((1 : Nat) : Int), 0, 17, [])),
  (17, (32, 1, ((28 : Nat) : Int), 20, [])),
  (20, (2, ((0 : Nat) : Int), 0, 21, [])),
  (21, (1, ((3 : Nat) : Int), 0, 22, [])),
  (22, (0, 1, 0, 23, [])),
  (23, (8, 0, 0, 24, [])),
  (24, (36, ((7 : Nat) : Int), ((2 : Nat) : Int), 27, [0])),
  (27, (48, 4, 0, 0, [])),
  (28, (7, ((3 : Nat) : Int), 1, 31, [])),
  (31, (33, ((2 : Nat) : Int), 0, 0, [])),
  (34, (2, ((0 : Nat) : Int), 0, 35, [])),
  (35, (35, ((7 : Nat) : Int), ((2 : Nat) : Int), 38, [])),
  (38, (0, 8, 0, 40, [])),
  (40, (32, 3, ((73 : Nat) : Int), 43, [])),
  (43, (2, ((0 : Nat) : Int), 0, 44, [])),
  (44, (35, ((7 : Nat) : Int), ((0 : Nat) : Int), 47, [])),
  (47, (2, ((0 : Nat) : Int), 0, 48, [])),
  (48, (35, ((7 : Nat) : Int), ((2 : Nat) : Int), 51, [])),
  (51, (1, ((1 : Nat) : Int), 0, 52, [])),
  (52, (39, 0, 0, 53, [])),
  (53, (2, ((0 : Nat) : Int), 0, 54, [])),
  (54, (35, ((7 : Nat) : Int), ((1 : Nat) : Int), 57, [])),
  (57, (2, ((0 : Nat) : Int), 0, 58, [])),
  (58, (35, ((7 : Nat) : Int), ((2 : Nat) : Int), 61, [])),
  (61, (1, ((2 : Nat) : Int), 0, 62, [])),
  (62, (39, 0, 0, 63, [])),
  (63, (2, ((0 : Nat) : Int), 0, 64, [])),
  (64, (28, 0, 0, 65, [])),
  (65, (35, ((7 : Nat) : Int), ((2 : Nat) : Int), 68, [])),
  (68, (0, 1, 0, 69, [])),
  (69, (8, 0, 0, 70, [])),
  (70, (36, ((7 : Nat) : Int), ((2 : Nat) : Int), 73, [0])),
  (73, (48, 4, 0, 0, []))]
theorem tk_X7_remember : tOk mi_X7_remember tl_X7_remember = true := by decide +kernel
def pm_X7_remember (pc : Nat) : Option PT := if [2].contains pc then none else tl_X7_remember.lookup pc
theorem pk_X7_remember : ∀ pc pt, pm_X7_remember pc = some pt → okPt mi_X7_remember pc pt := fun pc pt h => tOk_pm tk_X7_remember h
section
variable {E : ET} {g : GT} {d : Nat} {lm : Nat × Nat} {RT : RTy} {F : FT} {n : Nat} {L : LV} {st : List AV} {h : AH}
theorem r_X7_remember_0 : run E g mi_X7_remember d lm RT F pm_X7_remember (n + 1) 0 L st h = exI E d lm RT F (run E g mi_X7_remember d lm RT F pm_X7_remember n) (0, 0, 0, 1, []) L st h := run_s rfl
theorem r_X7_remember_1 : run E g mi_X7_remember d lm RT F pm_X7_remember (n + 1) 1 L st h = exI E d lm RT F (run E g mi_X7_remember d lm RT F pm_X7_remember n) (4, ((3 : Nat) : Int), 0, 2, []) L st h := run_s rfl
theorem r_X7_remember_2 : run E g mi_X7_remember d lm RT F pm_X7_remember (n + 1) 2 L st h = G E g mi_X7_remember d lm RT 2 L st h := run_c rfl
theorem q_X7_remember_2 (n : Nat) (hF : FOk E d F) (hx : exI E d lm RT F (run E g mi_X7_remember d lm RT F pm_X7_remember n) (1, ((3 : Nat) : Int), 0, 3, []) L st h) : G E g mi_X7_remember d lm RT 2 L st h := sstep hF (tOk_spec tk_X7_remember (by decide +kernel)) (run_sound hF pk_X7_remember n) hx
theorem r_X7_remember_3 : run E g mi_X7_remember d lm RT F pm_X7_remember (n + 1) 3 L st h = exI E d lm RT F (run E g mi_X7_remember d lm RT F pm_X7_remember n) (2, ((0 : Nat) : Int), 0, 4, []) L st h := run_s rfl
theorem r_X7_remember_4 : run E g mi_X7_remember d lm RT F pm_X7_remember (n + 1) 4 L st h = exI E d lm RT F (run E g mi_X7_remember d lm RT F pm_X7_remember n) (35, ((7 : Nat) : Int), ((2 : Nat) : Int), 7, []) L st h := run_s rfl
theorem r_X7_remember_7 : run E g mi_X7_remember d lm RT F pm_X7_remember (n + 1) 7 L st h = exI E d lm RT F (run E g mi_X7_remember d lm RT F pm_X7_remember n) (32, 3, ((34 : Nat) : Int), 10, []) L st h := run_s rfl
theorem r_X7_remember_10 : run E g mi_X7_remember d lm RT F pm_X7_remember (n + 1) 10 L st h = exI E d lm RT F (run E g mi_X7_remember d lm RT F pm_X7_remember n) (2, ((0 : Nat) : Int), 0, 11, []) L st h := run_s rfl
theorem r_X7_remember_11 : run E g mi_X7_remember d lm RT F pm_X7_remember (n + 1) 11 L st h = exI E d lm RT F (run E g mi_X7_remember d lm RT F pm_X7_remember n) (35, ((7 : Nat) : Int), ((0 : Nat) : Int), 14, []) L st h := run_s rfl
theorem r_X7_remember_14 : run E g mi_X7_remember d lm RT F pm_X7_remember (n + 1) 14 L st h = exI E d lm RT F (run E g mi_X7_remember d lm RT F pm_X7_remember n) (1, ((3 : Nat) : Int), 0, 15, []) L st h := run_s rfl
theorem r_X7_remember_15 : run E g mi_X7_remember d lm RT F pm_X7_remember (n + 1) 15 L st h = exI E d lm RT F (run E g mi_X7_remember d lm RT F pm_X7_remember n) (38, 0, 0, 16, []) L st h := run_s rfl
theorem r_X7_remember_16 : run E g mi_X7_remember d lm RT F pm_X7_remember (n + 1) 16 L st h = exI E d lm RT F (run E g mi_X7_remember d lm RT F pm_X7_remember n) (1, ((1 : Nat) : Int), 0, 17, []) L st h := run_s rfl
theorem r_X7_remember_17 : run E g mi_X7_remember d lm RT F pm_X7_remember (n + 1) 17 L st h = exI E d lm RT F (run E g mi_X7_remember d lm RT F pm_X7_remember n) (32, 1, ((28 : Nat) : Int), 20, []) L st h := run_s rfl
theorem r_X7_remember_20 : run E g mi_X7_remember d lm RT F pm_X7_remember (n + 1) 20 L st h = exI E d lm RT F (run E g mi_X7_remember d lm RT F pm_X7_remember n) (2, ((0 : Nat) : Int), 0, 21, []) L st h := run_s rfl
theorem r_X7_remember_21 : run E g mi_X7_remember d lm RT F pm_X7_remember (n + 1) 21 L st h = exI E d lm RT F (run E g mi_X7_remember d lm RT F pm_X7_remember n) (1, ((3 : Nat) : Int), 0, 22, []) L st h := run_s rfl
theorem r_X7_remember_22 : run E g mi_X7_remember d lm RT F pm_X7_remember (n + 1) 22 L st h = exI E d lm RT F (run E g mi_X7_remember d lm RT F pm_X7_remember n) (0, 1, 0, 23, []) L st h := run_s rfl
theorem r_X7_remember_23 : run E g mi_X7_remember d lm RT F pm_X7_remember (n + 1) 23 L st h = exI E d lm RT F (run E g mi_X7_remember d lm RT F pm_X7_remember n) (8, 0, 0, 24, []) L st h := run_s rfl
theorem r_X7_remember_24 : run E g mi_X7_remember d lm RT F pm_X7_remember (n + 1) 24 L st h = exI E d lm RT F (run E g mi_X7_remember d lm RT F pm_X7_remember n) (36, ((7 : Nat) : Int), ((2 : Nat) : Int), 27, [0]) L st h := run_s rfl
theorem r_X7_remember_27 : run E g mi_X7_remember d lm RT F pm_X7_remember (n + 1) 27 L st h = exI E d lm RT F (run E g mi_X7_remember d lm RT F pm_X7_remember n) (48, 4, 0, 0, []) L st h := run_s rfl
theorem r_X7_remember_28 : run E g mi_X7_remember d lm RT F pm_X7_remember (n + 1) 28 L st h = exI E d lm RT F (run E g mi_X7_remember d lm RT F pm_X7_remember n) (7, ((3 : Nat) : Int), 1, 31, []) L st h := run_s rfl
theorem r_X7_remember_31 : run E g mi_X7_remember d lm RT F pm_X7_remember (n + 1) 31 L st h = exI E d lm RT F (run E g mi_X7_remember d lm RT F pm_X7_remember n) (33, ((2 : Nat) : Int), 0, 0, []) L st h := run_s rfl
theorem r_X7_remember_34 : run E g mi_X7_remember d lm RT F pm_X7_remember (n + 1) 34 L st h = exI E d lm RT F (run E g mi_X7_remember d lm RT F pm_X7_remember n) (2, ((0 : Nat) : Int), 0, 35, []) L st h := run_s rfl
theorem r_X7_remember_35 : run E g mi_X7_remember d lm RT F pm_X7_remember (n + 1) 35 L st h = exI E d lm RT F (run E g mi_X7_remember d lm RT F pm_X7_remember n) (35, ((7 : Nat) : Int), ((2 : Nat) : Int), 38, []) L st h := run_s rfl
theorem r_X7_remember_38 : run E g mi_X7_remember d lm RT F pm_X7_remember (n + 1) 38 L st h = exI E d lm RT F (run E g mi_X7_remember d lm RT F pm_X7_remember n) (0, 8, 0, 40, []) L st h := run_s rfl
theorem r_X7_remember_40 : run E g mi_X7_remember d lm RT F pm_X7_remember (n + 1) 40 L st h = exI E d lm RT F (run E g mi_X7_remember d lm RT F pm_X7_remember n) (32, 3, ((73 : Nat) : Int), 43, []) L st h := run_s rfl
theorem r_X7_remember_43 : run E g mi_X7_remember d lm RT F pm_X7_remember (n + 1) 43 L st h = exI E d lm RT F (run E g mi_X7_remember d lm RT F pm_X7_remember n) (2, ((0 : Nat) : Int), 0, 44, []) L st h := run_s rfl
theorem r_X7_remember_44 : run E g mi_X7_remember d lm RT F pm_X7_remember (n + 1) 44 L st h = exI E d lm RT F (run E g mi_X7_remember d lm RT F pm_X7_remember n) (35, ((7 : Nat) : Int), ((0 : Nat) : Int), 47, []) L st h := run_s rfl
theorem r_X7_remember_47 : run E g mi_X7_remember d lm RT F pm_X7_remember (n + 1) 47 L st h = exI E d lm RT F (run E g mi_X7_remember d lm RT F pm_X7_remember n) (2, ((0 : Nat) : Int), 0, 48, []) L st h := run_s rfl
theorem r_X7_remember_48 : run E g mi_X7_remember d lm RT F pm_X7_remember (n + 1) 48 L st h = exI E d lm RT F (run E g mi_X7_remember d lm RT F pm_X7_remember n) (35, ((7 : Nat) : Int), ((2 : Nat) : Int), 51, []) L st h := run_s rfl
theorem r_X7_remember_51 : run E g mi_X7_remember d lm RT F pm_X7_remember (n + 1) 51 L st h = exI E d lm RT F (run E g mi_X7_remember d lm RT F pm_X7_remember n) (1, ((1 : Nat) : Int), 0, 52, []) L st h := run_s rfl
theorem r_X7_remember_52 : run E g mi_X7_remember d lm RT F pm_X7_remember (n + 1) 52 L st h = exI E d lm RT F (run E g mi_X7_remember d lm RT F pm_X7_remember n) (39, 0, 0, 53, []) L st h := run_s rfl
theorem r_X7_remember_53 : run E g mi_X7_remember d lm RT F pm_X7_remember (n + 1) 53 L st h = exI E d lm RT F (run E g mi_X7_remember d lm RT F pm_X7_remember n) (2, ((0 : Nat) : Int), 0, 54, []) L st h := run_s rfl
theorem r_X7_remember_54 : run E g mi_X7_remember d lm RT F pm_X7_remember (n + 1) 54 L st h = exI E d lm RT F (run E g mi_X7_remember d lm RT F pm_X7_remember n) (35, ((7 : Nat) : Int), ((1 : Nat) : Int), 57, []) L st h := run_s rfl
theorem r_X7_remember_57 : run E g mi_X7_remember d lm RT F pm_X7_remember (n + 1) 57 L st h = exI E d lm RT F (run E g mi_X7_remember d lm RT F pm_X7_remember n) (2, ((0 : Nat) : Int), 0, 58, []) L st h := run_s rfl
theorem r_X7_remember_58 : run E g mi_X7_remember d lm RT F pm_X7_remember (n + 1) 58 L st h = exI E d lm RT F (run E g mi_X7_remember d lm RT F pm_X7_remember n) (35, ((7 : Nat) : Int), ((2 : Nat) : Int), 61, []) L st h := run_s rfl
theorem r_X7_remember_61 : run E g mi_X7_remember d lm RT F pm_X7_remember (n + 1) 61 L st h = exI E d lm RT F (run E g mi_X7_remember d lm RT F pm_X7_remember n) (1, ((2 : Nat) : Int), 0, 62, []) L st h := run_s rfl
theorem r_X7_remember_62 : run E g mi_X7_remember d lm RT F pm_X7_remember (n + 1) 62 L st h = exI E d lm RT F (run E g mi_X7_remember d lm RT F pm_X7_remember n) (39, 0, 0, 63, []) L st h := run_s rfl
theorem r_X7_remember_63 : run E g mi_X7_remember d lm RT F pm_X7_remember (n + 1) 63 L st h = exI E d lm RT F (run E g mi_X7_remember d lm RT F pm_X7_remember n) (2, ((0 : Nat) : Int), 0, 64, []) L st h := run_s rfl
theorem r_X7_remember_64 : run E g mi_X7_remember d lm RT F pm_X7_remember (n + 1) 64 L st h = exI E d lm RT F (run E g mi_X7_remember d lm RT F pm_X7_remember n) (28, 0, 0, 65, []) L st h := run_s rfl
theorem r_X7_remember_65 : run E g mi_X7_remember d lm RT F pm_X7_remember (n + 1) 65 L st h = exI E d lm RT F (run E g mi_X7_remember d lm RT F pm_X7_remember n) (35, ((7 : Nat) : Int), ((2 : Nat) : Int), 68, []) L st h := run_s rfl
theorem r_X7_remember_68 : run E g mi_X7_remember d lm RT F pm_X7_remember (n + 1) 68 L st h = exI E d lm RT F (run E g mi_X7_remember d lm RT F pm_X7_remember n) (0, 1, 0, 69, []) L st h := run_s rfl
theorem r_X7_remember_69 : run E g mi_X7_remember d lm RT F pm_X7_remember (n + 1) 69 L st h = exI E d lm RT F (run E g mi_X7_remember d lm RT F pm_X7_remember n) (8, 0, 0, 70, []) L st h := run_s rfl
theorem r_X7_remember_70 : run E g mi_X7_remember d lm RT F pm_X7_remember (n + 1) 70 L st h = exI E d lm RT F (run E g mi_X7_remember d lm RT F pm_X7_remember n) (36, ((7 : Nat) : Int), ((2 : Nat) : Int), 73, [0]) L st h := run_s rfl
theorem r_X7_remember_73 : run E g mi_X7_remember d lm RT F pm_X7_remember (n + 1) 73 L st h = exI E d lm RT F (run E g mi_X7_remember d lm RT F pm_X7_remember n) (48, 4, 0, 0, []) L st h := run_s rfl
theorem e_X7_remember (n : Nat) {pc : Nat} (hF : FOk E d F) (hx : run E g mi_X7_remember d lm RT F pm_X7_remember n pc L st h) : G E g mi_X7_remember d lm RT pc L st h := run_sound hF pk_X7_remember n pc L st h hx
end
def mi_X7_rememberedSet : MI := (7, cX7_rememberedSet, 3, 0, false)
theorem mo_X7_rememberedSet : miOk mi_X7_rememberedSet (mt 39) = true := by decide +kernel
def tl_X7_rememberedSet : List (Nat × PT) := [(0, (0, 0, 0, 1, [])),
  (1, (4, ((1 : Nat) : Int), 0, 2, [])),
  (2, (0, 0, 0, 3, [])),
  (3, (4, ((2 : Nat) : Int), 0, 4, [])),
  (4, (1, ((2 : Nat) : Int), 0, 5, [])),
  (5, (2, ((0 : Nat) : Int), 0, 6, [])),
  (6, (35, ((7 : Nat) : Int), ((2 : Nat) : Int), 9, [])),
  (9, (32, 3, ((29 : Nat) : Int), 12, [])),
  (12, (1, ((1 : Nat) : Int), 0, 13, [])),
  (13, (0, 1, 0, 14, [])),
  (14, (2, ((0 : Nat) : Int), 0, 15, [])),
  (15, (35, ((7 : Nat) : Int), ((0 : Nat) : Int), 18, [])),
  (18, (1, ((2 : Nat) : Int), 0, 19, [])),
  (19, (38, 0, 0, 20, [])),
  (20, (16, 0, 0, 21, [])),
  (21, (14, 0, 0, 22, [])),
  (22, (4, ((1 : Nat) : Int), 0, 23, [])),
  (23, (7, ((2 : Nat) : Int), 1, 26, [])),
  (26, (33, ((4 : Nat) : Int), 0, 0, [])),
  (29, (1, ((1 : Nat) : Int), 0, 30, [])),
  (30, (48, 0, 0, 0, []))]
theorem tk_X7_rememberedSet : tOk mi_X7_rememberedSet tl_X7_rememberedSet = true := by decide +kernel
def pm_X7_rememberedSet (pc : Nat) : Option PT := if [4].contains pc then none else tl_X7_rememberedSet.lookup pc
theorem pk_X7_rememberedSet : ∀ pc pt, pm_X7_rememberedSet pc = some pt → okPt mi_X7_rememberedSet pc pt := fun pc pt h => tOk_pm tk_X7_rememberedSet h
section
variable {E : ET} {g : GT} {d : Nat} {lm : Nat × Nat} {RT : RTy} {F : FT} {n : Nat} {L : LV} {st : List AV} {h : AH}
theorem r_X7_rememberedSet_0 : run E g mi_X7_rememberedSet d lm RT F pm_X7_rememberedSet (n + 1) 0 L st h = exI E d lm RT F (run E g mi_X7_rememberedSet d lm RT F pm_X7_rememberedSet n) (0, 0, 0, 1, []) L st h := run_s rfl
theorem r_X7_rememberedSet_1 : run E g mi_X7_rememberedSet d lm RT F pm_X7_rememberedSet (n + 1) 1 L st h = exI E d lm RT F (run E g mi_X7_rememberedSet d lm RT F pm_X7_rememberedSet n) (4, ((1 : Nat) : Int), 0, 2, []) L st h := run_s rfl
theorem r_X7_rememberedSet_2 : run E g mi_X7_rememberedSet d lm RT F pm_X7_rememberedSet (n + 1) 2 L st h = exI E d lm RT F (run E g mi_X7_rememberedSet d lm RT F pm_X7_rememberedSet n) (0, 0, 0, 3, []) L st h := run_s rfl
theorem r_X7_rememberedSet_3 : run E g mi_X7_rememberedSet d lm RT F pm_X7_rememberedSet (n + 1) 3 L st h = exI E d lm RT F (run E g mi_X7_rememberedSet d lm RT F pm_X7_rememberedSet n) (4, ((2 : Nat) : Int), 0, 4, []) L st h := run_s rfl
theorem r_X7_rememberedSet_4 : run E g mi_X7_rememberedSet d lm RT F pm_X7_rememberedSet (n + 1) 4 L st h = G E g mi_X7_rememberedSet d lm RT 4 L st h := run_c rfl
theorem q_X7_rememberedSet_4 (n : Nat) (hF : FOk E d F) (hx : exI E d lm RT F (run E g mi_X7_rememberedSet d lm RT F pm_X7_rememberedSet n) (1, ((2 : Nat) : Int), 0, 5, []) L st h) : G E g mi_X7_rememberedSet d lm RT 4 L st h := sstep hF (tOk_spec tk_X7_rememberedSet (by decide +kernel)) (run_sound hF pk_X7_rememberedSet n) hx
theorem r_X7_rememberedSet_5 : run E g mi_X7_rememberedSet d lm RT F pm_X7_rememberedSet (n + 1) 5 L st h = exI E d lm RT F (run E g mi_X7_rememberedSet d lm RT F pm_X7_rememberedSet n) (2, ((0 : Nat) : Int), 0, 6, []) L st h := run_s rfl
theorem r_X7_rememberedSet_6 : run E g mi_X7_rememberedSet d lm RT F pm_X7_rememberedSet (n + 1) 6 L st h = exI E d lm RT F (run E g mi_X7_rememberedSet d lm RT F pm_X7_rememberedSet n) (35, ((7 : Nat) : Int), ((2 : Nat) : Int), 9, []) L st h := run_s rfl
theorem r_X7_rememberedSet_9 : run E g mi_X7_rememberedSet d lm RT F pm_X7_rememberedSet (n + 1) 9 L st h = exI E d lm RT F (run E g mi_X7_rememberedSet d lm RT F pm_X7_rememberedSet n) (32, 3, ((29 : Nat) : Int), 12, []) L st h := run_s rfl
theorem r_X7_rememberedSet_12 : run E g mi_X7_rememberedSet d lm RT F pm_X7_rememberedSet (n + 1) 12 L st h = exI E d lm RT F (run E g mi_X7_rememberedSet d lm RT F pm_X7_rememberedSet n) (1, ((1 : Nat) : Int), 0, 13, []) L st h := run_s rfl
theorem r_X7_rememberedSet_13 : run E g mi_X7_rememberedSet d lm RT F pm_X7_rememberedSet (n + 1) 13 L st h = exI E d lm RT F (run E g mi_X7_rememberedSet d lm RT F pm_X7_rememberedSet n) (0, 1, 0, 14, []) L st h := run_s rfl
theorem r_X7_rememberedSet_14 : run E g mi_X7_rememberedSet d lm RT F pm_X7_rememberedSet (n + 1) 14 L st h = exI E d lm RT F (run E g mi_X7_rememberedSet d lm RT F pm_X7_rememberedSet n) (2, ((0 : Nat) : Int), 0, 15, []) L st h := run_s rfl
theorem r_X7_rememberedSet_15 : run E g mi_X7_rememberedSet d lm RT F pm_X7_rememberedSet (n + 1) 15 L st h = exI E d lm RT F (run E g mi_X7_rememberedSet d lm RT F pm_X7_rememberedSet n) (35, ((7 : Nat) : Int), ((0 : Nat) : Int), 18, []) L st h := run_s rfl
theorem r_X7_rememberedSet_18 : run E g mi_X7_rememberedSet d lm RT F pm_X7_rememberedSet (n + 1) 18 L st h = exI E d lm RT F (run E g mi_X7_rememberedSet d lm RT F pm_X7_rememberedSet n) (1, ((2 : Nat) : Int), 0, 19, []) L st h := run_s rfl
theorem r_X7_rememberedSet_19 : run E g mi_X7_rememberedSet d lm RT F pm_X7_rememberedSet (n + 1) 19 L st h = exI E d lm RT F (run E g mi_X7_rememberedSet d lm RT F pm_X7_rememberedSet n) (38, 0, 0, 20, []) L st h := run_s rfl
theorem r_X7_rememberedSet_20 : run E g mi_X7_rememberedSet d lm RT F pm_X7_rememberedSet (n + 1) 20 L st h = exI E d lm RT F (run E g mi_X7_rememberedSet d lm RT F pm_X7_rememberedSet n) (16, 0, 0, 21, []) L st h := run_s rfl
theorem r_X7_rememberedSet_21 : run E g mi_X7_rememberedSet d lm RT F pm_X7_rememberedSet (n + 1) 21 L st h = exI E d lm RT F (run E g mi_X7_rememberedSet d lm RT F pm_X7_rememberedSet n) (14, 0, 0, 22, []) L st h := run_s rfl
theorem r_X7_rememberedSet_22 : run E g mi_X7_rememberedSet d lm RT F pm_X7_rememberedSet (n + 1) 22 L st h = exI E d lm RT F (run E g mi_X7_rememberedSet d lm RT F pm_X7_rememberedSet n) (4, ((1 : Nat) : Int), 0, 23, []) L st h := run_s rfl
theorem r_X7_rememberedSet_23 : run E g mi_X7_rememberedSet d lm RT F pm_X7_rememberedSet (n + 1) 23 L st h = exI E d lm RT F (run E g mi_X7_rememberedSet d lm RT F pm_X7_rememberedSet n) (7, ((2 : Nat) : Int), 1, 26, []) L st h := run_s rfl
theorem r_X7_rememberedSet_26 : run E g mi_X7_rememberedSet d lm RT F pm_X7_rememberedSet (n + 1) 26 L st h = exI E d lm RT F (run E g mi_X7_rememberedSet d lm RT F pm_X7_rememberedSet n) (33, ((4 : Nat) : Int), 0, 0, []) L st h := run_s rfl
theorem r_X7_rememberedSet_29 : run E g mi_X7_rememberedSet d lm RT F pm_X7_rememberedSet (n + 1) 29 L st h = exI E d lm RT F (run E g mi_X7_rememberedSet d lm RT F pm_X7_rememberedSet n) (1, ((1 : Nat) : Int), 0, 30, []) L st h := run_s rfl
theorem r_X7_rememberedSet_30 : run E g mi_X7_rememberedSet d lm RT F pm_X7_rememberedSet (n + 1) 30 L st h = exI E d lm RT F (run E g mi_X7_rememberedSet d lm RT F pm_X7_rememberedSet n) (48, 0, 0, 0, []) L st h := run_s rfl
theorem e_X7_rememberedSet (n : Nat) {pc : Nat} (hF : FOk E d F) (hx : run E g mi_X7_rememberedSet d lm RT F pm_X7_rememberedSet n pc L st h) : G E g mi_X7_rememberedSet d lm RT pc L st h := run_sound hF pk_X7_rememberedSet n pc L st h hx
end
def mi_X7_stop : MI := (7, cX7_stop, 1, 4, false)
theorem mo_X7_stop : miOk mi_X7_stop (mt 40) = true := by decide +kernel
def tl_X7_stop : List (Nat × PT) := [(0, (2, ((0 : Nat) : Int), 0, 1, [])),
  (1, (0, 0, 0, 2, [])),
  (2, (36, ((7 : Nat) : Int), ((3 : Nat) : Int), 5, [1])),
  (5, (2, ((0 : Nat) : Int), 0, 6, [])),
  (6, (0, (-9), 0, 8, [])),
  (8, (36, ((7 : Nat) : Int), ((8 : Nat) : Int), 11, [0])),
  (11, (48, 4, 0, 0, []))]
theorem tk_X7_stop : tOk mi_X7_stop tl_X7_stop = true := by decide +kernel
def pm_X7_stop (pc : Nat) : Option PT := if [].contains pc then none else tl_X7_stop.lookup pc
theorem pk_X7_stop : ∀ pc pt, pm_X7_stop pc = some pt → okPt mi_X7_stop pc pt := fun pc pt h => tOk_pm tk_X7_stop h
section
variable {E : ET} {g : GT} {d : Nat} {lm : Nat × Nat} {RT : RTy} {F : FT} {n : Nat} {L : LV} {st : List AV} {h : AH}
theorem r_X7_stop_0 : run E g mi_X7_stop d lm RT F pm_X7_stop (n + 1) 0 L st h = exI E d lm RT F (run E g mi_X7_stop d lm RT F pm_X7_stop n) (2, ((0 : Nat) : Int), 0, 1, []) L st h := run_s rfl
theorem r_X7_stop_1 : run E g mi_X7_stop d lm RT F pm_X7_stop (n + 1) 1 L st h = exI E d lm RT F (run E g mi_X7_stop d lm RT F pm_X7_stop n) (0, 0, 0, 2, []) L st h := run_s rfl
theorem r_X7_stop_2 : run E g mi_X7_stop d lm RT F pm_X7_stop (n + 1) 2 L st h = exI E d lm RT F (run E g mi_X7_stop d lm RT F pm_X7_stop n) (36, ((7 : Nat) : Int), ((3 : Nat) : Int), 5, [1]) L st h := run_s rfl
theorem r_X7_stop_5 : run E g mi_X7_stop d lm RT F pm_X7_stop (n + 1) 5 L st h = exI E d lm RT F (run E g mi_X7_stop d lm RT F pm_X7_stop n) (2, ((0 : Nat) : Int), 0, 6, []) L st h := run_s rfl
theorem r_X7_stop_6 : run E g mi_X7_stop d lm RT F pm_X7_stop (n + 1) 6 L st h = exI E d lm RT F (run E g mi_X7_stop d lm RT F pm_X7_stop n) (0, (-9), 0, 8, []) L st h := run_s rfl
theorem r_X7_stop_8 : run E g mi_X7_stop d lm RT F pm_X7_stop (n + 1) 8 L st h = exI E d lm RT F (run E g mi_X7_stop d lm RT F pm_X7_stop n) (36, ((7 : Nat) : Int), ((8 : Nat) : Int), 11, [0]) L st h := run_s rfl
theorem r_X7_stop_11 : run E g mi_X7_stop d lm RT F pm_X7_stop (n + 1) 11 L st h = exI E d lm RT F (run E g mi_X7_stop d lm RT F pm_X7_stop n) (48, 4, 0, 0, []) L st h := run_s rfl
theorem e_X7_stop (n : Nat) {pc : Nat} (hF : FOk E d F) (hx : run E g mi_X7_stop d lm RT F pm_X7_stop n pc L st h) : G E g mi_X7_stop d lm RT pc L st h := run_sound hF pk_X7_stop n pc L st h hx
end
def mi_X7_turn : MI := (7, cX7_turn, 1, 4, false)
theorem mo_X7_turn : miOk mi_X7_turn (mt 41) = true := by decide +kernel
def tl_X7_turn : List (Nat × PT) := [(0, (2, ((0 : Nat) : Int), 0, 1, [])),
  (1, (0, 1, 0, 2, [])),
  (2, (36, ((7 : Nat) : Int), ((4 : Nat) : Int), 5, [1])),
  (5, (2, ((0 : Nat) : Int), 0, 6, [])),
  (6, (2, ((0 : Nat) : Int), 0, 7, [])),
  (7, (35, ((7 : Nat) : Int), ((2 : Nat) : Int), 10, [])),
  (10, (0, 1, 0, 11, [])),
  (11, (9, 0, 0, 12, [])),
  (12, (36, ((7 : Nat) : Int), ((12 : Nat) : Int), 15, [0])),
  (15, (48, 4, 0, 0, []))]
theorem tk_X7_turn : tOk mi_X7_turn tl_X7_turn = true := by decide +kernel
def pm_X7_turn (pc : Nat) : Option PT := if [].contains pc then none else tl_X7_turn.lookup pc
theorem pk_X7_turn : ∀ pc pt, pm_X7_turn pc = some pt → okPt mi_X7_turn pc pt := fun pc pt h => tOk_pm tk_X7_turn h
section
variable {E : ET} {g : GT} {d : Nat} {lm : Nat × Nat} {RT : RTy} {F : FT} {n : Nat} {L : LV} {st : List AV} {h : AH}
theorem r_X7_turn_0 : run E g mi_X7_turn d lm RT F pm_X7_turn (n + 1) 0 L st h = exI E d lm RT F (run E g mi_X7_turn d lm RT F pm_X7_turn n) (2, ((0 : Nat) : Int), 0, 1, []) L st h := run_s rfl
theorem r_X7_turn_1 : run E g mi_X7_turn d lm RT F pm_X7_turn (n + 1) 1 L st h = exI E d lm RT F (run E g mi_X7_turn d lm RT F pm_X7_turn n) (0, 1, 0, 2, []) L st h := run_s rfl
theorem r_X7_turn_2 : run E g mi_X7_turn d lm RT F pm_X7_turn (n + 1) 2 L st h = exI E d lm RT F (run E g mi_X7_turn d lm RT F pm_X7_turn n) (36, ((7 : Nat) : Int), ((4 : Nat) : Int), 5, [1]) L st h := run_s rfl
theorem r_X7_turn_5 : run E g mi_X7_turn d lm RT F pm_X7_turn (n + 1) 5 L st h = exI E d lm RT F (run E g mi_X7_turn d lm RT F pm_X7_turn n) (2, ((0 : Nat) : Int), 0, 6, []) L st h := run_s rfl
theorem r_X7_turn_6 : run E g mi_X7_turn d lm RT F pm_X7_turn (n + 1) 6 L st h = exI E d lm RT F (run E g mi_X7_turn d lm RT F pm_X7_turn n) (2, ((0 : Nat) : Int), 0, 7, []) L st h := run_s rfl
theorem r_X7_turn_7 : run E g mi_X7_turn d lm RT F pm_X7_turn (n + 1) 7 L st h = exI E d lm RT F (run E g mi_X7_turn d lm RT F pm_X7_turn n) (35, ((7 : Nat) : Int), ((2 : Nat) : Int), 10, []) L st h := run_s rfl
theorem r_X7_turn_10 : run E g mi_X7_turn d lm RT F pm_X7_turn (n + 1) 10 L st h = exI E d lm RT F (run E g mi_X7_turn d lm RT F pm_X7_turn n) (0, 1, 0, 11, []) L st h := run_s rfl
theorem r_X7_turn_11 : run E g mi_X7_turn d lm RT F pm_X7_turn (n + 1) 11 L st h = exI E d lm RT F (run E g mi_X7_turn d lm RT F pm_X7_turn n) (9, 0, 0, 12, []) L st h := run_s rfl
theorem r_X7_turn_12 : run E g mi_X7_turn d lm RT F pm_X7_turn (n + 1) 12 L st h = exI E d lm RT F (run E g mi_X7_turn d lm RT F pm_X7_turn n) (36, ((7 : Nat) : Int), ((12 : Nat) : Int), 15, [0]) L st h := run_s rfl
theorem r_X7_turn_15 : run E g mi_X7_turn d lm RT F pm_X7_turn (n + 1) 15 L st h = exI E d lm RT F (run E g mi_X7_turn d lm RT F pm_X7_turn n) (48, 4, 0, 0, []) L st h := run_s rfl
theorem e_X7_turn (n : Nat) {pc : Nat} (hF : FOk E d F) (hx : run E g mi_X7_turn d lm RT F pm_X7_turn n pc L st h) : G E g mi_X7_turn d lm RT pc L st h := run_sound hF pk_X7_turn n pc L st h hx
end
def mi_X7_travel : MI := (7, cX7_travel, 4, 4, false)
theorem mo_X7_travel : miOk mi_X7_travel (mt 42) = true := by decide +kernel
def tl_X7_travel : List (Nat × PT) := [(0, (2, ((0 : Nat) : Int), 0, 1, [])),
  (1, (1, ((1 : Nat) : Int), 0, 2, [])),
  (2, (36, ((7 : Nat) : Int), ((8 : Nat) : Int), 5, [0])),
  (5, (2, ((0 : Nat) : Int), 0, 6, [])),
  (6, (1, ((2 : Nat) : Int), 0, 7, [])),
  (7, (36, ((7 : Nat) : Int), ((9 : Nat) : Int), 10, [0])),
  (10, (2, ((0 : Nat) : Int), 0, 11, [])),
  (11, (1, ((3 : Nat) : Int), 0, 12, [])),
  (12, (36, ((7 : Nat) : Int), ((10 : Nat) : Int), 15, [0])),
  (15, (48, 4, 0, 0, []))]
theorem tk_X7_travel : tOk mi_X7_travel tl_X7_travel = true := by decide +kernel
def pm_X7_travel (pc : Nat) : Option PT := if [].contains pc then none else tl_X7_travel.lookup pc
theorem pk_X7_travel : ∀ pc pt, pm_X7_travel pc = some pt → okPt mi_X7_travel pc pt := fun pc pt h => tOk_pm tk_X7_travel h
section
variable {E : ET} {g : GT} {d : Nat} {lm : Nat × Nat} {RT : RTy} {F : FT} {n : Nat} {L : LV} {st : List AV} {h : AH}
theorem r_X7_travel_0 : run E g mi_X7_travel d lm RT F pm_X7_travel (n + 1) 0 L st h = exI E d lm RT F (run E g mi_X7_travel d lm RT F pm_X7_travel n) (2, ((0 : Nat) : Int), 0, 1, []) L st h := run_s rfl
theorem r_X7_travel_1 : run E g mi_X7_travel d lm RT F pm_X7_travel (n + 1) 1 L st h = exI E d lm RT F (run E g mi_X7_travel d lm RT F pm_X7_travel n) (1, ((1 : Nat) : Int), 0, 2, []) L st h := run_s rfl
theorem r_X7_travel_2 : run E g mi_X7_travel d lm RT F pm_X7_travel (n + 1) 2 L st h = exI E d lm RT F (run E g mi_X7_travel d lm RT F pm_X7_travel n) (36, ((7 : Nat) : Int), ((8 : Nat) : Int), 5, [0]) L st h := run_s rfl
theorem r_X7_travel_5 : run E g mi_X7_travel d lm RT F pm_X7_travel (n + 1) 5 L st h = exI E d lm RT F (run E g mi_X7_travel d lm RT F pm_X7_travel n) (2, ((0 : Nat) : Int), 0, 6, []) L st h := run_s rfl
theorem r_X7_travel_6 : run E g mi_X7_travel d lm RT F pm_X7_travel (n + 1) 6 L st h = exI E d lm RT F (run E g mi_X7_travel d lm RT F pm_X7_travel n) (1, ((2 : Nat) : Int), 0, 7, []) L st h := run_s rfl
theorem r_X7_travel_7 : run E g mi_X7_travel d lm RT F pm_X7_travel (n + 1) 7 L st h = exI E d lm RT F (run E g mi_X7_travel d lm RT F pm_X7_travel n) (36, ((7 : Nat) : Int), ((9 : Nat) : Int), 10, [0]) L st h := run_s rfl
theorem r_X7_travel_10 : run E g mi_X7_travel d lm RT F pm_X7_travel (n + 1) 10 L st h = exI E d lm RT F (run E g mi_X7_travel d lm RT F pm_X7_travel n) (2, ((0 : Nat) : Int), 0, 11, []) L st h := run_s rfl
theorem r_X7_travel_11 : run E g mi_X7_travel d lm RT F pm_X7_travel (n + 1) 11 L st h = exI E d lm RT F (run E g mi_X7_travel d lm RT F pm_X7_travel n) (1, ((3 : Nat) : Int), 0, 12, []) L st h := run_s rfl
theorem r_X7_travel_12 : run E g mi_X7_travel d lm RT F pm_X7_travel (n + 1) 12 L st h = exI E d lm RT F (run E g mi_X7_travel d lm RT F pm_X7_travel n) (36, ((7 : Nat) : Int), ((10 : Nat) : Int), 15, [0]) L st h := run_s rfl
theorem r_X7_travel_15 : run E g mi_X7_travel d lm RT F pm_X7_travel (n + 1) 15 L st h = exI E d lm RT F (run E g mi_X7_travel d lm RT F pm_X7_travel n) (48, 4, 0, 0, []) L st h := run_s rfl
theorem e_X7_travel (n : Nat) {pc : Nat} (hF : FOk E d F) (hx : run E g mi_X7_travel d lm RT F pm_X7_travel n pc L st h) : G E g mi_X7_travel d lm RT pc L st h := run_sound hF pk_X7_travel n pc L st h hx
end
def mi_X8_init : MI := (8, cX8_init, 2, 4, true)
theorem mo_X8_init : miOk mi_X8_init (mt 43) = true := by decide +kernel
def tl_X8_init : List (Nat × PT) := [(0, (2, ((0 : Nat) : Int), 0, 1, [])),
  (1, (47, 0, 0, 4, [])),
  (4, (2, ((0 : Nat) : Int), 0, 5, [])),
  (5, (41, ((3 : Nat) : Int), 0, 8, [])),
  (8, (28, 0, 0, 9, [])),
  (9, (53, ((6 : Nat) : Int), ((1 : Nat) : Int), 12, [])),
  (12, (37, ((8 : Nat) : Int), ((0 : Nat) : Int), 15, [3])),
  (15, (2, ((0 : Nat) : Int), 0, 16, [])),
  (16, (0, 64, 0, 18, [])),
  (18, (43, 3, 0, 21, [])),
  (21, (37, ((8 : Nat) : Int), ((1 : Nat) : Int), 24, [3])),
  (24, (2, ((0 : Nat) : Int), 0, 25, [])),
  (25, (41, ((6 : Nat) : Int), 0, 28, [])),
  (28, (28, 0, 0, 29, [])),
  (29, (53, ((31 : Nat) : Int), ((1 : Nat) : Int), 32, [])),
  (32, (37, ((8 : Nat) : Int), ((2 : Nat) : Int), 35, [3])),
  (35, (2, ((0 : Nat) : Int), 0, 36, [])),
  (36, (0, 12, 0, 38, [])),
  (38, (43, 4, 0, 41, [])),
  (41, (37, ((8 : Nat) : Int), ((3 : Nat) : Int), 44, [3])),
  (44, (2, ((0 : Nat) : Int), 0, 45, [])),
  (45, (0, 3, 0, 46, [])),
  (46, (43, 5, 0, 49, [])),
  (49, (37, ((8 : Nat) : Int), ((4 : Nat) : Int), 52, [3])),
  (52, (2, ((0 : Nat) : Int), 0, 53, [])),
  (53, (41, ((0 : Nat) : Int), 0, 56, [])),
  (56, (28, 0, 0, 57, [])),
  (57, (53, ((0 : Nat) : Int), ((1 : Nat) : Int), 60, [])),
  (60, (37, ((8 : Nat) : Int), ((5 : Nat) : Int), 63, [3])),
  (63, (2, ((0 : Nat) : Int), 0, 64, [])),
  (64, (0, 8, 0, 66, [])),
  (66, (42, 0, 0, 68, [])),
  (68, (37, ((8 : Nat) : Int), ((6 : Nat) : Int), 71, [3])),
  (71, (2, ((0 : Nat) : Int), 0, 72, [])),
  (72, (0, 8, 0, 74, [])),
  (74, (42, 0, 0, 76, [])),
  (76, (37, ((8 : Nat) : Int), ((7 : Nat) : Int), 79, [3])),
  (79, (2, ((0 : Nat) : Int), 0, 80, [])),
  (80, (0, 20, 0, 82, [])),
  (82, (36, ((8 : Nat) : Int), ((8 : Nat) : Int), 85, [0])),
  (85, (2, ((0 : Nat) : Int), 0, 86, [])),
  (86, (0, 300, 0, 89, [])),
  (89, (36, ((8 : Nat) : Int), ((9 : Nat) : Int), 92, [0])),
  (92, (2, ((0 : Nat) : Int), 0, 93, [])),
  (93, (0, 0, 0, 94, [])),
  (94, (36, ((8 : Nat) : Int), ((10 : Nat) : Int), 97, [0])),
  (97, (2, ((0 : Nat) : Int), 0, 98, [])),
  (98, (0, 0, 0, 99, [])),
  (99, (36, ((8 : Nat) : Int), ((11 : Nat) : Int), 102, [0])),
  (102, (2, ((0 : Nat) : Int), 0, 103, [])),
  (103, (0, 0, 0, 104, [])),
  (104, (36, ((8 : Nat) : Int), ((12 : Nat) : Int), 107, [0])),
  (107, (2, ((0 : Nat) : Int), 0, 108, [])),
  (108, (0, 0, 0, 109, [])),
  (109, (36, ((8 : Nat) : Int), ((13 : Nat) : Int), 112, [0])),
  (112, (0, 0, 0, 113, [])),
  (113, (4, ((1 : Nat) : Int), 0, 114, [])),
  (114, (1, ((1 : Nat) : Int), 0, 115, [])),
  (115, (0, 64, 0, 117, [])),
  (117, (32, 3, ((139 : Nat) : Int), 120, [])),
  (120, (2, ((0 : Nat) : Int), 0, 121, [])),
  (121, (35, ((8 : Nat) : Int), ((1 : Nat) : Int), 124, [])),
  (124, (1, ((1 : Nat) : Int), 0, 125, [])),
  (125, (41, ((5 : Nat) : Int), 0, 128, [])),
  (128, (28, 0, 0, 129, [])),
  (129, (53, ((19 : Nat) : Int), ((1 : Nat) : Int), 132, [])),
  (132, (50, 0, 0, 133, [])),
  (133, (7, ((1 : Nat) : Int), 1, 136, [])),
  (136, (33, ((114 : Nat) : Int), 0, 0, [])),
  (139, (0, 0, 0, 140, [])),
  (140, (4, ((1 : Nat) : Int), 0, 141, [])),
  (141, (1, ((1 : Nat) : Int), 0, 142, [])),
  (142, (0, 12, 0, 144, [])),
  (144, (32, 3, ((166 : Nat) : Int), 147, [])),
  (147, (2, ((0 : Nat) : Int), 0, 148, [])),
  (148, (35, ((8 : Nat) : Int), ((3 : Nat) : Int), 151, [])),
  (151, (1, ((1 : Nat) : Int), 0, 152, [])),
  (152, (41, ((7 : Nat) : Int), 0, 155, [])),
  (155, (28, 0, 0, 156, [])),
  (156, (53, ((36 : Nat) : Int), ((1 : Nat) : Int), 159, [])),
  (159, (50, 0, 0, 160, [])),
  (160, (7, ((1 : Nat) : Int), 1, 163, [])),
  (163, (33, ((141 : Nat) : Int), 0, 0, [])),
  (166, (2, ((0 : Nat) : Int), 0, 167, [])),
  (167, (35, ((8 : Nat) : Int), ((4 : Nat) : Int), 170, [])),
  (170, (0, 0, 0, 171, [])),
  (171, (41, ((4 : Nat) : Int), 0, 174, [])),
  (174, (28, 0, 0, 175, [])),
  (175, (53, ((16 : Nat) : Int), ((1 : Nat) : Int), 178, [])),
  (178, (50, 0, 0, 179, [])),
  (179, (2, ((0 : Nat) : Int), 0, 180, [])),
  (180, (35, ((8 : Nat) : Int), ((4 : Nat) : Int), 183, [])),
  (183, (0, 1, 0, 184, [])),
  (184, (41, ((2 : Nat) : Int), 0, 187, [])),
  (187, (28, 0, 0, 188, [])),
  (188, (53, ((4 : Nat) : Int), ((1 : Nat) : Int), 191, [])),
  (191, (50, 0, 0, 192, [])),
  (192, (2, ((0 : Nat) : Int), 0, 193, [])),
  (193, (35, ((8 : Nat) : Int), ((4 : Nat) : Int), 196, [])),
  (196, (0, 2, 0, 197, [])),
  (197, (41, ((1 : Nat) : Int), 0, 200, [])),
  (200, (28, 0, 0, 201, [])),
  (201, (53, ((2 : Nat) : Int), ((1 : Nat) : Int), 204, [])),
  (204, (50, 0, 0, 205, [])),
  (205, (48, 4, 0, 0, []))]
theorem tk_X8_init_0 : tOk mi_X8_init ((tl_X8_init.drop 0).take 45) = true := by decide +kernel
theorem tk_X8_init_1 : tOk mi_X8_init ((tl_X8_init.drop 45).take 45) = true := by decide +kernel
theorem tk_X8_init_2 : tOk mi_X8_init ((tl_X8_init.drop 90).take 45) = true := by decide +kernel
theorem tk_X8_init : tOk mi_X8_init tl_X8_init = true := by
  refine tOk_cut 45 (by decide) (fun q hq => ?_)
  have hl : tl_X8_init.length = 105 := by decide +kernel
  rw [hl] at hq
  rcases (show q = 0 ∨ q = 1 ∨ q = 2 by omega) with rfl | rfl | rfl
  · exact tk_X8_init_0
  · exact tk_X8_init_1
  · exact tk_X8_init_2
def pm_X8_init (pc : Nat) : Option PT := if [114, 141].contains pc then none else tl_X8_init.lookup pc
theorem pk_X8_init : ∀ pc pt, pm_X8_init pc = some pt → okPt mi_X8_init pc pt := fun pc pt h => tOk_pm tk_X8_init h
section
variable {E : ET} {g : GT} {d : Nat} {lm : Nat × Nat} {RT : RTy} {F : FT} {n : Nat} {L : LV} {st : List AV} {h : AH}
theorem r_X8_init_0 : run E g mi_X8_init d lm RT F pm_X8_init (n + 1) 0 L st h = exI E d lm RT F (run E g mi_X8_init d lm RT F pm_X8_init n) (2, ((0 : Nat) : Int), 0, 1, []) L st h := run_s rfl
theorem r_X8_init_1 : run E g mi_X8_init d lm RT F pm_X8_init (n + 1) 1 L st h = exI E d lm RT F (run E g mi_X8_init d lm RT F pm_X8_init n) (47, 0, 0, 4, []) L st h := run_s rfl
theorem r_X8_init_4 : run E g mi_X8_init d lm RT F pm_X8_init (n + 1) 4 L st h = exI E d lm RT F (run E g mi_X8_init d lm RT F pm_X8_init n) (2, ((0 : Nat) : Int), 0, 5, []) L st h := run_s rfl
theorem r_X8_init_5 : run E g mi_X8_init d lm RT F pm_X8_init (n + 1) 5 L st h = exI E d lm RT F (run E g mi_X8_init d lm RT F pm_X8_init n) (41, ((3 : Nat) : Int), 0, 8, []) L st h := run_s rfl
theorem r_X8_init_8 : run E g mi_X8_init d lm RT F pm_X8_init (n + 1) 8 L st h = exI E d lm RT F (run E g mi_X8_init d lm RT F pm_X8_init n) (28, 0, 0, 9, []) L st h := run_s rfl
theorem r_X8_init_9 : run E g mi_X8_init d lm RT F pm_X8_init (n + 1) 9 L st h = exI E d lm RT F (run E g mi_X8_init d lm RT F pm_X8_init n) (53, ((6 : Nat) : Int), ((1 : Nat) : Int), 12, []) L st h := run_s rfl
theorem r_X8_init_12 : run E g mi_X8_init d lm RT F pm_X8_init (n + 1) 12 L st h = exI E d lm RT F (run E g mi_X8_init d lm RT F pm_X8_init n) (37, ((8 : Nat) : Int), ((0 : Nat) : Int), 15, [3]) L st h := run_s rfl
theorem r_X8_init_15 : run E g mi_X8_init d lm RT F pm_X8_init (n + 1) 15 L st h = exI E d lm RT F (run E g mi_X8_init d lm RT F pm_X8_init n) (2, ((0 : Nat) : Int), 0, 16, []) L st h := run_s rfl
theorem r_X8_init_16 : run E g mi_X8_init d lm RT F pm_X8_init (n + 1) 16 L st h = exI E d lm RT F (run E g mi_X8_init d lm RT F pm_X8_init n) (0, 64, 0, 18, []) L st h := run_s rfl
theorem r_X8_init_18 : run E g mi_X8_init d lm RT F pm_X8_init (n + 1) 18 L st h = exI E d lm RT F (run E g mi_X8_init d lm RT F pm_X8_init n) (43, 3, 0, 21, []) L st h := run_s rfl
theorem r_X8_init_21 : run E g mi_X8_init d lm RT F pm_X8_init (n + 1) 21 L st h = exI E d lm RT F (run E g mi_X8_init d lm RT F pm_X8_init n) (37, ((8 : Nat) : Int), ((1 : Nat) : Int), 24, [3]) L st h := run_s rfl
theorem r_X8_init_24 : run E g mi_X8_init d lm RT F pm_X8_init (n + 1) 24 L st h = exI E d lm RT F (run E g mi_X8_init d lm RT F pm_X8_init n) (2, ((0 : Nat) : Int), 0, 25, []) L st h := run_s rfl
theorem r_X8_init_25 : run E g mi_X8_init d lm RT F pm_X8_init (n + 1) 25 L st h = exI E d lm RT F (run E g mi_X8_init d lm RT F pm_X8_init n) (41, ((6 : Nat) : Int), 0, 28, []) L st h := run_s rfl
theorem r_X8_init_28 : run E g mi_X8_init d lm RT F pm_X8_init (n + 1) 28 L st h = exI E d lm RT F (run E g mi_X8_init d lm RT F pm_X8_init n) (28, 0, 0, 29, []) L st h := run_s rfl
theorem r_X8_init_29 : run E g mi_X8_init d lm RT F pm_X8_init (n + 1) 29 L st h = exI E d lm RT F (run E g mi_X8_init d lm RT F pm_X8_init n) (53, ((31 : Nat) : Int), ((1 : Nat) : Int), 32, []) L st h := run_s rfl
theorem r_X8_init_32 : run E g mi_X8_init d lm RT F pm_X8_init (n + 1) 32 L st h = exI E d lm RT F (run E g mi_X8_init d lm RT F pm_X8_init n) (37, ((8 : Nat) : Int), ((2 : Nat) : Int), 35, [3]) L st h := run_s rfl
theorem r_X8_init_35 : run E g mi_X8_init d lm RT F pm_X8_init (n + 1) 35 L st h = exI E d lm RT F (run E g mi_X8_init d lm RT F pm_X8_init n) (2, ((0 : Nat) : Int), 0, 36, []) L st h := run_s rfl
theorem r_X8_init_36 : run E g mi_X8_init d lm RT F pm_X8_init (n + 1) 36 L st h = exI E d lm RT F (run E g mi_X8_init d lm RT F pm_X8_init n) (0, 12, 0, 38, []) L st h := run_s rfl
theorem r_X8_init_38 : run E g mi_X8_init d lm RT F pm_X8_init (n + 1) 38 L st h = exI E d lm RT F (run E g mi_X8_init d lm RT F pm_X8_init n) (43, 4, 0, 41, []) L st h := run_s rfl
theorem r_X8_init_41 : run E g mi_X8_init d lm RT F pm_X8_init (n + 1) 41 L st h = exI E d lm RT F (run E g mi_X8_init d lm RT F pm_X8_init n) (37, ((8 : Nat) : Int), ((3 : Nat) : Int), 44, [3]) L st h := run_s rfl
theorem r_X8_init_44 : run E g mi_X8_init d lm RT F pm_X8_init (n + 1) 44 L st h = exI E d lm RT F (run E g mi_X8_init d lm RT F pm_X8_init n) (2, ((0 : Nat) : Int), 0, 45, []) L st h := run_s rfl
theorem r_X8_init_45 : run E g mi_X8_init d lm RT F pm_X8_init (n + 1) 45 L st h = exI E d lm RT F (run E g mi_X8_init d lm RT F pm_X8_init n) (0, 3, 0, 46, []) L st h := run_s rfl
theorem r_X8_init_46 : run E g mi_X8_init d lm RT F pm_X8_init (n + 1) 46 L st h = exI E d lm RT F (run E g mi_X8_init d lm RT F pm_X8_init n) (43, 5, 0, 49, []) L st h := run_s rfl
theorem r_X8_init_49 : run E g mi_X8_init d lm RT F pm_X8_init (n + 1) 49 L st h = exI E d lm RT F (run E g mi_X8_init d lm RT F pm_X8_init n) (37, ((8 : Nat) : Int), ((4 : Nat) : Int), 52, [3]) L st h := run_s rfl
theorem r_X8_init_52 : run E g mi_X8_init d lm RT F pm_X8_init (n + 1) 52 L st h = exI E d lm RT F (run E g mi_X8_init d lm RT F pm_X8_init n) (2, ((0 : Nat) : Int), 0, 53, []) L st h := run_s rfl
theorem r_X8_init_53 : run E g mi_X8_init d lm RT F pm_X8_init (n + 1) 53 L st h = exI E d lm RT F (run E g mi_X8_init d lm RT F pm_X8_init n) (41, ((0 : Nat) : Int), 0, 56, []) L st h := run_s rfl
theorem r_X8_init_56 : run E g mi_X8_init d lm RT F pm_X8_init (n + 1) 56 L st h = exI E d lm RT F (run E g mi_X8_init d lm RT F pm_X8_init n) (28, 0, 0, 57, []) L st h := run_s rfl
theorem r_X8_init_57 : run E g mi_X8_init d lm RT F pm_X8_init (n + 1) 57 L st h = exI E d lm RT F (run E g mi_X8_init d lm RT F pm_X8_init n) (53, ((0 : Nat) : Int), ((1 : Nat) : Int), 60, []) L st h := run_s rfl
theorem r_X8_init_60 : run E g mi_X8_init d lm RT F pm_X8_init (n + 1) 60 L st h = exI E d lm RT F (run E g mi_X8_init d lm RT F pm_X8_init n) (37, ((8 : Nat) : Int), ((5 : Nat) : Int), 63, [3]) L st h := run_s rfl
theorem r_X8_init_63 : run E g mi_X8_init d lm RT F pm_X8_init (n + 1) 63 L st h = exI E d lm RT F (run E g mi_X8_init d lm RT F pm_X8_init n) (2, ((0 : Nat) : Int), 0, 64, []) L st h := run_s rfl
theorem r_X8_init_64 : run E g mi_X8_init d lm RT F pm_X8_init (n + 1) 64 L st h = exI E d lm RT F (run E g mi_X8_init d lm RT F pm_X8_init n) (0, 8, 0, 66, []) L st h := run_s rfl
theorem r_X8_init_66 : run E g mi_X8_init d lm RT F pm_X8_init (n + 1) 66 L st h = exI E d lm RT F (run E g mi_X8_init d lm RT F pm_X8_init n) (42, 0, 0, 68, []) L st h := run_s rfl
theorem r_X8_init_68 : run E g mi_X8_init d lm RT F pm_X8_init (n + 1) 68 L st h = exI E d lm RT F (run E g mi_X8_init d lm RT F pm_X8_init n) (37, ((8 : Nat) : Int), ((6 : Nat) : Int), 71, [3]) L st h := run_s rfl
theorem r_X8_init_71 : run E g mi_X8_init d lm RT F pm_X8_init (n + 1) 71 L st h = exI E d lm RT F (run E g mi_X8_init d lm RT F pm_X8_init n) (2, ((0 : Nat) : Int), 0, 72, []) L st h := run_s rfl
theorem r_X8_init_72 : run E g mi_X8_init d lm RT F pm_X8_init (n + 1) 72 L st h = exI E d lm RT F (run E g mi_X8_init d lm RT F pm_X8_init n) (0, 8, 0, 74, []) L st h := run_s rfl
theorem r_X8_init_74 : run E g mi_X8_init d lm RT F pm_X8_init (n + 1) 74 L st h = exI E d lm RT F (run E g mi_X8_init d lm RT F pm_X8_init n) (42, 0, 0, 76, []) L st h := run_s rfl
theorem r_X8_init_76 : run E g mi_X8_init d lm RT F pm_X8_init (n + 1) 76 L st h = exI E d lm RT F (run E g mi_X8_init d lm RT F pm_X8_init n) (37, ((8 : Nat) : Int), ((7 : Nat) : Int), 79, [3]) L st h := run_s rfl
theorem r_X8_init_79 : run E g mi_X8_init d lm RT F pm_X8_init (n + 1) 79 L st h = exI E d lm RT F (run E g mi_X8_init d lm RT F pm_X8_init n) (2, ((0 : Nat) : Int), 0, 80, []) L st h := run_s rfl
theorem r_X8_init_80 : run E g mi_X8_init d lm RT F pm_X8_init (n + 1) 80 L st h = exI E d lm RT F (run E g mi_X8_init d lm RT F pm_X8_init n) (0, 20, 0, 82, []) L st h := run_s rfl
theorem r_X8_init_82 : run E g mi_X8_init d lm RT F pm_X8_init (n + 1) 82 L st h = exI E d lm RT F (run E g mi_X8_init d lm RT F pm_X8_init n) (36, ((8 : Nat) : Int), ((8 : Nat) : Int), 85, [0]) L st h := run_s rfl
theorem r_X8_init_85 : run E g mi_X8_init d lm RT F pm_X8_init (n + 1) 85 L st h = exI E d lm RT F (run E g mi_X8_init d lm RT F pm_X8_init n) (2, ((0 : Nat) : Int), 0, 86, []) L st h := run_s rfl
theorem r_X8_init_86 : run E g mi_X8_init d lm RT F pm_X8_init (n + 1) 86 L st h = exI E d lm RT F (run E g mi_X8_init d lm RT F pm_X8_init n) (0, 300, 0, 89, []) L st h := run_s rfl
theorem r_X8_init_89 : run E g mi_X8_init d lm RT F pm_X8_init (n + 1) 89 L st h = exI E d lm RT F (run E g mi_X8_init d lm RT F pm_X8_init n) (36, ((8 : Nat) : Int), ((9 : Nat) : Int), 92, [0]) L st h := run_s rfl
theorem r_X8_init_92 : run E g mi_X8_init d lm RT F pm_X8_init (n + 1) 92 L st h = exI E d lm RT F (run E g mi_X8_init d lm RT F pm_X8_init n) (2, ((0 : Nat) : Int), 0, 93, []) L st h := run_s rfl
theorem r_X8_init_93 : run E g mi_X8_init d lm RT F pm_X8_init (n + 1) 93 L st h = exI E d lm RT F (run E g mi_X8_init d lm RT F pm_X8_init n) (0, 0, 0, 94, []) L st h := run_s rfl
theorem r_X8_init_94 : run E g mi_X8_init d lm RT F pm_X8_init (n + 1) 94 L st h = exI E d lm RT F (run E g mi_X8_init d lm RT F pm_X8_init n) (36, ((8 : Nat) : Int), ((10 : Nat) : Int), 97, [0]) L st h := run_s rfl
theorem r_X8_init_97 : run E g mi_X8_init d lm RT F pm_X8_init (n + 1) 97 L st h = exI E d lm RT F (run E g mi_X8_init d lm RT F pm_X8_init n) (2, ((0 : Nat) : Int), 0, 98, []) L st h := run_s rfl
theorem r_X8_init_98 : run E g mi_X8_init d lm RT F pm_X8_init (n + 1) 98 L st h = exI E d lm RT F (run E g mi_X8_init d lm RT F pm_X8_init n) (0, 0, 0, 99, []) L st h := run_s rfl
theorem r_X8_init_99 : run E g mi_X8_init d lm RT F pm_X8_init (n + 1) 99 L st h = exI E d lm RT F (run E g mi_X8_init d lm RT F pm_X8_init n) (36, ((8 : Nat) : Int), ((11 : Nat) : Int), 102, [0]) L st h := run_s rfl
theorem r_X8_init_102 : run E g mi_X8_init d lm RT F pm_X8_init (n + 1) 102 L st h = exI E d lm RT F (run E g mi_X8_init d lm RT F pm_X8_init n) (2, ((0 : Nat) : Int), 0, 103, []) L st h := run_s rfl
theorem r_X8_init_103 : run E g mi_X8_init d lm RT F pm_X8_init (n + 1) 103 L st h = exI E d lm RT F (run E g mi_X8_init d lm RT F pm_X8_init n) (0, 0, 0, 104, []) L st h := run_s rfl
theorem r_X8_init_104 : run E g mi_X8_init d lm RT F pm_X8_init (n + 1) 104 L st h = exI E d lm RT F (run E g mi_X8_init d lm RT F pm_X8_init n) (36, ((8 : Nat) : Int), ((12 : Nat) : Int), 107, [0]) L st h := run_s rfl
theorem r_X8_init_107 : run E g mi_X8_init d lm RT F pm_X8_init (n + 1) 107 L st h = exI E d lm RT F (run E g mi_X8_init d lm RT F pm_X8_init n) (2, ((0 : Nat) : Int), 0, 108, []) L st h := run_s rfl
theorem r_X8_init_108 : run E g mi_X8_init d lm RT F pm_X8_init (n + 1) 108 L st h = exI E d lm RT F (run E g mi_X8_init d lm RT F pm_X8_init n) (0, 0, 0, 109, []) L st h := run_s rfl
theorem r_X8_init_109 : run E g mi_X8_init d lm RT F pm_X8_init (n + 1) 109 L st h = exI E d lm RT F (run E g mi_X8_init d lm RT F pm_X8_init n) (36, ((8 : Nat) : Int), ((13 : Nat) : Int), 112, [0]) L st h := run_s rfl
theorem r_X8_init_112 : run E g mi_X8_init d lm RT F pm_X8_init (n + 1) 112 L st h = exI E d lm RT F (run E g mi_X8_init d lm RT F pm_X8_init n) (0, 0, 0, 113, []) L st h := run_s rfl
theorem r_X8_init_113 : run E g mi_X8_init d lm RT F pm_X8_init (n + 1) 113 L st h = exI E d lm RT F (run E g mi_X8_init d lm RT F pm_X8_init n) (4, ((1 : Nat) : Int), 0, 114, []) L st h := run_s rfl
theorem r_X8_init_114 : run E g mi_X8_init d lm RT F pm_X8_init (n + 1) 114 L st h = G E g mi_X8_init d lm RT 114 L st h := run_c rfl
theorem q_X8_init_114 (n : Nat) (hF : FOk E d F) (hx : exI E d lm RT F (run E g mi_X8_init d lm RT F pm_X8_init n) (1, ((1 : Nat) : Int), 0, 115, []) L st h) : G E g mi_X8_init d lm RT 114 L st h := sstep hF (tOk_spec tk_X8_init (by decide +kernel)) (run_sound hF pk_X8_init n) hx
theorem r_X8_init_115 : run E g mi_X8_init d lm RT F pm_X8_init (n + 1) 115 L st h = exI E d lm RT F (run E g mi_X8_init d lm RT F pm_X8_init n) (0, 64, 0, 117, []) L st h := run_s rfl
theorem r_X8_init_117 : run E g mi_X8_init d lm RT F pm_X8_init (n + 1) 117 L st h = exI E d lm RT F (run E g mi_X8_init d lm RT F pm_X8_init n) (32, 3, ((139 : Nat) : Int), 120, []) L st h := run_s rfl
theorem r_X8_init_120 : run E g mi_X8_init d lm RT F pm_X8_init (n + 1) 120 L st h = exI E d lm RT F (run E g mi_X8_init d lm RT F pm_X8_init n) (2, ((0 : Nat) : Int), 0, 121, []) L st h := run_s rfl
theorem r_X8_init_121 : run E g mi_X8_init d lm RT F pm_X8_init (n + 1) 121 L st h = exI E d lm RT F (run E g mi_X8_init d lm RT F pm_X8_init n) (35, ((8 : Nat) : Int), ((1 : Nat) : Int), 124, []) L st h := run_s rfl
theorem r_X8_init_124 : run E g mi_X8_init d lm RT F pm_X8_init (n + 1) 124 L st h = exI E d lm RT F (run E g mi_X8_init d lm RT F pm_X8_init n) (1, ((1 : Nat) : Int), 0, 125, []) L st h := run_s rfl
theorem r_X8_init_125 : run E g mi_X8_init d lm RT F pm_X8_init (n + 1) 125 L st h = exI E d lm RT F (run E g mi_X8_init d lm RT F pm_X8_init n) (41, ((5 : Nat) : Int), 0, 128, []) L st h := run_s rfl
theorem r_X8_init_128 : run E g mi_X8_init d lm RT F pm_X8_init (n + 1) 128 L st h = exI E d lm RT F (run E g mi_X8_init d lm RT F pm_X8_init n) (28, 0, 0, 129, []) L st h := run_s rfl
theorem r_X8_init_129 : run E g mi_X8_init d lm RT F pm_X8_init (n + 1) 129 L st h = exI E d lm RT F (run E g mi_X8_init d lm RT F pm_X8_init n) (53, ((19 : Nat) : Int), ((1 : Nat) : Int), 132, []) L st h := run_s rfl
theorem r_X8_init_132 : run E g mi_X8_init d lm RT F pm_X8_init (n + 1) 132 L st h = exI E d lm RT F (run E g mi_X8_init d lm RT F pm_X8_init n) (50, 0, 0, 133, []) L st h := run_s rfl
theorem r_X8_init_133 : run E g mi_X8_init d lm RT F pm_X8_init (n + 1) 133 L st h = exI E d lm RT F (run E g mi_X8_init d lm RT F pm_X8_init n) (7, ((1 : Nat) : Int), 1, 136, []) L st h := run_s rfl
theorem r_X8_init_136 : run E g mi_X8_init d lm RT F pm_X8_init (n + 1) 136 L st h = exI E d lm RT F (run E g mi_X8_init d lm RT F pm_X8_init n) (33, ((114 : Nat) : Int), 0, 0, []) L st h := run_s rfl
theorem r_X8_init_139 : run E g mi_X8_init d lm RT F pm_X8_init (n + 1) 139 L st h = exI E d lm RT F (run E g mi_X8_init d lm RT F pm_X8_init n) (0, 0, 0, 140, []) L st h := run_s rfl
theorem r_X8_init_140 : run E g mi_X8_init d lm RT F pm_X8_init (n + 1) 140 L st h = exI E d lm RT F (run E g mi_X8_init d lm RT F pm_X8_init n) (4, ((1 : Nat) : Int), 0, 141, []) L st h := run_s rfl
theorem r_X8_init_141 : run E g mi_X8_init d lm RT F pm_X8_init (n + 1) 141 L st h = G E g mi_X8_init d lm RT 141 L st h := run_c rfl
theorem q_X8_init_141 (n : Nat) (hF : FOk E d F) (hx : exI E d lm RT F (run E g mi_X8_init d lm RT F pm_X8_init n) (1, ((1 : Nat) : Int), 0, 142, []) L st h) : G E g mi_X8_init d lm RT 141 L st h := sstep hF (tOk_spec tk_X8_init (by decide +kernel)) (run_sound hF pk_X8_init n) hx
theorem r_X8_init_142 : run E g mi_X8_init d lm RT F pm_X8_init (n + 1) 142 L st h = exI E d lm RT F (run E g mi_X8_init d lm RT F pm_X8_init n) (0, 12, 0, 144, []) L st h := run_s rfl
theorem r_X8_init_144 : run E g mi_X8_init d lm RT F pm_X8_init (n + 1) 144 L st h = exI E d lm RT F (run E g mi_X8_init d lm RT F pm_X8_init n) (32, 3, ((166 : Nat) : Int), 147, []) L st h := run_s rfl
theorem r_X8_init_147 : run E g mi_X8_init d lm RT F pm_X8_init (n + 1) 147 L st h = exI E d lm RT F (run E g mi_X8_init d lm RT F pm_X8_init n) (2, ((0 : Nat) : Int), 0, 148, []) L st h := run_s rfl
theorem r_X8_init_148 : run E g mi_X8_init d lm RT F pm_X8_init (n + 1) 148 L st h = exI E d lm RT F (run E g mi_X8_init d lm RT F pm_X8_init n) (35, ((8 : Nat) : Int), ((3 : Nat) : Int), 151, []) L st h := run_s rfl
theorem r_X8_init_151 : run E g mi_X8_init d lm RT F pm_X8_init (n + 1) 151 L st h = exI E d lm RT F (run E g mi_X8_init d lm RT F pm_X8_init n) (1, ((1 : Nat) : Int), 0, 152, []) L st h := run_s rfl
theorem r_X8_init_152 : run E g mi_X8_init d lm RT F pm_X8_init (n + 1) 152 L st h = exI E d lm RT F (run E g mi_X8_init d lm RT F pm_X8_init n) (41, ((7 : Nat) : Int), 0, 155, []) L st h := run_s rfl
theorem r_X8_init_155 : run E g mi_X8_init d lm RT F pm_X8_init (n + 1) 155 L st h = exI E d lm RT F (run E g mi_X8_init d lm RT F pm_X8_init n) (28, 0, 0, 156, []) L st h := run_s rfl
theorem r_X8_init_156 : run E g mi_X8_init d lm RT F pm_X8_init (n + 1) 156 L st h = exI E d lm RT F (run E g mi_X8_init d lm RT F pm_X8_init n) (53, ((36 : Nat) : Int), ((1 : Nat) : Int), 159, []) L st h := run_s rfl
theorem r_X8_init_159 : run E g mi_X8_init d lm RT F pm_X8_init (n + 1) 159 L st h = exI E d lm RT F (run E g mi_X8_init d lm RT F pm_X8_init n) (50, 0, 0, 160, []) L st h := run_s rfl
theorem r_X8_init_160 : run E g mi_X8_init d lm RT F pm_X8_init (n + 1) 160 L st h = exI E d lm RT F (run E g mi_X8_init d lm RT F pm_X8_init n) (7, ((1 : Nat) : Int), 1, 163, []) L st h := run_s rfl
theorem r_X8_init_163 : run E g mi_X8_init d lm RT F pm_X8_init (n + 1) 163 L st h = exI E d lm RT F (run E g mi_X8_init d lm RT F pm_X8_init n) (33, ((141 : Nat) : Int), 0, 0, []) L st h := run_s rfl
theorem r_X8_init_166 : run E g mi_X8_init d lm RT F pm_X8_init (n + 1) 166 L st h = exI E d lm RT F (run E g mi_X8_init d lm RT F pm_X8_init n) (2, ((0 : Nat) : Int), 0, 167, []) L st h := run_s rfl
theorem r_X8_init_167 : run E g mi_X8_init d lm RT F pm_X8_init (n + 1) 167 L st h = exI E d lm RT F (run E g mi_X8_init d lm RT F pm_X8_init n) (35, ((8 : Nat) : Int), ((4 : Nat) : Int), 170, []) L st h := run_s rfl
theorem r_X8_init_170 : run E g mi_X8_init d lm RT F pm_X8_init (n + 1) 170 L st h = exI E d lm RT F (run E g mi_X8_init d lm RT F pm_X8_init n) (0, 0, 0, 171, []) L st h := run_s rfl
theorem r_X8_init_171 : run E g mi_X8_init d lm RT F pm_X8_init (n + 1) 171 L st h = exI E d lm RT F (run E g mi_X8_init d lm RT F pm_X8_init n) (41, ((4 : Nat) : Int), 0, 174, []) L st h := run_s rfl
theorem r_X8_init_174 : run E g mi_X8_init d lm RT F pm_X8_init (n + 1) 174 L st h = exI E d lm RT F (run E g mi_X8_init d lm RT F pm_X8_init n) (28, 0, 0, 175, []) L st h := run_s rfl
theorem r_X8_init_175 : run E g mi_X8_init d lm RT F pm_X8_init (n + 1) 175 L st h = exI E d lm RT F (run E g mi_X8_init d lm RT F pm_X8_init n) (53, ((16 : Nat) : Int), ((1 : Nat) : Int), 178, []) L st h := run_s rfl
theorem r_X8_init_178 : run E g mi_X8_init d lm RT F pm_X8_init (n + 1) 178 L st h = exI E d lm RT F (run E g mi_X8_init d lm RT F pm_X8_init n) (50, 0, 0, 179, []) L st h := run_s rfl
theorem r_X8_init_179 : run E g mi_X8_init d lm RT F pm_X8_init (n + 1) 179 L st h = exI E d lm RT F (run E g mi_X8_init d lm RT F pm_X8_init n) (2, ((0 : Nat) : Int), 0, 180, []) L st h := run_s rfl
theorem r_X8_init_180 : run E g mi_X8_init d lm RT F pm_X8_init (n + 1) 180 L st h = exI E d lm RT F (run E g mi_X8_init d lm RT F pm_X8_init n) (35, ((8 : Nat) : Int), ((4 : Nat) : Int), 183, []) L st h := run_s rfl
theorem r_X8_init_183 : run E g mi_X8_init d lm RT F pm_X8_init (n + 1) 183 L st h = exI E d lm RT F (run E g mi_X8_init d lm RT F pm_X8_init n) (0, 1, 0, 184, []) L st h := run_s rfl
theorem r_X8_init_184 : run E g mi_X8_init d lm RT F pm_X8_init (n + 1) 184 L st h = exI E d lm RT F (run E g mi_X8_init d lm RT F pm_X8_init n) (41, ((2 : Nat) : Int), 0, 187, []) L st h := run_s rfl
theorem r_X8_init_187 : run E g mi_X8_init d lm RT F pm_X8_init (n + 1) 187 L st h = exI E d lm RT F (run E g mi_X8_init d lm RT F pm_X8_init n) (28, 0, 0, 188, []) L st h := run_s rfl
theorem r_X8_init_188 : run E g mi_X8_init d lm RT F pm_X8_init (n + 1) 188 L st h = exI E d lm RT F (run E g mi_X8_init d lm RT F pm_X8_init n) (53, ((4 : Nat) : Int), ((1 : Nat) : Int), 191, []) L st h := run_s rfl
theorem r_X8_init_191 : run E g mi_X8_init d lm RT F pm_X8_init (n + 1) 191 L st h = exI E d lm RT F (run E g mi_X8_init d lm RT F pm_X8_init n) (50, 0, 0, 192, []) L st h := run_s rfl
theorem r_X8_init_192 : run E g mi_X8_init d lm RT F pm_X8_init (n + 1) 192 L st h = exI E d lm RT F (run E g mi_X8_init d lm RT F pm_X8_init n) (2, ((0 : Nat) : Int), 0, 193, []) L st h := run_s rfl
theorem r_X8_init_193 : run E g mi_X8_init d lm RT F pm_X8_init (n + 1) 193 L st h = exI E d lm RT F (run E g mi_X8_init d lm RT F pm_X8_init n) (35, ((8 : Nat) : Int), ((4 : Nat) : Int), 196, []) L st h := run_s rfl
theorem r_X8_init_196 : run E g mi_X8_init d lm RT F pm_X8_init (n + 1) 196 L st h = exI E d lm RT F (run E g mi_X8_init d lm RT F pm_X8_init n) (0, 2, 0, 197, []) L st h := run_s rfl
theorem r_X8_init_197 : run E g mi_X8_init d lm RT F pm_X8_init (n + 1) 197 L st h = exI E d lm RT F (run E g mi_X8_init d lm RT F pm_X8_init n) (41, ((1 : Nat) : Int), 0, 200, []) L st h := run_s rfl
theorem r_X8_init_200 : run E g mi_X8_init d lm RT F pm_X8_init (n + 1) 200 L st h = exI E d lm RT F (run E g mi_X8_init d lm RT F pm_X8_init n) (28, 0, 0, 201, []) L st h := run_s rfl
theorem r_X8_init_201 : run E g mi_X8_init d lm RT F pm_X8_init (n + 1) 201 L st h = exI E d lm RT F (run E g mi_X8_init d lm RT F pm_X8_init n) (53, ((2 : Nat) : Int), ((1 : Nat) : Int), 204, []) L st h := run_s rfl
theorem r_X8_init_204 : run E g mi_X8_init d lm RT F pm_X8_init (n + 1) 204 L st h = exI E d lm RT F (run E g mi_X8_init d lm RT F pm_X8_init n) (50, 0, 0, 205, []) L st h := run_s rfl
theorem r_X8_init_205 : run E g mi_X8_init d lm RT F pm_X8_init (n + 1) 205 L st h = exI E d lm RT F (run E g mi_X8_init d lm RT F pm_X8_init n) (48, 4, 0, 0, []) L st h := run_s rfl
theorem e_X8_init (n : Nat) {pc : Nat} (hF : FOk E d F) (hx : run E g mi_X8_init d lm RT F pm_X8_init n pc L st h) : G E g mi_X8_init d lm RT pc L st h := run_sound hF pk_X8_init n pc L st h hx
end
def mi_X8_link : MI := (8, cX8_link, 5, 0, false)
theorem mo_X8_link : miOk mi_X8_link (mt 44) = true := by decide +kernel
def tl_X8_link : List (Nat × PT) := [(0, (1, ((1 : Nat) : Int), 0, 1, [])),
  (1, (45, ((65 : Nat) : Int), ((1 : Nat) : Int), 4, [])),
  (4, (31, 0, ((14 : Nat) : Int), 7, [])),
  (7, (1, ((2 : Nat) : Int), 0, 8, [])),
  (8, (45, ((65 : Nat) : Int), ((1 : Nat) : Int), 11, [])),
  (11, (31, 1, ((16 : Nat) : Int), 14, [])),
  (14, (0, (-1), 0, 15, [])),
  (15, (48, 0, 0, 0, [])),
  (16, (1, ((3 : Nat) : Int), 0, 17, [])),
  (17, (45, ((66 : Nat) : Int), ((1 : Nat) : Int), 20, [])),
  (20, (31, 1, ((26 : Nat) : Int), 23, [])),
  (23, (0, (-2), 0, 25, [])),
  (25, (48, 0, 0, 0, [])),
  (26, (1, ((1 : Nat) : Int), 0, 27, [])),
  (27, (1, ((2 : Nat) : Int), 0, 28, [])),
  (28, (32, 0, ((45 : Nat) : Int), 31, [])),
  (31, (2, ((0 : Nat) : Int), 0, 32, [])),
  (32, (35, ((8 : Nat) : Int), ((0 : Nat) : Int), 35, [])),
  (35, (1, ((1 : Nat) : Int), 0, 36, [])),
  (36, (1, ((2 : Nat) : Int), 0, 37, [])),
  (37, (51, ((9 : Nat) : Int), ((3 : Nat) : Int), 40, [3])),
  (40, (0, (-9), 0, 42, [])),
  (42, (32, 0, ((48 : Nat) : Int), 45, [])),
  (45, (0, (-3), 0, 47, [])),
  (47, (48, 0, 0, 0, [])),
  (48, (2, ((0 : Nat) : Int), 0, 49, [])),
  (49, (35, ((8 : Nat) : Int), ((0 : Nat) : Int), 52, [])),
  (52, (51, ((8 : Nat) : Int), ((1 : Nat) : Int), 55, [3])),
  (55, (4, ((4 : Nat) : Int), 0, 57, [])),
  (57, (1, ((4 : Nat) : Int), 0, 59, [])),
  (59, (0, (-9), 0, 61, [])),
  (61, (32, 1, ((67 : Nat) : Int), 64, [])),
  (64, (0, (-4), 0, 66, [])),
  (66, (48, 0, 0, 0, [])),
  (67, (2, ((0 : Nat) : Int), 0, 68, [])),
  (68, (35, ((8 : Nat) : Int), ((0 : Nat) : Int), 71, [])),
  (71, (1, ((4 : Nat) : Int), 0, 73, [])),
  (73, (1, ((1 : Nat) : Int), 0, 74, [])),
  (74, (1, ((2 : Nat) : Int), 0, 75, [])),
  (75, (1, ((3 : Nat) : Int), 0, 76, [])),
  (76, (51, ((11 : Nat) : Int), ((5 : Nat) : Int), 79, [3])),
  (79, (2, ((0 : Nat) : Int), 0, 80, [])),
  (80, (1, ((1 : Nat) : Int), 0, 81, [])),
  (81, (51, ((71 : Nat) : Int), ((2 : Nat) : Int), 84, [8])),
  (84, (2, ((0 : Nat) : Int), 0, 85, [])),
  (85, (1, ((2 : Nat) : Int), 0, 86, [])),
  (86, (51, ((71 : Nat) : Int), ((2 : Nat) : Int), 89, [8])),
  (89, (1, ((4 : Nat) : Int), 0, 91, [])),
  (91, (48, 0, 0, 0, []))]
theorem tk_X8_link_0 : tOk mi_X8_link ((tl_X8_link.drop 0).take 45) = true := by decide +kernel
theorem tk_X8_link_1 : tOk mi_X8_link ((tl_X8_link.drop 45).take 45) = true := by decide +kernel
theorem tk_X8_link : tOk mi_X8_link tl_X8_link = true := by
  refine tOk_cut 45 (by decide) (fun q hq => ?_)
  have hl : tl_X8_link.length = 49 := by decide +kernel
  rw [hl] at hq
  rcases (show q = 0 ∨ q = 1 by omega) with rfl | rfl
  · exact tk_X8_link_0
  · exact tk_X8_link_1
def pm_X8_link (pc : Nat) : Option PT := if [].contains pc then none else tl_X8_link.lookup pc
theorem pk_X8_link : ∀ pc pt, pm_X8_link pc = some pt → okPt mi_X8_link pc pt := fun pc pt h => tOk_pm tk_X8_link h
section
variable {E : ET} {g : GT} {d : Nat} {lm : Nat × Nat} {RT : RTy} {F : FT} {n : Nat} {L : LV} {st : List AV} {h : AH}
theorem r_X8_link_0 : run E g mi_X8_link d lm RT F pm_X8_link (n + 1) 0 L st h = exI E d lm RT F (run E g mi_X8_link d lm RT F pm_X8_link n) (1, ((1 : Nat) : Int), 0, 1, []) L st h := run_s rfl
theorem r_X8_link_1 : run E g mi_X8_link d lm RT F pm_X8_link (n + 1) 1 L st h = exI E d lm RT F (run E g mi_X8_link d lm RT F pm_X8_link n) (45, ((65 : Nat) : Int), ((1 : Nat) : Int), 4, []) L st h := run_s rfl
theorem r_X8_link_4 : run E g mi_X8_link d lm RT F pm_X8_link (n + 1) 4 L st h = exI E d lm RT F (run E g mi_X8_link d lm RT F pm_X8_link n) (31, 0, ((14 : Nat) : Int), 7, []) L st h := run_s rfl
theorem r_X8_link_7 : run E g mi_X8_link d lm RT F pm_X8_link (n + 1) 7 L st h = exI E d lm RT F (run E g mi_X8_link d lm RT F pm_X8_link n) (1, ((2 : Nat) : Int), 0, 8, []) L st h := run_s rfl
theorem r_X8_link_8 : run E g mi_X8_link d lm RT F pm_X8_link (n + 1) 8 L st h = exI E d lm RT F (run E g mi_X8_link d lm RT F pm_X8_link n) (45, ((65 : Nat) : Int), ((1 : Nat) : Int), 11, []) L st h := run_s rfl
theorem r_X8_link_11 : run E g mi_X8_link d lm RT F pm_X8_link (n + 1) 11 L st h = exI E d lm RT F (run E g mi_X8_link d lm RT F pm_X8_link n) (31, 1, ((16 : Nat) : Int), 14, []) L st h := run_s rfl
theorem r_X8_link_14 : run E g mi_X8_link d lm RT F pm_X8_link (n + 1) 14 L st h = exI E d lm RT F (run E g mi_X8_link d lm RT F pm_X8_link n) (0, (-1), 0, 15, []) L st h := run_s rfl
theorem r_X8_link_15 : run E g mi_X8_link d lm RT F pm_X8_link (n + 1) 15 L st h = exI E d lm RT F (run E g mi_X8_link d lm RT F pm_X8_link n) (48, 0, 0, 0, []) L st h := run_s rfl
theorem r_X8_link_16 : run E g mi_X8_link d lm RT F pm_X8_link (n + 1) 16 L st h = exI E d lm RT F (run E g mi_X8_link d lm RT F pm_X8_link n) (1, ((3 : Nat) : Int), 0, 17, []) L st h := run_s rfl
theorem r_X8_link_17 : run E g mi_X8_link d lm RT F pm_X8_link (n + 1) 17 L st h = exI E d lm RT F (run E g mi_X8_link d lm RT F pm_X8_link n) (45, ((66 : Nat) : Int), ((1 : Nat) : Int), 20, []) L st h := run_s rfl
theorem r_X8_link_20 : run E g mi_X8_link d lm RT F pm_X8_link (n + 1) 20 L st h = exI E d lm RT F (run E g mi_X8_link d lm RT F pm_X8_link n) (31, 1, ((26 : Nat) : Int), 23, []) L st h := run_s rfl
theorem r_X8_link_23 : run E g mi_X8_link d lm RT F pm_X8_link (n + 1) 23 L st h = exI E d lm RT F (run E g mi_X8_link d lm RT F pm_X8_link n) (0, (-2), 0, 25, []) L st h := run_s rfl
theorem r_X8_link_25 : run E g mi_X8_link d lm RT F pm_X8_link (n + 1) 25 L st h = exI E d lm RT F (run E g mi_X8_link d lm RT F pm_X8_link n) (48, 0, 0, 0, []) L st h := run_s rfl
theorem r_X8_link_26 : run E g mi_X8_link d lm RT F pm_X8_link (n + 1) 26 L st h = exI E d lm RT F (run E g mi_X8_link d lm RT F pm_X8_link n) (1, ((1 : Nat) : Int), 0, 27, []) L st h := run_s rfl
theorem r_X8_link_27 : run E g mi_X8_link d lm RT F pm_X8_link (n + 1) 27 L st h = exI E d lm RT F (run E g mi_X8_link d lm RT F pm_X8_link n) (1, ((2 : Nat) : Int), 0, 28, []) L st h := run_s rfl
theorem r_X8_link_28 : run E g mi_X8_link d lm RT F pm_X8_link (n + 1) 28 L st h = exI E d lm RT F (run E g mi_X8_link d lm RT F pm_X8_link n) (32, 0, ((45 : Nat) : Int), 31, []) L st h := run_s rfl
theorem r_X8_link_31 : run E g mi_X8_link d lm RT F pm_X8_link (n + 1) 31 L st h = exI E d lm RT F (run E g mi_X8_link d lm RT F pm_X8_link n) (2, ((0 : Nat) : Int), 0, 32, []) L st h := run_s rfl
theorem r_X8_link_32 : run E g mi_X8_link d lm RT F pm_X8_link (n + 1) 32 L st h = exI E d lm RT F (run E g mi_X8_link d lm RT F pm_X8_link n) (35, ((8 : Nat) : Int), ((0 : Nat) : Int), 35, []) L st h := run_s rfl
theorem r_X8_link_35 : run E g mi_X8_link d lm RT F pm_X8_link (n + 1) 35 L st h = exI E d lm RT F (run E g mi_X8_link d lm RT F pm_X8_link n) (1, ((1 : Nat) : Int), 0, 36, []) L st h := run_s rfl
theorem r_X8_link_36 : run E g mi_X8_link d lm RT F pm_X8_link (n + 1) 36 L st h = exI E d lm RT F (run E g mi_X8_link d lm RT F pm_X8_link n) (1, ((2 : Nat) : Int), 0, 37, []) L st h := run_s rfl
theorem r_X8_link_37 : run E g mi_X8_link d lm RT F pm_X8_link (n + 1) 37 L st h = exI E d lm RT F (run E g mi_X8_link d lm RT F pm_X8_link n) (51, ((9 : Nat) : Int), ((3 : Nat) : Int), 40, [3]) L st h := run_s rfl
theorem r_X8_link_40 : run E g mi_X8_link d lm RT F pm_X8_link (n + 1) 40 L st h = exI E d lm RT F (run E g mi_X8_link d lm RT F pm_X8_link n) (0, (-9), 0, 42, []) L st h := run_s rfl
theorem r_X8_link_42 : run E g mi_X8_link d lm RT F pm_X8_link (n + 1) 42 L st h = exI E d lm RT F (run E g mi_X8_link d lm RT F pm_X8_link n) (32, 0, ((48 : Nat) : Int), 45, []) L st h := run_s rfl
theorem r_X8_link_45 : run E g mi_X8_link d lm RT F pm_X8_link (n + 1) 45 L st h = exI E d lm RT F (run E g mi_X8_link d lm RT F pm_X8_link n) (0, (-3), 0, 47, []) L st h := run_s rfl
theorem r_X8_link_47 : run E g mi_X8_link d lm RT F pm_X8_link (n + 1) 47 L st h = exI E d lm RT F (run E g mi_X8_link d lm RT F pm_X8_link n) (48, 0, 0, 0, []) L st h := run_s rfl
theorem r_X8_link_48 : run E g mi_X8_link d lm RT F pm_X8_link (n + 1) 48 L st h = exI E d lm RT F (run E g mi_X8_link d lm RT F pm_X8_link n) (2, ((0 : Nat) : Int), 0, 49, []) L st h := run_s rfl
theorem r_X8_link_49 : run E g mi_X8_link d lm RT F pm_X8_link (n + 1) 49 L st h = exI E d lm RT F (run E g mi_X8_link d lm RT F pm_X8_link n) (35, ((8 : Nat) : Int), ((0 : Nat) : Int), 52, []) L st h := run_s rfl
theorem r_X8_link_52 : run E g mi_X8_link d lm RT F pm_X8_link (n + 1) 52 L st h = exI E d lm RT F (run E g mi_X8_link d lm RT F pm_X8_link n) (51, ((8 : Nat) : Int), ((1 : Nat) : Int), 55, [3]) L st h := run_s rfl
theorem r_X8_link_55 : run E g mi_X8_link d lm RT F pm_X8_link (n + 1) 55 L st h = exI E d lm RT F (run E g mi_X8_link d lm RT F pm_X8_link n) (4, ((4 : Nat) : Int), 0, 57, []) L st h := run_s rfl
theorem r_X8_link_57 : run E g mi_X8_link d lm RT F pm_X8_link (n + 1) 57 L st h = exI E d lm RT F (run E g mi_X8_link d lm RT F pm_X8_link n) (1, ((4 : Nat) : Int), 0, 59, []) L st h := run_s rfl
theorem r_X8_link_59 : run E g mi_X8_link d lm RT F pm_X8_link (n + 1) 59 L st h = exI E d lm RT F (run E g mi_X8_link d lm RT F pm_X8_link n) (0, (-9), 0, 61, []) L st h := run_s rfl
theorem r_X8_link_61 : run E g mi_X8_link d lm RT F pm_X8_link (n + 1) 61 L st h = exI E d lm RT F (run E g mi_X8_link d lm RT F pm_X8_link n) (32, 1, ((67 : Nat) : Int), 64, []) L st h := run_s rfl
theorem r_X8_link_64 : run E g mi_X8_link d lm RT F pm_X8_link (n + 1) 64 L st h = exI E d lm RT F (run E g mi_X8_link d lm RT F pm_X8_link n) (0, (-4), 0, 66, []) L st h := run_s rfl
theorem r_X8_link_66 : run E g mi_X8_link d lm RT F pm_X8_link (n + 1) 66 L st h = exI E d lm RT F (run E g mi_X8_link d lm RT F pm_X8_link n) (48, 0, 0, 0, []) L st h := run_s rfl
theorem r_X8_link_67 : run E g mi_X8_link d lm RT F pm_X8_link (n + 1) 67 L st h = exI E d lm RT F (run E g mi_X8_link d lm RT F pm_X8_link n) (2, ((0 : Nat) : Int), 0, 68, []) L st h := run_s rfl
theorem r_X8_link_68 : run E g mi_X8_link d lm RT F pm_X8_link (n + 1) 68 L st h = exI E d lm RT F (run E g mi_X8_link d lm RT F pm_X8_link n) (35, ((8 : Nat) : Int), ((0 : Nat) : Int), 71, []) L st h := run_s rfl
theorem r_X8_link_71 : run E g mi_X8_link d lm RT F pm_X8_link (n + 1) 71 L st h = exI E d lm RT F (run E g mi_X8_link d lm RT F pm_X8_link n) (1, ((4 : Nat) : Int), 0, 73, []) L st h := run_s rfl
theorem r_X8_link_73 : run E g mi_X8_link d lm RT F pm_X8_link (n + 1) 73 L st h = exI E d lm RT F (run E g mi_X8_link d lm RT F pm_X8_link n) (1, ((1 : Nat) : Int), 0, 74, []) L st h := run_s rfl
theorem r_X8_link_74 : run E g mi_X8_link d lm RT F pm_X8_link (n + 1) 74 L st h = exI E d lm RT F (run E g mi_X8_link d lm RT F pm_X8_link n) (1, ((2 : Nat) : Int), 0, 75, []) L st h := run_s rfl
theorem r_X8_link_75 : run E g mi_X8_link d lm RT F pm_X8_link (n + 1) 75 L st h = exI E d lm RT F (run E g mi_X8_link d lm RT F pm_X8_link n) (1, ((3 : Nat) : Int), 0, 76, []) L st h := run_s rfl
theorem r_X8_link_76 : run E g mi_X8_link d lm RT F pm_X8_link (n + 1) 76 L st h = exI E d lm RT F (run E g mi_X8_link d lm RT F pm_X8_link n) (51, ((11 : Nat) : Int), ((5 : Nat) : Int), 79, [3]) L st h := run_s rfl
theorem r_X8_link_79 : run E g mi_X8_link d lm RT F pm_X8_link (n + 1) 79 L st h = exI E d lm RT F (run E g mi_X8_link d lm RT F pm_X8_link n) (2, ((0 : Nat) : Int), 0, 80, []) L st h := run_s rfl
theorem r_X8_link_80 : run E g mi_X8_link d lm RT F pm_X8_link (n + 1) 80 L st h = exI E d lm RT F (run E g mi_X8_link d lm RT F pm_X8_link n) (1, ((1 : Nat) : Int), 0, 81, []) L st h := run_s rfl
theorem r_X8_link_81 : run E g mi_X8_link d lm RT F pm_X8_link (n + 1) 81 L st h = exI E d lm RT F (run E g mi_X8_link d lm RT F pm_X8_link n) (51, ((71 : Nat) : Int), ((2 : Nat) : Int), 84, [8]) L st h := run_s rfl
theorem r_X8_link_84 : run E g mi_X8_link d lm RT F pm_X8_link (n + 1) 84 L st h = exI E d lm RT F (run E g mi_X8_link d lm RT F pm_X8_link n) (2, ((0 : Nat) : Int), 0, 85, []) L st h := run_s rfl
theorem r_X8_link_85 : run E g mi_X8_link d lm RT F pm_X8_link (n + 1) 85 L st h = exI E d lm RT F (run E g mi_X8_link d lm RT F pm_X8_link n) (1, ((2 : Nat) : Int), 0, 86, []) L st h := run_s rfl
theorem r_X8_link_86 : run E g mi_X8_link d lm RT F pm_X8_link (n + 1) 86 L st h = exI E d lm RT F (run E g mi_X8_link d lm RT F pm_X8_link n) (51, ((71 : Nat) : Int), ((2 : Nat) : Int), 89, [8]) L st h := run_s rfl
theorem r_X8_link_89 : run E g mi_X8_link d lm RT F pm_X8_link (n + 1) 89 L st h = exI E d lm RT F (run E g mi_X8_link d lm RT F pm_X8_link n) (1, ((4 : Nat) : Int), 0, 91, []) L st h := run_s rfl
theorem r_X8_link_91 : run E g mi_X8_link d lm RT F pm_X8_link (n + 1) 91 L st h = exI E d lm RT F (run E g mi_X8_link d lm RT F pm_X8_link n) (48, 0, 0, 0, []) L st h := run_s rfl
theorem e_X8_link (n : Nat) {pc : Nat} (hF : FOk E d F) (hx : run E g mi_X8_link d lm RT F pm_X8_link n pc L st h) : G E g mi_X8_link d lm RT pc L st h := run_sound hF pk_X8_link n pc L st h hx
end
def mi_X8_cut : MI := (8, cX8_cut, 3, 0, false)
theorem mo_X8_cut : miOk mi_X8_cut (mt 45) = true := by decide +kernel
def tl_X8_cut : List (Nat × PT) := [(0, (2, ((0 : Nat) : Int), 0, 1, [])),
  (1, (35, ((8 : Nat) : Int), ((0 : Nat) : Int), 4, [])),
  (4, (1, ((1 : Nat) : Int), 0, 5, [])),
  (5, (52, ((7 : Nat) : Int), ((2 : Nat) : Int), 8, [3])),
  (8, (31, 1, ((13 : Nat) : Int), 11, [])),
  (11, (0, (-1), 0, 12, [])),
  (12, (48, 0, 0, 0, [])),
  (13, (2, ((0 : Nat) : Int), 0, 14, [])),
  (14, (1, ((1 : Nat) : Int), 0, 15, [])),
  (15, (51, ((75 : Nat) : Int), ((2 : Nat) : Int), 18, [8])),
  (18, (4, ((2 : Nat) : Int), 0, 19, [])),
  (19, (2, ((0 : Nat) : Int), 0, 20, [])),
  (20, (35, ((8 : Nat) : Int), ((0 : Nat) : Int), 23, [])),
  (23, (1, ((1 : Nat) : Int), 0, 24, [])),
  (24, (51, ((12 : Nat) : Int), ((2 : Nat) : Int), 27, [3])),
  (27, (2, ((0 : Nat) : Int), 0, 28, [])),
  (28, (2, ((0 : Nat) : Int), 0, 29, [])),
  (29, (35, ((8 : Nat) : Int), ((0 : Nat) : Int), 32, [])),
  (32, (35, ((3 : Nat) : Int), ((0 : Nat) : Int), 35, [])),
  (35, (1, ((1 : Nat) : Int), 0, 36, [])),
  (36, (38, 0, 0, 37, [])),
  (37, (51, ((71 : Nat) : Int), ((2 : Nat) : Int), 40, [8])),
  (40, (2, ((0 : Nat) : Int), 0, 41, [])),
  (41, (2, ((0 : Nat) : Int), 0, 42, [])),
  (42, (35, ((8 : Nat) : Int), ((0 : Nat) : Int), 45, [])),
  (45, (35, ((3 : Nat) : Int), ((1 : Nat) : Int), 48, [])),
  (48, (1, ((1 : Nat) : Int), 0, 49, [])),
  (49, (38, 0, 0, 50, [])),
  (50, (51, ((71 : Nat) : Int), ((2 : Nat) : Int), 53, [8])),
  (53, (1, ((2 : Nat) : Int), 0, 54, [])),
  (54, (48, 0, 0, 0, []))]
theorem tk_X8_cut : tOk mi_X8_cut tl_X8_cut = true := by decide +kernel
def pm_X8_cut (pc : Nat) : Option PT := if [].contains pc then none else tl_X8_cut.lookup pc
theorem pk_X8_cut : ∀ pc pt, pm_X8_cut pc = some pt → okPt mi_X8_cut pc pt := fun pc pt h => tOk_pm tk_X8_cut h
section
variable {E : ET} {g : GT} {d : Nat} {lm : Nat × Nat} {RT : RTy} {F : FT} {n : Nat} {L : LV} {st : List AV} {h : AH}
theorem r_X8_cut_0 : run E g mi_X8_cut d lm RT F pm_X8_cut (n + 1) 0 L st h = exI E d lm RT F (run E g mi_X8_cut d lm RT F pm_X8_cut n) (2, ((0 : Nat) : Int), 0, 1, []) L st h := run_s rfl
theorem r_X8_cut_1 : run E g mi_X8_cut d lm RT F pm_X8_cut (n + 1) 1 L st h = exI E d lm RT F (run E g mi_X8_cut d lm RT F pm_X8_cut n) (35, ((8 : Nat) : Int), ((0 : Nat) : Int), 4, []) L st h := run_s rfl
theorem r_X8_cut_4 : run E g mi_X8_cut d lm RT F pm_X8_cut (n + 1) 4 L st h = exI E d lm RT F (run E g mi_X8_cut d lm RT F pm_X8_cut n) (1, ((1 : Nat) : Int), 0, 5, []) L st h := run_s rfl
theorem r_X8_cut_5 : run E g mi_X8_cut d lm RT F pm_X8_cut (n + 1) 5 L st h = exI E d lm RT F (run E g mi_X8_cut d lm RT F pm_X8_cut n) (52, ((7 : Nat) : Int), ((2 : Nat) : Int), 8, [3]) L st h := run_s rfl
theorem r_X8_cut_8 : run E g mi_X8_cut d lm RT F pm_X8_cut (n + 1) 8 L st h = exI E d lm RT F (run E g mi_X8_cut d lm RT F pm_X8_cut n) (31, 1, ((13 : Nat) : Int), 11, []) L st h := run_s rfl
theorem r_X8_cut_11 : run E g mi_X8_cut d lm RT F pm_X8_cut (n + 1) 11 L st h = exI E d lm RT F (run E g mi_X8_cut d lm RT F pm_X8_cut n) (0, (-1), 0, 12, []) L st h := run_s rfl
theorem r_X8_cut_12 : run E g mi_X8_cut d lm RT F pm_X8_cut (n + 1) 12 L st h = exI E d lm RT F (run E g mi_X8_cut d lm RT F pm_X8_cut n) (48, 0, 0, 0, []) L st h := run_s rfl
theorem r_X8_cut_13 : run E g mi_X8_cut d lm RT F pm_X8_cut (n + 1) 13 L st h = exI E d lm RT F (run E g mi_X8_cut d lm RT F pm_X8_cut n) (2, ((0 : Nat) : Int), 0, 14, []) L st h := run_s rfl
theorem r_X8_cut_14 : run E g mi_X8_cut d lm RT F pm_X8_cut (n + 1) 14 L st h = exI E d lm RT F (run E g mi_X8_cut d lm RT F pm_X8_cut n) (1, ((1 : Nat) : Int), 0, 15, []) L st h := run_s rfl
theorem r_X8_cut_15 : run E g mi_X8_cut d lm RT F pm_X8_cut (n + 1) 15 L st h = exI E d lm RT F (run E g mi_X8_cut d lm RT F pm_X8_cut n) (51, ((75 : Nat) : Int), ((2 : Nat) : Int), 18, [8]) L st h := run_s rfl
theorem r_X8_cut_18 : run E g mi_X8_cut d lm RT F pm_X8_cut (n + 1) 18 L st h = exI E d lm RT F (run E g mi_X8_cut d lm RT F pm_X8_cut n) (4, ((2 : Nat) : Int), 0, 19, []) L st h := run_s rfl
theorem r_X8_cut_19 : run E g mi_X8_cut d lm RT F pm_X8_cut (n + 1) 19 L st h = exI E d lm RT F (run E g mi_X8_cut d lm RT F pm_X8_cut n) (2, ((0 : Nat) : Int), 0, 20, []) L st h := run_s rfl
theorem r_X8_cut_20 : run E g mi_X8_cut d lm RT F pm_X8_cut (n + 1) 20 L st h = exI E d lm RT F (run E g mi_X8_cut d lm RT F pm_X8_cut n) (35, ((8 : Nat) : Int), ((0 : Nat) : Int), 23, []) L st h := run_s rfl
theorem r_X8_cut_23 : run E g mi_X8_cut d lm RT F pm_X8_cut (n + 1) 23 L st h = exI E d lm RT F (run E g mi_X8_cut d lm RT F pm_X8_cut n) (1, ((1 : Nat) : Int), 0, 24, []) L st h := run_s rfl
theorem r_X8_cut_24 : run E g mi_X8_cut d lm RT F pm_X8_cut (n + 1) 24 L st h = exI E d lm RT F (run E g mi_X8_cut d lm RT F pm_X8_cut n) (51, ((12 : Nat) : Int), ((2 : Nat) : Int), 27, [3]) L st h := run_s rfl
theorem r_X8_cut_27 : run E g mi_X8_cut d lm RT F pm_X8_cut (n + 1) 27 L st h = exI E d lm RT F (run E g mi_X8_cut d lm RT F pm_X8_cut n) (2, ((0 : Nat) : Int), 0, 28, []) L st h := run_s rfl
theorem r_X8_cut_28 : run E g mi_X8_cut d lm RT F pm_X8_cut (n + 1) 28 L st h = exI E d lm RT F (run E g mi_X8_cut d lm RT F pm_X8_cut n) (2, ((0 : Nat) : Int), 0, 29, []) L st h := run_s rfl
theorem r_X8_cut_29 : run E g mi_X8_cut d lm RT F pm_X8_cut (n + 1) 29 L st h = exI E d lm RT F (run E g mi_X8_cut d lm RT F pm_X8_cut n) (35, ((8 : Nat) : Int), ((0 : Nat) : Int), 32, []) L st h := run_s rfl
theorem r_X8_cut_32 : run E g mi_X8_cut d lm RT F pm_X8_cut (n + 1) 32 L st h = exI E d lm RT F (run E g mi_X8_cut d lm RT F pm_X8_cut n) (35, ((3 : Nat) : Int), ((0 : Nat) : Int), 35, []) L st h := run_s rfl
theorem r_X8_cut_35 : run E g mi_X8_cut d lm RT F pm_X8_cut (n + 1) 35 L st h = exI E d lm RT F (run E g mi_X8_cut d lm RT F pm_X8_cut n) (1, ((1 : Nat) : Int), 0, 36, []) L st h := run_s rfl
theorem r_X8_cut_36 : run E g mi_X8_cut d lm RT F pm_X8_cut (n + 1) 36 L st h = exI E d lm RT F (run E g mi_X8_cut d lm RT F pm_X8_cut n) (38, 0, 0, 37, []) L st h := run_s rfl
theorem r_X8_cut_37 : run E g mi_X8_cut d lm RT F pm_X8_cut (n + 1) 37 L st h = exI E d lm RT F (run E g mi_X8_cut d lm RT F pm_X8_cut n) (51, ((71 : Nat) : Int), ((2 : Nat) : Int), 40, [8]) L st h := run_s rfl
theorem r_X8_cut_40 : run E g mi_X8_cut d lm RT F pm_X8_cut (n + 1) 40 L st h = exI E d lm RT F (run E g mi_X8_cut d lm RT F pm_X8_cut n) (2, ((0 : Nat) : Int), 0, 41, []) L st h := run_s rfl
theorem r_X8_cut_41 : run E g mi_X8_cut d lm RT F pm_X8_cut (n + 1) 41 L st h = exI E d lm RT F (run E g mi_X8_cut d lm RT F pm_X8_cut n) (2, ((0 : Nat) : Int), 0, 42, []) L st h := run_s rfl
theorem r_X8_cut_42 : run E g mi_X8_cut d lm RT F pm_X8_cut (n + 1) 42 L st h = exI E d lm RT F (run E g mi_X8_cut d lm RT F pm_X8_cut n) (35, ((8 : Nat) : Int), ((0 : Nat) : Int), 45, []) L st h := run_s rfl
theorem r_X8_cut_45 : run E g mi_X8_cut d lm RT F pm_X8_cut (n + 1) 45 L st h = exI E d lm RT F (run E g mi_X8_cut d lm RT F pm_X8_cut n) (35, ((3 : Nat) : Int), ((1 : Nat) : Int), 48, []) L st h := run_s rfl
theorem r_X8_cut_48 : run E g mi_X8_cut d lm RT F pm_X8_cut (n + 1) 48 L st h = exI E d lm RT F (run E g mi_X8_cut d lm RT F pm_X8_cut n) (1, ((1 : Nat) : Int), 0, 49, []) L st h := run_s rfl
theorem r_X8_cut_49 : run E g mi_X8_cut d lm RT F pm_X8_cut (n + 1) 49 L st h = exI E d lm RT F (run E g mi_X8_cut d lm RT F pm_X8_cut n) (38, 0, 0, 50, []) L st h := run_s rfl
theorem r_X8_cut_50 : run E g mi_X8_cut d lm RT F pm_X8_cut (n + 1) 50 L st h = exI E d lm RT F (run E g mi_X8_cut d lm RT F pm_X8_cut n) (51, ((71 : Nat) : Int), ((2 : Nat) : Int), 53, [8]) L st h := run_s rfl
theorem r_X8_cut_53 : run E g mi_X8_cut d lm RT F pm_X8_cut (n + 1) 53 L st h = exI E d lm RT F (run E g mi_X8_cut d lm RT F pm_X8_cut n) (1, ((2 : Nat) : Int), 0, 54, []) L st h := run_s rfl
theorem r_X8_cut_54 : run E g mi_X8_cut d lm RT F pm_X8_cut (n + 1) 54 L st h = exI E d lm RT F (run E g mi_X8_cut d lm RT F pm_X8_cut n) (48, 0, 0, 0, []) L st h := run_s rfl
theorem e_X8_cut (n : Nat) {pc : Nat} (hF : FOk E d F) (hx : run E g mi_X8_cut d lm RT F pm_X8_cut n pc L st h) : G E g mi_X8_cut d lm RT pc L st h := run_sound hF pk_X8_cut n pc L st h hx
end
def mi_X8_delay : MI := (8, cX8_delay, 4, 0, false)
theorem mo_X8_delay : miOk mi_X8_delay (mt 46) = true := by decide +kernel
def tl_X8_delay : List (Nat × PT) := [(0, (2, ((0 : Nat) : Int), 0, 1, [])),
  (1, (35, ((8 : Nat) : Int), ((0 : Nat) : Int), 4, [])),
  (4, (1, ((1 : Nat) : Int), 0, 5, [])),
  (5, (52, ((7 : Nat) : Int), ((2 : Nat) : Int), 8, [3])),
  (8, (31, 1, ((13 : Nat) : Int), 11, [])),
  (11, (0, (-1), 0, 12, [])),
  (12, (48, 0, 0, 0, [])),
  (13, (1, ((2 : Nat) : Int), 0, 14, [])),
  (14, (45, ((66 : Nat) : Int), ((1 : Nat) : Int), 17, [])),
  (17, (31, 1, ((23 : Nat) : Int), 20, [])),
  (20, (0, (-2), 0, 22, [])),
  (22, (48, 0, 0, 0, [])),
  (23, (2, ((0 : Nat) : Int), 0, 24, [])),
  (24, (35, ((8 : Nat) : Int), ((0 : Nat) : Int), 27, [])),
  (27, (35, ((3 : Nat) : Int), ((2 : Nat) : Int), 30, [])),
  (30, (1, ((1 : Nat) : Int), 0, 31, [])),
  (31, (38, 0, 0, 32, [])),
  (32, (4, ((3 : Nat) : Int), 0, 33, [])),
  (33, (2, ((0 : Nat) : Int), 0, 34, [])),
  (34, (35, ((8 : Nat) : Int), ((0 : Nat) : Int), 37, [])),
  (37, (35, ((3 : Nat) : Int), ((2 : Nat) : Int), 40, [])),
  (40, (1, ((1 : Nat) : Int), 0, 41, [])),
  (41, (1, ((2 : Nat) : Int), 0, 42, [])),
  (42, (39, 0, 0, 43, [])),
  (43, (1, ((3 : Nat) : Int), 0, 44, [])),
  (44, (48, 0, 0, 0, []))]
theorem tk_X8_delay : tOk mi_X8_delay tl_X8_delay = true := by decide +kernel
def pm_X8_delay (pc : Nat) : Option PT := if [].contains pc then none else tl_X8_delay.lookup pc
theorem pk_X8_delay : ∀ pc pt, pm_X8_delay pc = some pt → okPt mi_X8_delay pc pt := fun pc pt h => tOk_pm tk_X8_delay h
section
variable {E : ET} {g : GT} {d : Nat} {lm : Nat × Nat} {RT : RTy} {F : FT} {n : Nat} {L : LV} {st : List AV} {h : AH}
theorem r_X8_delay_0 : run E g mi_X8_delay d lm RT F pm_X8_delay (n + 1) 0 L st h = exI E d lm RT F (run E g mi_X8_delay d lm RT F pm_X8_delay n) (2, ((0 : Nat) : Int), 0, 1, []) L st h := run_s rfl
theorem r_X8_delay_1 : run E g mi_X8_delay d lm RT F pm_X8_delay (n + 1) 1 L st h = exI E d lm RT F (run E g mi_X8_delay d lm RT F pm_X8_delay n) (35, ((8 : Nat) : Int), ((0 : Nat) : Int), 4, []) L st h := run_s rfl
theorem r_X8_delay_4 : run E g mi_X8_delay d lm RT F pm_X8_delay (n + 1) 4 L st h = exI E d lm RT F (run E g mi_X8_delay d lm RT F pm_X8_delay n) (1, ((1 : Nat) : Int), 0, 5, []) L st h := run_s rfl
theorem r_X8_delay_5 : run E g mi_X8_delay d lm RT F pm_X8_delay (n + 1) 5 L st h = exI E d lm RT F (run E g mi_X8_delay d lm RT F pm_X8_delay n) (52, ((7 : Nat) : Int), ((2 : Nat) : Int), 8, [3]) L st h := run_s rfl
theorem r_X8_delay_8 : run E g mi_X8_delay d lm RT F pm_X8_delay (n + 1) 8 L st h = exI E d lm RT F (run E g mi_X8_delay d lm RT F pm_X8_delay n) (31, 1, ((13 : Nat) : Int), 11, []) L st h := run_s rfl
theorem r_X8_delay_11 : run E g mi_X8_delay d lm RT F pm_X8_delay (n + 1) 11 L st h = exI E d lm RT F (run E g mi_X8_delay d lm RT F pm_X8_delay n) (0, (-1), 0, 12, []) L st h := run_s rfl
theorem r_X8_delay_12 : run E g mi_X8_delay d lm RT F pm_X8_delay (n + 1) 12 L st h = exI E d lm RT F (run E g mi_X8_delay d lm RT F pm_X8_delay n) (48, 0, 0, 0, []) L st h := run_s rfl
theorem r_X8_delay_13 : run E g mi_X8_delay d lm RT F pm_X8_delay (n + 1) 13 L st h = exI E d lm RT F (run E g mi_X8_delay d lm RT F pm_X8_delay n) (1, ((2 : Nat) : Int), 0, 14, []) L st h := run_s rfl
theorem r_X8_delay_14 : run E g mi_X8_delay d lm RT F pm_X8_delay (n + 1) 14 L st h = exI E d lm RT F (run E g mi_X8_delay d lm RT F pm_X8_delay n) (45, ((66 : Nat) : Int), ((1 : Nat) : Int), 17, []) L st h := run_s rfl
theorem r_X8_delay_17 : run E g mi_X8_delay d lm RT F pm_X8_delay (n + 1) 17 L st h = exI E d lm RT F (run E g mi_X8_delay d lm RT F pm_X8_delay n) (31, 1, ((23 : Nat) : Int), 20, []) L st h := run_s rfl
theorem r_X8_delay_20 : run E g mi_X8_delay d lm RT F pm_X8_delay (n + 1) 20 L st h = exI E d lm RT F (run E g mi_X8_delay d lm RT F pm_X8_delay n) (0, (-2), 0, 22, []) L st h := run_s rfl
theorem r_X8_delay_22 : run E g mi_X8_delay d lm RT F pm_X8_delay (n + 1) 22 L st h = exI E d lm RT F (run E g mi_X8_delay d lm RT F pm_X8_delay n) (48, 0, 0, 0, []) L st h := run_s rfl
theorem r_X8_delay_23 : run E g mi_X8_delay d lm RT F pm_X8_delay (n + 1) 23 L st h = exI E d lm RT F (run E g mi_X8_delay d lm RT F pm_X8_delay n) (2, ((0 : Nat) : Int), 0, 24, []) L st h := run_s rfl
theorem r_X8_delay_24 : run E g mi_X8_delay d lm RT F pm_X8_delay (n + 1) 24 L st h = exI E d lm RT F (run E g mi_X8_delay d lm RT F pm_X8_delay n) (35, ((8 : Nat) : Int), ((0 : Nat) : Int), 27, []) L st h := run_s rfl
theorem r_X8_delay_27 : run E g mi_X8_delay d lm RT F pm_X8_delay (n + 1) 27 L st h = exI E d lm RT F (run E g mi_X8_delay d lm RT F pm_X8_delay n) (35, ((3 : Nat) : Int), ((2 : Nat) : Int), 30, []) L st h := run_s rfl
theorem r_X8_delay_30 : run E g mi_X8_delay d lm RT F pm_X8_delay (n + 1) 30 L st h = exI E d lm RT F (run E g mi_X8_delay d lm RT F pm_X8_delay n) (1, ((1 : Nat) : Int), 0, 31, []) L st h := run_s rfl
theorem r_X8_delay_31 : run E g mi_X8_delay d lm RT F pm_X8_delay (n + 1) 31 L st h = exI E d lm RT F (run E g mi_X8_delay d lm RT F pm_X8_delay n) (38, 0, 0, 32, []) L st h := run_s rfl
theorem r_X8_delay_32 : run E g mi_X8_delay d lm RT F pm_X8_delay (n + 1) 32 L st h = exI E d lm RT F (run E g mi_X8_delay d lm RT F pm_X8_delay n) (4, ((3 : Nat) : Int), 0, 33, []) L st h := run_s rfl
theorem r_X8_delay_33 : run E g mi_X8_delay d lm RT F pm_X8_delay (n + 1) 33 L st h = exI E d lm RT F (run E g mi_X8_delay d lm RT F pm_X8_delay n) (2, ((0 : Nat) : Int), 0, 34, []) L st h := run_s rfl
theorem r_X8_delay_34 : run E g mi_X8_delay d lm RT F pm_X8_delay (n + 1) 34 L st h = exI E d lm RT F (run E g mi_X8_delay d lm RT F pm_X8_delay n) (35, ((8 : Nat) : Int), ((0 : Nat) : Int), 37, []) L st h := run_s rfl
theorem r_X8_delay_37 : run E g mi_X8_delay d lm RT F pm_X8_delay (n + 1) 37 L st h = exI E d lm RT F (run E g mi_X8_delay d lm RT F pm_X8_delay n) (35, ((3 : Nat) : Int), ((2 : Nat) : Int), 40, []) L st h := run_s rfl
theorem r_X8_delay_40 : run E g mi_X8_delay d lm RT F pm_X8_delay (n + 1) 40 L st h = exI E d lm RT F (run E g mi_X8_delay d lm RT F pm_X8_delay n) (1, ((1 : Nat) : Int), 0, 41, []) L st h := run_s rfl
theorem r_X8_delay_41 : run E g mi_X8_delay d lm RT F pm_X8_delay (n + 1) 41 L st h = exI E d lm RT F (run E g mi_X8_delay d lm RT F pm_X8_delay n) (1, ((2 : Nat) : Int), 0, 42, []) L st h := run_s rfl
theorem r_X8_delay_42 : run E g mi_X8_delay d lm RT F pm_X8_delay (n + 1) 42 L st h = exI E d lm RT F (run E g mi_X8_delay d lm RT F pm_X8_delay n) (39, 0, 0, 43, []) L st h := run_s rfl
theorem r_X8_delay_43 : run E g mi_X8_delay d lm RT F pm_X8_delay (n + 1) 43 L st h = exI E d lm RT F (run E g mi_X8_delay d lm RT F pm_X8_delay n) (1, ((3 : Nat) : Int), 0, 44, []) L st h := run_s rfl
theorem r_X8_delay_44 : run E g mi_X8_delay d lm RT F pm_X8_delay (n + 1) 44 L st h = exI E d lm RT F (run E g mi_X8_delay d lm RT F pm_X8_delay n) (48, 0, 0, 0, []) L st h := run_s rfl
theorem e_X8_delay (n : Nat) {pc : Nat} (hF : FOk E d F) (hx : run E g mi_X8_delay d lm RT F pm_X8_delay n pc L st h) : G E g mi_X8_delay d lm RT pc L st h := run_sound hF pk_X8_delay n pc L st h hx
end
def mi_X8_ofLink : MI := (8, cX8_ofLink, 3, 0, false)
theorem mo_X8_ofLink : miOk mi_X8_ofLink (mt 47) = true := by decide +kernel
def tl_X8_ofLink : List (Nat × PT) := [(0, (2, ((0 : Nat) : Int), 0, 1, [])),
  (1, (35, ((8 : Nat) : Int), ((0 : Nat) : Int), 4, [])),
  (4, (1, ((1 : Nat) : Int), 0, 5, [])),
  (5, (52, ((7 : Nat) : Int), ((2 : Nat) : Int), 8, [3])),
  (8, (31, 1, ((13 : Nat) : Int), 11, [])),
  (11, (0, (-1), 0, 12, [])),
  (12, (48, 0, 0, 0, [])),
  (13, (1, ((2 : Nat) : Int), 0, 14, [])),
  (14, (34, 0, ((92 : Nat) : Int), 0, [48, 58, 68, 78, 85])),
  (48, (2, ((0 : Nat) : Int), 0, 49, [])),
  (49, (35, ((8 : Nat) : Int), ((0 : Nat) : Int), 52, [])),
  (52, (35, ((3 : Nat) : Int), ((0 : Nat) : Int), 55, [])),
  (55, (1, ((1 : Nat) : Int), 0, 56, [])),
  (56, (38, 0, 0, 57, [])),
  (57, (48, 0, 0, 0, [])),
  (58, (2, ((0 : Nat) : Int), 0, 59, [])),
  (59, (35, ((8 : Nat) : Int), ((0 : Nat) : Int), 62, [])),
  (62, (35, ((3 : Nat) : Int), ((1 : Nat) : Int), 65, [])),
  (65, (1, ((1 : Nat) : Int), 0, 66, [])),
  (66, (38, 0, 0, 67, [])),
  (67, (48, 0, 0, 0, [])),
  (68, (2, ((0 : Nat) : Int), 0, 69, [])),
  (69, (35, ((8 : Nat) : Int), ((0 : Nat) : Int), 72, [])),
  (72, (35, ((3 : Nat) : Int), ((2 : Nat) : Int), 75, [])),
  (75, (1, ((1 : Nat) : Int), 0, 76, [])),
  (76, (38, 0, 0, 77, [])),
  (77, (48, 0, 0, 0, [])),
  (78, (2, ((0 : Nat) : Int), 0, 79, [])),
  (79, (1, ((1 : Nat) : Int), 0, 80, [])),
  (80, (0, 0, 0, 81, [])),
  (81, (51, ((74 : Nat) : Int), ((3 : Nat) : Int), 84, [8])),
  (84, (48, 0, 0, 0, [])),
  (85, (2, ((0 : Nat) : Int), 0, 86, [])),
  (86, (1, ((1 : Nat) : Int), 0, 87, [])),
  (87, (0, 1, 0, 88, [])),
  (88, (51, ((74 : Nat) : Int), ((3 : Nat) : Int), 91, [8])),
  (91, (48, 0, 0, 0, [])),
  (92, (0, (-2), 0, 94, [])),
  (94, (48, 0, 0, 0, []))]
theorem tk_X8_ofLink : tOk mi_X8_ofLink tl_X8_ofLink = true := by decide +kernel
def pm_X8_ofLink (pc : Nat) : Option PT := if [].contains pc then none else tl_X8_ofLink.lookup pc
theorem pk_X8_ofLink : ∀ pc pt, pm_X8_ofLink pc = some pt → okPt mi_X8_ofLink pc pt := fun pc pt h => tOk_pm tk_X8_ofLink h
section
variable {E : ET} {g : GT} {d : Nat} {lm : Nat × Nat} {RT : RTy} {F : FT} {n : Nat} {L : LV} {st : List AV} {h : AH}
theorem r_X8_ofLink_0 : run E g mi_X8_ofLink d lm RT F pm_X8_ofLink (n + 1) 0 L st h = exI E d lm RT F (run E g mi_X8_ofLink d lm RT F pm_X8_ofLink n) (2, ((0 : Nat) : Int), 0, 1, []) L st h := run_s rfl
theorem r_X8_ofLink_1 : run E g mi_X8_ofLink d lm RT F pm_X8_ofLink (n + 1) 1 L st h = exI E d lm RT F (run E g mi_X8_ofLink d lm RT F pm_X8_ofLink n) (35, ((8 : Nat) : Int), ((0 : Nat) : Int), 4, []) L st h := run_s rfl
theorem r_X8_ofLink_4 : run E g mi_X8_ofLink d lm RT F pm_X8_ofLink (n + 1) 4 L st h = exI E d lm RT F (run E g mi_X8_ofLink d lm RT F pm_X8_ofLink n) (1, ((1 : Nat) : Int), 0, 5, []) L st h := run_s rfl
theorem r_X8_ofLink_5 : run E g mi_X8_ofLink d lm RT F pm_X8_ofLink (n + 1) 5 L st h = exI E d lm RT F (run E g mi_X8_ofLink d lm RT F pm_X8_ofLink n) (52, ((7 : Nat) : Int), ((2 : Nat) : Int), 8, [3]) L st h := run_s rfl
theorem r_X8_ofLink_8 : run E g mi_X8_ofLink d lm RT F pm_X8_ofLink (n + 1) 8 L st h = exI E d lm RT F (run E g mi_X8_ofLink d lm RT F pm_X8_ofLink n) (31, 1, ((13 : Nat) : Int), 11, []) L st h := run_s rfl
theorem r_X8_ofLink_11 : run E g mi_X8_ofLink d lm RT F pm_X8_ofLink (n + 1) 11 L st h = exI E d lm RT F (run E g mi_X8_ofLink d lm RT F pm_X8_ofLink n) (0, (-1), 0, 12, []) L st h := run_s rfl
theorem r_X8_ofLink_12 : run E g mi_X8_ofLink d lm RT F pm_X8_ofLink (n + 1) 12 L st h = exI E d lm RT F (run E g mi_X8_ofLink d lm RT F pm_X8_ofLink n) (48, 0, 0, 0, []) L st h := run_s rfl
theorem r_X8_ofLink_13 : run E g mi_X8_ofLink d lm RT F pm_X8_ofLink (n + 1) 13 L st h = exI E d lm RT F (run E g mi_X8_ofLink d lm RT F pm_X8_ofLink n) (1, ((2 : Nat) : Int), 0, 14, []) L st h := run_s rfl
theorem r_X8_ofLink_14 : run E g mi_X8_ofLink d lm RT F pm_X8_ofLink (n + 1) 14 L st h = exI E d lm RT F (run E g mi_X8_ofLink d lm RT F pm_X8_ofLink n) (34, 0, ((92 : Nat) : Int), 0, [48, 58, 68, 78, 85]) L st h := run_s rfl
theorem r_X8_ofLink_48 : run E g mi_X8_ofLink d lm RT F pm_X8_ofLink (n + 1) 48 L st h = exI E d lm RT F (run E g mi_X8_ofLink d lm RT F pm_X8_ofLink n) (2, ((0 : Nat) : Int), 0, 49, []) L st h := run_s rfl
theorem r_X8_ofLink_49 : run E g mi_X8_ofLink d lm RT F pm_X8_ofLink (n + 1) 49 L st h = exI E d lm RT F (run E g mi_X8_ofLink d lm RT F pm_X8_ofLink n) (35, ((8 : Nat) : Int), ((0 : Nat) : Int), 52, []) L st h := run_s rfl
theorem r_X8_ofLink_52 : run E g mi_X8_ofLink d lm RT F pm_X8_ofLink (n + 1) 52 L st h = exI E d lm RT F (run E g mi_X8_ofLink d lm RT F pm_X8_ofLink n) (35, ((3 : Nat) : Int), ((0 : Nat) : Int), 55, []) L st h := run_s rfl
theorem r_X8_ofLink_55 : run E g mi_X8_ofLink d lm RT F pm_X8_ofLink (n + 1) 55 L st h = exI E d lm RT F (run E g mi_X8_ofLink d lm RT F pm_X8_ofLink n) (1, ((1 : Nat) : Int), 0, 56, []) L st h := run_s rfl
theorem r_X8_ofLink_56 : run E g mi_X8_ofLink d lm RT F pm_X8_ofLink (n + 1) 56 L st h = exI E d lm RT F (run E g mi_X8_ofLink d lm RT F pm_X8_ofLink n) (38, 0, 0, 57, []) L st h := run_s rfl
theorem r_X8_ofLink_57 : run E g mi_X8_ofLink d lm RT F pm_X8_ofLink (n + 1) 57 L st h = exI E d lm RT F (run E g mi_X8_ofLink d lm RT F pm_X8_ofLink n) (48, 0, 0, 0, []) L st h := run_s rfl
theorem r_X8_ofLink_58 : run E g mi_X8_ofLink d lm RT F pm_X8_ofLink (n + 1) 58 L st h = exI E d lm RT F (run E g mi_X8_ofLink d lm RT F pm_X8_ofLink n) (2, ((0 : Nat) : Int), 0, 59, []) L st h := run_s rfl
theorem r_X8_ofLink_59 : run E g mi_X8_ofLink d lm RT F pm_X8_ofLink (n + 1) 59 L st h = exI E d lm RT F (run E g mi_X8_ofLink d lm RT F pm_X8_ofLink n) (35, ((8 : Nat) : Int), ((0 : Nat) : Int), 62, []) L st h := run_s rfl
theorem r_X8_ofLink_62 : run E g mi_X8_ofLink d lm RT F pm_X8_ofLink (n + 1) 62 L st h = exI E d lm RT F (run E g mi_X8_ofLink d lm RT F pm_X8_ofLink n) (35, ((3 : Nat) : Int), ((1 : Nat) : Int), 65, []) L st h := run_s rfl
theorem r_X8_ofLink_65 : run E g mi_X8_ofLink d lm RT F pm_X8_ofLink (n + 1) 65 L st h = exI E d lm RT F (run E g mi_X8_ofLink d lm RT F pm_X8_ofLink n) (1, ((1 : Nat) : Int), 0, 66, []) L st h := run_s rfl
theorem r_X8_ofLink_66 : run E g mi_X8_ofLink d lm RT F pm_X8_ofLink (n + 1) 66 L st h = exI E d lm RT F (run E g mi_X8_ofLink d lm RT F pm_X8_ofLink n) (38, 0, 0, 67, []) L st h := run_s rfl
theorem r_X8_ofLink_67 : run E g mi_X8_ofLink d lm RT F pm_X8_ofLink (n + 1) 67 L st h = exI E d lm RT F (run E g mi_X8_ofLink d lm RT F pm_X8_ofLink n) (48, 0, 0, 0, []) L st h := run_s rfl
theorem r_X8_ofLink_68 : run E g mi_X8_ofLink d lm RT F pm_X8_ofLink (n + 1) 68 L st h = exI E d lm RT F (run E g mi_X8_ofLink d lm RT F pm_X8_ofLink n) (2, ((0 : Nat) : Int), 0, 69, []) L st h := run_s rfl
theorem r_X8_ofLink_69 : run E g mi_X8_ofLink d lm RT F pm_X8_ofLink (n + 1) 69 L st h = exI E d lm RT F (run E g mi_X8_ofLink d lm RT F pm_X8_ofLink n) (35, ((8 : Nat) : Int), ((0 : Nat) : Int), 72, []) L st h := run_s rfl
theorem r_X8_ofLink_72 : run E g mi_X8_ofLink d lm RT F pm_X8_ofLink (n + 1) 72 L st h = exI E d lm RT F (run E g mi_X8_ofLink d lm RT F pm_X8_ofLink n) (35, ((3 : Nat) : Int), ((2 : Nat) : Int), 75, []) L st h := run_s rfl
theorem r_X8_ofLink_75 : run E g mi_X8_ofLink d lm RT F pm_X8_ofLink (n + 1) 75 L st h = exI E d lm RT F (run E g mi_X8_ofLink d lm RT F pm_X8_ofLink n) (1, ((1 : Nat) : Int), 0, 76, []) L st h := run_s rfl
theorem r_X8_ofLink_76 : run E g mi_X8_ofLink d lm RT F pm_X8_ofLink (n + 1) 76 L st h = exI E d lm RT F (run E g mi_X8_ofLink d lm RT F pm_X8_ofLink n) (38, 0, 0, 77, []) L st h := run_s rfl
theorem r_X8_ofLink_77 : run E g mi_X8_ofLink d lm RT F pm_X8_ofLink (n + 1) 77 L st h = exI E d lm RT F (run E g mi_X8_ofLink d lm RT F pm_X8_ofLink n) (48, 0, 0, 0, []) L st h := run_s rfl
theorem r_X8_ofLink_78 : run E g mi_X8_ofLink d lm RT F pm_X8_ofLink (n + 1) 78 L st h = exI E d lm RT F (run E g mi_X8_ofLink d lm RT F pm_X8_ofLink n) (2, ((0 : Nat) : Int), 0, 79, []) L st h := run_s rfl
theorem r_X8_ofLink_79 : run E g mi_X8_ofLink d lm RT F pm_X8_ofLink (n + 1) 79 L st h = exI E d lm RT F (run E g mi_X8_ofLink d lm RT F pm_X8_ofLink n) (1, ((1 : Nat) : Int), 0, 80, []) L st h := run_s rfl
theorem r_X8_ofLink_80 : run E g mi_X8_ofLink d lm RT F pm_X8_ofLink (n + 1) 80 L st h = exI E d lm RT F (run E g mi_X8_ofLink d lm RT F pm_X8_ofLink n) (0, 0, 0, 81, []) L st h := run_s rfl
theorem r_X8_ofLink_81 : run E g mi_X8_ofLink d lm RT F pm_X8_ofLink (n + 1) 81 L st h = exI E d lm RT F (run E g mi_X8_ofLink d lm RT F pm_X8_ofLink n) (51, ((74 : Nat) : Int), ((3 : Nat) : Int), 84, [8]) L st h := run_s rfl
theorem r_X8_ofLink_84 : run E g mi_X8_ofLink d lm RT F pm_X8_ofLink (n + 1) 84 L st h = exI E d lm RT F (run E g mi_X8_ofLink d lm RT F pm_X8_ofLink n) (48, 0, 0, 0, []) L st h := run_s rfl
theorem r_X8_ofLink_85 : run E g mi_X8_ofLink d lm RT F pm_X8_ofLink (n + 1) 85 L st h = exI E d lm RT F (run E g mi_X8_ofLink d lm RT F pm_X8_ofLink n) (2, ((0 : Nat) : Int), 0, 86, []) L st h := run_s rfl
theorem r_X8_ofLink_86 : run E g mi_X8_ofLink d lm RT F pm_X8_ofLink (n + 1) 86 L st h = exI E d lm RT F (run E g mi_X8_ofLink d lm RT F pm_X8_ofLink n) (1, ((1 : Nat) : Int), 0, 87, []) L st h := run_s rfl
theorem r_X8_ofLink_87 : run E g mi_X8_ofLink d lm RT F pm_X8_ofLink (n + 1) 87 L st h = exI E d lm RT F (run E g mi_X8_ofLink d lm RT F pm_X8_ofLink n) (0, 1, 0, 88, []) L st h := run_s rfl
theorem r_X8_ofLink_88 : run E g mi_X8_ofLink d lm RT F pm_X8_ofLink (n + 1) 88 L st h = exI E d lm RT F (run E g mi_X8_ofLink d lm RT F pm_X8_ofLink n) (51, ((74 : Nat) : Int), ((3 : Nat) : Int), 91, [8]) L st h := run_s rfl
theorem r_X8_ofLink_91 : run E g mi_X8_ofLink d lm RT F pm_X8_ofLink (n + 1) 91 L st h = exI E d lm RT F (run E g mi_X8_ofLink d lm RT F pm_X8_ofLink n) (48, 0, 0, 0, []) L st h := run_s rfl
theorem r_X8_ofLink_92 : run E g mi_X8_ofLink d lm RT F pm_X8_ofLink (n + 1) 92 L st h = exI E d lm RT F (run E g mi_X8_ofLink d lm RT F pm_X8_ofLink n) (0, (-2), 0, 94, []) L st h := run_s rfl
theorem r_X8_ofLink_94 : run E g mi_X8_ofLink d lm RT F pm_X8_ofLink (n + 1) 94 L st h = exI E d lm RT F (run E g mi_X8_ofLink d lm RT F pm_X8_ofLink n) (48, 0, 0, 0, []) L st h := run_s rfl
theorem e_X8_ofLink (n : Nat) {pc : Nat} (hF : FOk E d F) (hx : run E g mi_X8_ofLink d lm RT F pm_X8_ofLink n pc L st h) : G E g mi_X8_ofLink d lm RT pc L st h := run_sound hF pk_X8_ofLink n pc L st h hx
end
def mi_X8_neighbours : MI := (8, cX8_neighbours, 2, 0, false)
theorem mo_X8_neighbours : miOk mi_X8_neighbours (mt 48) = true := by decide +kernel
def tl_X8_neighbours : List (Nat × PT) := [(0, (1, ((1 : Nat) : Int), 0, 1, [])),
  (1, (45, ((65 : Nat) : Int), ((1 : Nat) : Int), 4, [])),
  (4, (31, 0, ((19 : Nat) : Int), 7, [])),
  (7, (2, ((0 : Nat) : Int), 0, 8, [])),
  (8, (35, ((8 : Nat) : Int), ((0 : Nat) : Int), 11, [])),
  (11, (35, ((3 : Nat) : Int), ((3 : Nat) : Int), 14, [])),
  (14, (1, ((1 : Nat) : Int), 0, 15, [])),
  (15, (38, 0, 0, 16, [])),
  (16, (33, ((20 : Nat) : Int), 0, 0, [])),
  (19, (0, (-1), 0, 20, [])),
  (20, (48, 0, 0, 0, []))]
theorem tk_X8_neighbours : tOk mi_X8_neighbours tl_X8_neighbours = true := by decide +kernel
def pm_X8_neighbours (pc : Nat) : Option PT := if [].contains pc then none else tl_X8_neighbours.lookup pc
theorem pk_X8_neighbours : ∀ pc pt, pm_X8_neighbours pc = some pt → okPt mi_X8_neighbours pc pt := fun pc pt h => tOk_pm tk_X8_neighbours h
section
variable {E : ET} {g : GT} {d : Nat} {lm : Nat × Nat} {RT : RTy} {F : FT} {n : Nat} {L : LV} {st : List AV} {h : AH}
theorem r_X8_neighbours_0 : run E g mi_X8_neighbours d lm RT F pm_X8_neighbours (n + 1) 0 L st h = exI E d lm RT F (run E g mi_X8_neighbours d lm RT F pm_X8_neighbours n) (1, ((1 : Nat) : Int), 0, 1, []) L st h := run_s rfl
theorem r_X8_neighbours_1 : run E g mi_X8_neighbours d lm RT F pm_X8_neighbours (n + 1) 1 L st h = exI E d lm RT F (run E g mi_X8_neighbours d lm RT F pm_X8_neighbours n) (45, ((65 : Nat) : Int), ((1 : Nat) : Int), 4, []) L st h := run_s rfl
theorem r_X8_neighbours_4 : run E g mi_X8_neighbours d lm RT F pm_X8_neighbours (n + 1) 4 L st h = exI E d lm RT F (run E g mi_X8_neighbours d lm RT F pm_X8_neighbours n) (31, 0, ((19 : Nat) : Int), 7, []) L st h := run_s rfl
theorem r_X8_neighbours_7 : run E g mi_X8_neighbours d lm RT F pm_X8_neighbours (n + 1) 7 L st h = exI E d lm RT F (run E g mi_X8_neighbours d lm RT F pm_X8_neighbours n) (2, ((0 : Nat) : Int), 0, 8, []) L st h := run_s rfl
theorem r_X8_neighbours_8 : run E g mi_X8_neighbours d lm RT F pm_X8_neighbours (n + 1) 8 L st h = exI E d lm RT F (run E g mi_X8_neighbours d lm RT F pm_X8_neighbours n) (35, ((8 : Nat) : Int), ((0 : Nat) : Int), 11, []) L st h := run_s rfl
theorem r_X8_neighbours_11 : run E g mi_X8_neighbours d lm RT F pm_X8_neighbours (n + 1) 11 L st h = exI E d lm RT F (run E g mi_X8_neighbours d lm RT F pm_X8_neighbours n) (35, ((3 : Nat) : Int), ((3 : Nat) : Int), 14, []) L st h := run_s rfl
theorem r_X8_neighbours_14 : run E g mi_X8_neighbours d lm RT F pm_X8_neighbours (n + 1) 14 L st h = exI E d lm RT F (run E g mi_X8_neighbours d lm RT F pm_X8_neighbours n) (1, ((1 : Nat) : Int), 0, 15, []) L st h := run_s rfl
theorem r_X8_neighbours_15 : run E g mi_X8_neighbours d lm RT F pm_X8_neighbours (n + 1) 15 L st h = exI E d lm RT F (run E g mi_X8_neighbours d lm RT F pm_X8_neighbours n) (38, 0, 0, 16, []) L st h := run_s rfl
theorem r_X8_neighbours_16 : run E g mi_X8_neighbours d lm RT F pm_X8_neighbours (n + 1) 16 L st h = exI E d lm RT F (run E g mi_X8_neighbours d lm RT F pm_X8_neighbours n) (33, ((20 : Nat) : Int), 0, 0, []) L st h := run_s rfl
theorem r_X8_neighbours_19 : run E g mi_X8_neighbours d lm RT F pm_X8_neighbours (n + 1) 19 L st h = exI E d lm RT F (run E g mi_X8_neighbours d lm RT F pm_X8_neighbours n) (0, (-1), 0, 20, []) L st h := run_s rfl
theorem r_X8_neighbours_20 : run E g mi_X8_neighbours d lm RT F pm_X8_neighbours (n + 1) 20 L st h = exI E d lm RT F (run E g mi_X8_neighbours d lm RT F pm_X8_neighbours n) (48, 0, 0, 0, []) L st h := run_s rfl
theorem e_X8_neighbours (n : Nat) {pc : Nat} (hF : FOk E d F) (hx : run E g mi_X8_neighbours d lm RT F pm_X8_neighbours n pc L st h) : G E g mi_X8_neighbours d lm RT pc L st h := run_sound hF pk_X8_neighbours n pc L st h hx
end
