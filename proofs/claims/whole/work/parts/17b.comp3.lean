def mi_X8_passTick : MI := (8, cX8_passTick, 3, 4, false)
theorem mo_X8_passTick : miOk mi_X8_passTick (mt 78) = true := by decide +kernel
def tl_X8_passTick : List (Nat × PT) := [(0, (2, ((0 : Nat) : Int), 0, 1, [])),
  (1, (28, 0, 0, 2, [])),
  (2, (35, ((8 : Nat) : Int), ((10 : Nat) : Int), 5, [])),
  (5, (0, 1, 0, 6, [])),
  (6, (8, 0, 0, 7, [])),
  (7, (36, ((8 : Nat) : Int), ((10 : Nat) : Int), 10, [0])),
  (10, (0, 0, 0, 11, [])),
  (11, (4, ((1 : Nat) : Int), 0, 12, [])),
  (12, (1, ((1 : Nat) : Int), 0, 13, [])),
  (13, (0, 12, 0, 15, [])),
  (15, (32, 3, ((72 : Nat) : Int), 18, [])),
  (18, (2, ((0 : Nat) : Int), 0, 19, [])),
  (19, (35, ((8 : Nat) : Int), ((3 : Nat) : Int), 22, [])),
  (22, (1, ((1 : Nat) : Int), 0, 23, [])),
  (23, (49, 0, 0, 24, [])),
  (24, (5, ((2 : Nat) : Int), 0, 25, [])),
  (25, (2, ((2 : Nat) : Int), 0, 26, [])),
  (26, (35, ((7 : Nat) : Int), ((3 : Nat) : Int), 29, [])),
  (29, (31, 0, ((66 : Nat) : Int), 32, [])),
  (32, (2, ((2 : Nat) : Int), 0, 33, [])),
  (33, (35, ((7 : Nat) : Int), ((10 : Nat) : Int), 36, [])),
  (36, (2, ((0 : Nat) : Int), 0, 37, [])),
  (37, (35, ((8 : Nat) : Int), ((10 : Nat) : Int), 40, [])),
  (40, (32, 0, ((46 : Nat) : Int), 43, [])),
  (43, (33, ((66 : Nat) : Int), 0, 0, [])),
  (46, (2, ((2 : Nat) : Int), 0, 47, [])),
  (47, (35, ((7 : Nat) : Int), ((4 : Nat) : Int), 50, [])),
  (50, (31, 0, ((61 : Nat) : Int), 53, [])),
  (53, (2, ((0 : Nat) : Int), 0, 54, [])),
  (54, (2, ((2 : Nat) : Int), 0, 55, [])),
  (55, (51, ((84 : Nat) : Int), ((2 : Nat) : Int), 58, [8])),
  (58, (33, ((66 : Nat) : Int), 0, 0, [])),
  (61, (2, ((0 : Nat) : Int), 0, 62, [])),
  (62, (2, ((2 : Nat) : Int), 0, 63, [])),
  (63, (51, ((79 : Nat) : Int), ((2 : Nat) : Int), 66, [8])),
  (66, (7, ((1 : Nat) : Int), 1, 69, [])),
  (69, (33, ((12 : Nat) : Int), 0, 0, [])),
  (72, (48, 4, 0, 0, []))]
theorem tk_X8_passTick : tOk mi_X8_passTick tl_X8_passTick = true := by decide +kernel
def pm_X8_passTick (pc : Nat) : Option PT := if [12].contains pc then none else tl_X8_passTick.lookup pc
theorem pk_X8_passTick : ∀ pc pt, pm_X8_passTick pc = some pt → okPt mi_X8_passTick pc pt := fun pc pt h => tOk_pm tk_X8_passTick h
section
variable {E : ET} {g : GT} {d : Nat} {lm : Nat × Nat} {RT : RTy} {F : FT} {n : Nat} {L : LV} {st : List AV} {h : AH}
theorem r_X8_passTick_0 : run E g mi_X8_passTick d lm RT F pm_X8_passTick (n + 1) 0 L st h = exI E d lm RT F (run E g mi_X8_passTick d lm RT F pm_X8_passTick n) (2, ((0 : Nat) : Int), 0, 1, []) L st h := run_s rfl
theorem r_X8_passTick_1 : run E g mi_X8_passTick d lm RT F pm_X8_passTick (n + 1) 1 L st h = exI E d lm RT F (run E g mi_X8_passTick d lm RT F pm_X8_passTick n) (28, 0, 0, 2, []) L st h := run_s rfl
theorem r_X8_passTick_2 : run E g mi_X8_passTick d lm RT F pm_X8_passTick (n + 1) 2 L st h = exI E d lm RT F (run E g mi_X8_passTick d lm RT F pm_X8_passTick n) (35, ((8 : Nat) : Int), ((10 : Nat) : Int), 5, []) L st h := run_s rfl
theorem r_X8_passTick_5 : run E g mi_X8_passTick d lm RT F pm_X8_passTick (n + 1) 5 L st h = exI E d lm RT F (run E g mi_X8_passTick d lm RT F pm_X8_passTick n) (0, 1, 0, 6, []) L st h := run_s rfl
theorem r_X8_passTick_6 : run E g mi_X8_passTick d lm RT F pm_X8_passTick (n + 1) 6 L st h = exI E d lm RT F (run E g mi_X8_passTick d lm RT F pm_X8_passTick n) (8, 0, 0, 7, []) L st h := run_s rfl
theorem r_X8_passTick_7 : run E g mi_X8_passTick d lm RT F pm_X8_passTick (n + 1) 7 L st h = exI E d lm RT F (run E g mi_X8_passTick d lm RT F pm_X8_passTick n) (36, ((8 : Nat) : Int), ((10 : Nat) : Int), 10, [0]) L st h := run_s rfl
theorem r_X8_passTick_10 : run E g mi_X8_passTick d lm RT F pm_X8_passTick (n + 1) 10 L st h = exI E d lm RT F (run E g mi_X8_passTick d lm RT F pm_X8_passTick n) (0, 0, 0, 11, []) L st h := run_s rfl
theorem r_X8_passTick_11 : run E g mi_X8_passTick d lm RT F pm_X8_passTick (n + 1) 11 L st h = exI E d lm RT F (run E g mi_X8_passTick d lm RT F pm_X8_passTick n) (4, ((1 : Nat) : Int), 0, 12, []) L st h := run_s rfl
theorem r_X8_passTick_12 : run E g mi_X8_passTick d lm RT F pm_X8_passTick (n + 1) 12 L st h = G E g mi_X8_passTick d lm RT 12 L st h := run_c rfl
theorem q_X8_passTick_12 (n : Nat) (hF : FOk E d F) (hx : exI E d lm RT F (run E g mi_X8_passTick d lm RT F pm_X8_passTick n) (1, ((1 : Nat) : Int), 0, 13, []) L st h) : G E g mi_X8_passTick d lm RT 12 L st h := sstep hF (tOk_spec tk_X8_passTick (by decide +kernel)) (run_sound hF pk_X8_passTick n) hx
theorem r_X8_passTick_13 : run E g mi_X8_passTick d lm RT F pm_X8_passTick (n + 1) 13 L st h = exI E d lm RT F (run E g mi_X8_passTick d lm RT F pm_X8_passTick n) (0, 12, 0, 15, []) L st h := run_s rfl
theorem r_X8_passTick_15 : run E g mi_X8_passTick d lm RT F pm_X8_passTick (n + 1) 15 L st h = exI E d lm RT F (run E g mi_X8_passTick d lm RT F pm_X8_passTick n) (32, 3, ((72 : Nat) : Int), 18, []) L st h := run_s rfl
theorem r_X8_passTick_18 : run E g mi_X8_passTick d lm RT F pm_X8_passTick (n + 1) 18 L st h = exI E d lm RT F (run E g mi_X8_passTick d lm RT F pm_X8_passTick n) (2, ((0 : Nat) : Int), 0, 19, []) L st h := run_s rfl
theorem r_X8_passTick_19 : run E g mi_X8_passTick d lm RT F pm_X8_passTick (n + 1) 19 L st h = exI E d lm RT F (run E g mi_X8_passTick d lm RT F pm_X8_passTick n) (35, ((8 : Nat) : Int), ((3 : Nat) : Int), 22, []) L st h := run_s rfl
theorem r_X8_passTick_22 : run E g mi_X8_passTick d lm RT F pm_X8_passTick (n + 1) 22 L st h = exI E d lm RT F (run E g mi_X8_passTick d lm RT F pm_X8_passTick n) (1, ((1 : Nat) : Int), 0, 23, []) L st h := run_s rfl
theorem r_X8_passTick_23 : run E g mi_X8_passTick d lm RT F pm_X8_passTick (n + 1) 23 L st h = exI E d lm RT F (run E g mi_X8_passTick d lm RT F pm_X8_passTick n) (49, 0, 0, 24, []) L st h := run_s rfl
theorem r_X8_passTick_24 : run E g mi_X8_passTick d lm RT F pm_X8_passTick (n + 1) 24 L st h = exI E d lm RT F (run E g mi_X8_passTick d lm RT F pm_X8_passTick n) (5, ((2 : Nat) : Int), 0, 25, []) L st h := run_s rfl
theorem r_X8_passTick_25 : run E g mi_X8_passTick d lm RT F pm_X8_passTick (n + 1) 25 L st h = exI E d lm RT F (run E g mi_X8_passTick d lm RT F pm_X8_passTick n) (2, ((2 : Nat) : Int), 0, 26, []) L st h := run_s rfl
theorem r_X8_passTick_26 : run E g mi_X8_passTick d lm RT F pm_X8_passTick (n + 1) 26 L st h = exI E d lm RT F (run E g mi_X8_passTick d lm RT F pm_X8_passTick n) (35, ((7 : Nat) : Int), ((3 : Nat) : Int), 29, []) L st h := run_s rfl
theorem r_X8_passTick_29 : run E g mi_X8_passTick d lm RT F pm_X8_passTick (n + 1) 29 L st h = exI E d lm RT F (run E g mi_X8_passTick d lm RT F pm_X8_passTick n) (31, 0, ((66 : Nat) : Int), 32, []) L st h := run_s rfl
theorem r_X8_passTick_32 : run E g mi_X8_passTick d lm RT F pm_X8_passTick (n + 1) 32 L st h = exI E d lm RT F (run E g mi_X8_passTick d lm RT F pm_X8_passTick n) (2, ((2 : Nat) : Int), 0, 33, []) L st h := run_s rfl
theorem r_X8_passTick_33 : run E g mi_X8_passTick d lm RT F pm_X8_passTick (n + 1) 33 L st h = exI E d lm RT F (run E g mi_X8_passTick d lm RT F pm_X8_passTick n) (35, ((7 : Nat) : Int), ((10 : Nat) : Int), 36, []) L st h := run_s rfl
theorem r_X8_passTick_36 : run E g mi_X8_passTick d lm RT F pm_X8_passTick (n + 1) 36 L st h = exI E d lm RT F (run E g mi_X8_passTick d lm RT F pm_X8_passTick n) (2, ((0 : Nat) : Int), 0, 37, []) L st h := run_s rfl
theorem r_X8_passTick_37 : run E g mi_X8_passTick d lm RT F pm_X8_passTick (n + 1) 37 L st h = exI E d lm RT F (run E g mi_X8_passTick d lm RT F pm_X8_passTick n) (35, ((8 : Nat) : Int), ((10 : Nat) : Int), 40, []) L st h := run_s rfl
theorem r_X8_passTick_40 : run E g mi_X8_passTick d lm RT F pm_X8_passTick (n + 1) 40 L st h = exI E d lm RT F (run E g mi_X8_passTick d lm RT F pm_X8_passTick n) (32, 0, ((46 : Nat) : Int), 43, []) L st h := run_s rfl
theorem r_X8_passTick_43 : run E g mi_X8_passTick d lm RT F pm_X8_passTick (n + 1) 43 L st h = exI E d lm RT F (run E g mi_X8_passTick d lm RT F pm_X8_passTick n) (33, ((66 : Nat) : Int), 0, 0, []) L st h := run_s rfl
theorem r_X8_passTick_46 : run E g mi_X8_passTick d lm RT F pm_X8_passTick (n + 1) 46 L st h = exI E d lm RT F (run E g mi_X8_passTick d lm RT F pm_X8_passTick n) (2, ((2 : Nat) : Int), 0, 47, []) L st h := run_s rfl
theorem r_X8_passTick_47 : run E g mi_X8_passTick d lm RT F pm_X8_passTick (n + 1) 47 L st h = exI E d lm RT F (run E g mi_X8_passTick d lm RT F pm_X8_passTick n) (35, ((7 : Nat) : Int), ((4 : Nat) : Int), 50, []) L st h := run_s rfl
theorem r_X8_passTick_50 : run E g mi_X8_passTick d lm RT F pm_X8_passTick (n + 1) 50 L st h = exI E d lm RT F (run E g mi_X8_passTick d lm RT F pm_X8_passTick n) (31, 0, ((61 : Nat) : Int), 53, []) L st h := run_s rfl
theorem r_X8_passTick_53 : run E g mi_X8_passTick d lm RT F pm_X8_passTick (n + 1) 53 L st h = exI E d lm RT F (run E g mi_X8_passTick d lm RT F pm_X8_passTick n) (2, ((0 : Nat) : Int), 0, 54, []) L st h := run_s rfl
theorem r_X8_passTick_54 : run E g mi_X8_passTick d lm RT F pm_X8_passTick (n + 1) 54 L st h = exI E d lm RT F (run E g mi_X8_passTick d lm RT F pm_X8_passTick n) (2, ((2 : Nat) : Int), 0, 55, []) L st h := run_s rfl
theorem r_X8_passTick_55 : run E g mi_X8_passTick d lm RT F pm_X8_passTick (n + 1) 55 L st h = exI E d lm RT F (run E g mi_X8_passTick d lm RT F pm_X8_passTick n) (51, ((84 : Nat) : Int), ((2 : Nat) : Int), 58, [8]) L st h := run_s rfl
theorem r_X8_passTick_58 : run E g mi_X8_passTick d lm RT F pm_X8_passTick (n + 1) 58 L st h = exI E d lm RT F (run E g mi_X8_passTick d lm RT F pm_X8_passTick n) (33, ((66 : Nat) : Int), 0, 0, []) L st h := run_s rfl
theorem r_X8_passTick_61 : run E g mi_X8_passTick d lm RT F pm_X8_passTick (n + 1) 61 L st h = exI E d lm RT F (run E g mi_X8_passTick d lm RT F pm_X8_passTick n) (2, ((0 : Nat) : Int), 0, 62, []) L st h := run_s rfl
theorem r_X8_passTick_62 : run E g mi_X8_passTick d lm RT F pm_X8_passTick (n + 1) 62 L st h = exI E d lm RT F (run E g mi_X8_passTick d lm RT F pm_X8_passTick n) (2, ((2 : Nat) : Int), 0, 63, []) L st h := run_s rfl
theorem r_X8_passTick_63 : run E g mi_X8_passTick d lm RT F pm_X8_passTick (n + 1) 63 L st h = exI E d lm RT F (run E g mi_X8_passTick d lm RT F pm_X8_passTick n) (51, ((79 : Nat) : Int), ((2 : Nat) : Int), 66, [8]) L st h := run_s rfl
theorem r_X8_passTick_66 : run E g mi_X8_passTick d lm RT F pm_X8_passTick (n + 1) 66 L st h = exI E d lm RT F (run E g mi_X8_passTick d lm RT F pm_X8_passTick n) (7, ((1 : Nat) : Int), 1, 69, []) L st h := run_s rfl
theorem r_X8_passTick_69 : run E g mi_X8_passTick d lm RT F pm_X8_passTick (n + 1) 69 L st h = exI E d lm RT F (run E g mi_X8_passTick d lm RT F pm_X8_passTick n) (33, ((12 : Nat) : Int), 0, 0, []) L st h := run_s rfl
theorem r_X8_passTick_72 : run E g mi_X8_passTick d lm RT F pm_X8_passTick (n + 1) 72 L st h = exI E d lm RT F (run E g mi_X8_passTick d lm RT F pm_X8_passTick n) (48, 4, 0, 0, []) L st h := run_s rfl
theorem e_X8_passTick (n : Nat) {pc : Nat} (hF : FOk E d F) (hx : run E g mi_X8_passTick d lm RT F pm_X8_passTick n pc L st h) : G E g mi_X8_passTick d lm RT pc L st h := run_sound hF pk_X8_passTick n pc L st h hx
end
def mi_X8_comeOut : MI := (8, cX8_comeOut, 2, 4, false)
theorem mo_X8_comeOut : miOk mi_X8_comeOut (mt 79) = true := by decide +kernel
def tl_X8_comeOut : List (Nat × PT) := [(0, (2, ((1 : Nat) : Int), 0, 1, [])),
  (1, (0, (-9), 0, 3, [])),
  (3, (36, ((7 : Nat) : Int), ((8 : Nat) : Int), 6, [0])),
  (6, (2, ((1 : Nat) : Int), 0, 7, [])),
  (7, (2, ((1 : Nat) : Int), 0, 8, [])),
  (8, (35, ((7 : Nat) : Int), ((9 : Nat) : Int), 11, [])),
  (11, (2, ((0 : Nat) : Int), 0, 12, [])),
  (12, (35, ((8 : Nat) : Int), ((10 : Nat) : Int), 15, [])),
  (15, (51, ((38 : Nat) : Int), ((3 : Nat) : Int), 18, [7])),
  (18, (2, ((1 : Nat) : Int), 0, 19, [])),
  (19, (35, ((7 : Nat) : Int), ((9 : Nat) : Int), 22, [])),
  (22, (2, ((1 : Nat) : Int), 0, 23, [])),
  (23, (35, ((7 : Nat) : Int), ((7 : Nat) : Int), 26, [])),
  (26, (32, 1, ((41 : Nat) : Int), 29, [])),
  (29, (2, ((1 : Nat) : Int), 0, 30, [])),
  (30, (51, ((41 : Nat) : Int), ((1 : Nat) : Int), 33, [7])),
  (33, (2, ((0 : Nat) : Int), 0, 34, [])),
  (34, (2, ((1 : Nat) : Int), 0, 35, [])),
  (35, (51, ((83 : Nat) : Int), ((2 : Nat) : Int), 38, [8])),
  (38, (33, ((50 : Nat) : Int), 0, 0, [])),
  (41, (2, ((0 : Nat) : Int), 0, 42, [])),
  (42, (2, ((1 : Nat) : Int), 0, 43, [])),
  (43, (2, ((1 : Nat) : Int), 0, 44, [])),
  (44, (35, ((7 : Nat) : Int), ((9 : Nat) : Int), 47, [])),
  (47, (51, ((80 : Nat) : Int), ((3 : Nat) : Int), 50, [8])),
  (50, (48, 4, 0, 0, []))]
theorem tk_X8_comeOut : tOk mi_X8_comeOut tl_X8_comeOut = true := by decide +kernel
def pm_X8_comeOut (pc : Nat) : Option PT := if [].contains pc then none else tl_X8_comeOut.lookup pc
theorem pk_X8_comeOut : ∀ pc pt, pm_X8_comeOut pc = some pt → okPt mi_X8_comeOut pc pt := fun pc pt h => tOk_pm tk_X8_comeOut h
section
variable {E : ET} {g : GT} {d : Nat} {lm : Nat × Nat} {RT : RTy} {F : FT} {n : Nat} {L : LV} {st : List AV} {h : AH}
theorem r_X8_comeOut_0 : run E g mi_X8_comeOut d lm RT F pm_X8_comeOut (n + 1) 0 L st h = exI E d lm RT F (run E g mi_X8_comeOut d lm RT F pm_X8_comeOut n) (2, ((1 : Nat) : Int), 0, 1, []) L st h := run_s rfl
theorem r_X8_comeOut_1 : run E g mi_X8_comeOut d lm RT F pm_X8_comeOut (n + 1) 1 L st h = exI E d lm RT F (run E g mi_X8_comeOut d lm RT F pm_X8_comeOut n) (0, (-9), 0, 3, []) L st h := run_s rfl
theorem r_X8_comeOut_3 : run E g mi_X8_comeOut d lm RT F pm_X8_comeOut (n + 1) 3 L st h = exI E d lm RT F (run E g mi_X8_comeOut d lm RT F pm_X8_comeOut n) (36, ((7 : Nat) : Int), ((8 : Nat) : Int), 6, [0]) L st h := run_s rfl
theorem r_X8_comeOut_6 : run E g mi_X8_comeOut d lm RT F pm_X8_comeOut (n + 1) 6 L st h = exI E d lm RT F (run E g mi_X8_comeOut d lm RT F pm_X8_comeOut n) (2, ((1 : Nat) : Int), 0, 7, []) L st h := run_s rfl
theorem r_X8_comeOut_7 : run E g mi_X8_comeOut d lm RT F pm_X8_comeOut (n + 1) 7 L st h = exI E d lm RT F (run E g mi_X8_comeOut d lm RT F pm_X8_comeOut n) (2, ((1 : Nat) : Int), 0, 8, []) L st h := run_s rfl
theorem r_X8_comeOut_8 : run E g mi_X8_comeOut d lm RT F pm_X8_comeOut (n + 1) 8 L st h = exI E d lm RT F (run E g mi_X8_comeOut d lm RT F pm_X8_comeOut n) (35, ((7 : Nat) : Int), ((9 : Nat) : Int), 11, []) L st h := run_s rfl
theorem r_X8_comeOut_11 : run E g mi_X8_comeOut d lm RT F pm_X8_comeOut (n + 1) 11 L st h = exI E d lm RT F (run E g mi_X8_comeOut d lm RT F pm_X8_comeOut n) (2, ((0 : Nat) : Int), 0, 12, []) L st h := run_s rfl
theorem r_X8_comeOut_12 : run E g mi_X8_comeOut d lm RT F pm_X8_comeOut (n + 1) 12 L st h = exI E d lm RT F (run E g mi_X8_comeOut d lm RT F pm_X8_comeOut n) (35, ((8 : Nat) : Int), ((10 : Nat) : Int), 15, []) L st h := run_s rfl
theorem r_X8_comeOut_15 : run E g mi_X8_comeOut d lm RT F pm_X8_comeOut (n + 1) 15 L st h = exI E d lm RT F (run E g mi_X8_comeOut d lm RT F pm_X8_comeOut n) (51, ((38 : Nat) : Int), ((3 : Nat) : Int), 18, [7]) L st h := run_s rfl
theorem r_X8_comeOut_18 : run E g mi_X8_comeOut d lm RT F pm_X8_comeOut (n + 1) 18 L st h = exI E d lm RT F (run E g mi_X8_comeOut d lm RT F pm_X8_comeOut n) (2, ((1 : Nat) : Int), 0, 19, []) L st h := run_s rfl
theorem r_X8_comeOut_19 : run E g mi_X8_comeOut d lm RT F pm_X8_comeOut (n + 1) 19 L st h = exI E d lm RT F (run E g mi_X8_comeOut d lm RT F pm_X8_comeOut n) (35, ((7 : Nat) : Int), ((9 : Nat) : Int), 22, []) L st h := run_s rfl
theorem r_X8_comeOut_22 : run E g mi_X8_comeOut d lm RT F pm_X8_comeOut (n + 1) 22 L st h = exI E d lm RT F (run E g mi_X8_comeOut d lm RT F pm_X8_comeOut n) (2, ((1 : Nat) : Int), 0, 23, []) L st h := run_s rfl
theorem r_X8_comeOut_23 : run E g mi_X8_comeOut d lm RT F pm_X8_comeOut (n + 1) 23 L st h = exI E d lm RT F (run E g mi_X8_comeOut d lm RT F pm_X8_comeOut n) (35, ((7 : Nat) : Int), ((7 : Nat) : Int), 26, []) L st h := run_s rfl
theorem r_X8_comeOut_26 : run E g mi_X8_comeOut d lm RT F pm_X8_comeOut (n + 1) 26 L st h = exI E d lm RT F (run E g mi_X8_comeOut d lm RT F pm_X8_comeOut n) (32, 1, ((41 : Nat) : Int), 29, []) L st h := run_s rfl
theorem r_X8_comeOut_29 : run E g mi_X8_comeOut d lm RT F pm_X8_comeOut (n + 1) 29 L st h = exI E d lm RT F (run E g mi_X8_comeOut d lm RT F pm_X8_comeOut n) (2, ((1 : Nat) : Int), 0, 30, []) L st h := run_s rfl
theorem r_X8_comeOut_30 : run E g mi_X8_comeOut d lm RT F pm_X8_comeOut (n + 1) 30 L st h = exI E d lm RT F (run E g mi_X8_comeOut d lm RT F pm_X8_comeOut n) (51, ((41 : Nat) : Int), ((1 : Nat) : Int), 33, [7]) L st h := run_s rfl
theorem r_X8_comeOut_33 : run E g mi_X8_comeOut d lm RT F pm_X8_comeOut (n + 1) 33 L st h = exI E d lm RT F (run E g mi_X8_comeOut d lm RT F pm_X8_comeOut n) (2, ((0 : Nat) : Int), 0, 34, []) L st h := run_s rfl
theorem r_X8_comeOut_34 : run E g mi_X8_comeOut d lm RT F pm_X8_comeOut (n + 1) 34 L st h = exI E d lm RT F (run E g mi_X8_comeOut d lm RT F pm_X8_comeOut n) (2, ((1 : Nat) : Int), 0, 35, []) L st h := run_s rfl
theorem r_X8_comeOut_35 : run E g mi_X8_comeOut d lm RT F pm_X8_comeOut (n + 1) 35 L st h = exI E d lm RT F (run E g mi_X8_comeOut d lm RT F pm_X8_comeOut n) (51, ((83 : Nat) : Int), ((2 : Nat) : Int), 38, [8]) L st h := run_s rfl
theorem r_X8_comeOut_38 : run E g mi_X8_comeOut d lm RT F pm_X8_comeOut (n + 1) 38 L st h = exI E d lm RT F (run E g mi_X8_comeOut d lm RT F pm_X8_comeOut n) (33, ((50 : Nat) : Int), 0, 0, []) L st h := run_s rfl
theorem r_X8_comeOut_41 : run E g mi_X8_comeOut d lm RT F pm_X8_comeOut (n + 1) 41 L st h = exI E d lm RT F (run E g mi_X8_comeOut d lm RT F pm_X8_comeOut n) (2, ((0 : Nat) : Int), 0, 42, []) L st h := run_s rfl
theorem r_X8_comeOut_42 : run E g mi_X8_comeOut d lm RT F pm_X8_comeOut (n + 1) 42 L st h = exI E d lm RT F (run E g mi_X8_comeOut d lm RT F pm_X8_comeOut n) (2, ((1 : Nat) : Int), 0, 43, []) L st h := run_s rfl
theorem r_X8_comeOut_43 : run E g mi_X8_comeOut d lm RT F pm_X8_comeOut (n + 1) 43 L st h = exI E d lm RT F (run E g mi_X8_comeOut d lm RT F pm_X8_comeOut n) (2, ((1 : Nat) : Int), 0, 44, []) L st h := run_s rfl
theorem r_X8_comeOut_44 : run E g mi_X8_comeOut d lm RT F pm_X8_comeOut (n + 1) 44 L st h = exI E d lm RT F (run E g mi_X8_comeOut d lm RT F pm_X8_comeOut n) (35, ((7 : Nat) : Int), ((9 : Nat) : Int), 47, []) L st h := run_s rfl
theorem r_X8_comeOut_47 : run E g mi_X8_comeOut d lm RT F pm_X8_comeOut (n + 1) 47 L st h = exI E d lm RT F (run E g mi_X8_comeOut d lm RT F pm_X8_comeOut n) (51, ((80 : Nat) : Int), ((3 : Nat) : Int), 50, [8]) L st h := run_s rfl
theorem r_X8_comeOut_50 : run E g mi_X8_comeOut d lm RT F pm_X8_comeOut (n + 1) 50 L st h = exI E d lm RT F (run E g mi_X8_comeOut d lm RT F pm_X8_comeOut n) (48, 4, 0, 0, []) L st h := run_s rfl
theorem e_X8_comeOut (n : Nat) {pc : Nat} (hF : FOk E d F) (hx : run E g mi_X8_comeOut d lm RT F pm_X8_comeOut n pc L st h) : G E g mi_X8_comeOut d lm RT pc L st h := run_sound hF pk_X8_comeOut n pc L st h hx
end
def mi_X8_goOn : MI := (8, cX8_goOn, 6, 4, false)
theorem mo_X8_goOn : miOk mi_X8_goOn (mt 80) = true := by decide +kernel
def tl_X8_goOn : List (Nat × PT) := [(0, (2, ((0 : Nat) : Int), 0, 1, [])),
  (1, (35, ((8 : Nat) : Int), ((0 : Nat) : Int), 4, [])),
  (4, (35, ((3 : Nat) : Int), ((3 : Nat) : Int), 7, [])),
  (7, (1, ((2 : Nat) : Int), 0, 8, [])),
  (8, (38, 0, 0, 9, [])),
  (9, (31, 0, ((21 : Nat) : Int), 12, [])),
  (12, (2, ((1 : Nat) : Int), 0, 13, [])),
  (13, (35, ((7 : Nat) : Int), ((11 : Nat) : Int), 16, [])),
  (16, (0, 24, 0, 18, [])),
  (18, (32, 2, ((27 : Nat) : Int), 21, [])),
  (21, (2, ((0 : Nat) : Int), 0, 22, [])),
  (22, (2, ((1 : Nat) : Int), 0, 23, [])),
  (23, (51, ((76 : Nat) : Int), ((2 : Nat) : Int), 26, [8])),
  (26, (48, 4, 0, 0, [])),
  (27, (2, ((0 : Nat) : Int), 0, 28, [])),
  (28, (2, ((1 : Nat) : Int), 0, 29, [])),
  (29, (1, ((2 : Nat) : Int), 0, 30, [])),
  (30, (51, ((81 : Nat) : Int), ((3 : Nat) : Int), 33, [8])),
  (33, (4, ((3 : Nat) : Int), 0, 34, [])),
  (34, (2, ((0 : Nat) : Int), 0, 35, [])),
  (35, (35, ((8 : Nat) : Int), ((0 : Nat) : Int), 38, [])),
  (38, (1, ((2 : Nat) : Int), 0, 39, [])),
  (39, (1, ((3 : Nat) : Int), 0, 40, [])),
  (40, (51, ((9 : Nat) : Int), ((3 : Nat) : Int), 43, [3])),
  (43, (4, ((4 : Nat) : Int), 0, 45, [])),
  (45, (1, ((4 : Nat) : Int), 0, 47, [])),
  (47, (0, (-9), 0, 49, [])),
  (49, (32, 1, ((58 : Nat) : Int), 52, [])),
  (52, (2, ((0 : Nat) : Int), 0, 53, [])),
  (53, (2, ((1 : Nat) : Int), 0, 54, [])),
  (54, (51, ((76 : Nat) : Int), ((2 : Nat) : Int), 57, [8])),
  (57, (48, 4, 0, 0, [])),
  (58, (2, ((0 : Nat) : Int), 0, 59, [])),
  (59, (35, ((8 : Nat) : Int), ((10 : Nat) : Int), 62, [])),
  (62, (2, ((0 : Nat) : Int), 0, 63, [])),
  (63, (35, ((8 : Nat) : Int), ((0 : Nat) : Int), 66, [])),
  (66, (35, ((3 : Nat) : Int), ((2 : Nat) : Int), 69, [])),
  (69, (1, ((4 : Nat) : Int), 0, 71, [])),
  (71, (38, 0, 0, 72, [])),
  (72, (8, 0, 0, 73, [])),
  (73, (2, ((0 : Nat) : Int), 0, 74, [])),
  (74, (1, ((4 : Nat) : Int), 0, 76, [])),
  (76, (0, 0, 0, 77, [])),
  (77, (51, ((74 : Nat) : Int), ((3 : Nat) : Int), 80, [8])),
  (80, (8, 0, 0, 81, [])),
  (81, (4, ((5 : Nat) : Int), 0, 83, [])),
  (83, (2, ((1 : Nat) : Int), 0, 84, [])),
  (84, (28, 0, 0, 85, [])),
  (85, (35, ((7 : Nat) : Int), ((11 : Nat) : Int), 88, [])),
  (88, (0, 1, 0, 89, [])),
  (89, (8, 0, 0, 90, [])),
  (90, (36, ((7 : Nat) : Int), ((11 : Nat) : Int), 93, [0])),
  (93, (2, ((1 : Nat) : Int), 0, 94, [])),
  (94, (1, ((4 : Nat) : Int), 0, 96, [])),
  (96, (1, ((3 : Nat) : Int), 0, 97, [])),
  (97, (1, ((5 : Nat) : Int), 0, 99, [])),
  (99, (51, ((42 : Nat) : Int), ((4 : Nat) : Int), 102, [7])),
  (102, (48, 4, 0, 0, []))]
theorem tk_X8_goOn_0 : tOk mi_X8_goOn ((tl_X8_goOn.drop 0).take 45) = true := by decide +kernel
theorem tk_X8_goOn_1 : tOk mi_X8_goOn ((tl_X8_goOn.drop 45).take 45) = true := by decide +kernel
theorem tk_X8_goOn : tOk mi_X8_goOn tl_X8_goOn = true := by
  refine tOk_cut 45 (by decide) (fun q hq => ?_)
  have hl : tl_X8_goOn.length = 58 := by decide +kernel
  rw [hl] at hq
  rcases (show q = 0 ∨ q = 1 by omega) with rfl | rfl
  · exact tk_X8_goOn_0
  · exact tk_X8_goOn_1
def pm_X8_goOn (pc : Nat) : Option PT := if [].contains pc then none else tl_X8_goOn.lookup pc
theorem pk_X8_goOn : ∀ pc pt, pm_X8_goOn pc = some pt → okPt mi_X8_goOn pc pt := fun pc pt h => tOk_pm tk_X8_goOn h
section
variable {E : ET} {g : GT} {d : Nat} {lm : Nat × Nat} {RT : RTy} {F : FT} {n : Nat} {L : LV} {st : List AV} {h : AH}
theorem r_X8_goOn_0 : run E g mi_X8_goOn d lm RT F pm_X8_goOn (n + 1) 0 L st h = exI E d lm RT F (run E g mi_X8_goOn d lm RT F pm_X8_goOn n) (2, ((0 : Nat) : Int), 0, 1, []) L st h := run_s rfl
theorem r_X8_goOn_1 : run E g mi_X8_goOn d lm RT F pm_X8_goOn (n + 1) 1 L st h = exI E d lm RT F (run E g mi_X8_goOn d lm RT F pm_X8_goOn n) (35, ((8 : Nat) : Int), ((0 : Nat) : Int), 4, []) L st h := run_s rfl
theorem r_X8_goOn_4 : run E g mi_X8_goOn d lm RT F pm_X8_goOn (n + 1) 4 L st h = exI E d lm RT F (run E g mi_X8_goOn d lm RT F pm_X8_goOn n) (35, ((3 : Nat) : Int), ((3 : Nat) : Int), 7, []) L st h := run_s rfl
theorem r_X8_goOn_7 : run E g mi_X8_goOn d lm RT F pm_X8_goOn (n + 1) 7 L st h = exI E d lm RT F (run E g mi_X8_goOn d lm RT F pm_X8_goOn n) (1, ((2 : Nat) : Int), 0, 8, []) L st h := run_s rfl
theorem r_X8_goOn_8 : run E g mi_X8_goOn d lm RT F pm_X8_goOn (n + 1) 8 L st h = exI E d lm RT F (run E g mi_X8_goOn d lm RT F pm_X8_goOn n) (38, 0, 0, 9, []) L st h := run_s rfl
theorem r_X8_goOn_9 : run E g mi_X8_goOn d lm RT F pm_X8_goOn (n + 1) 9 L st h = exI E d lm RT F (run E g mi_X8_goOn d lm RT F pm_X8_goOn n) (31, 0, ((21 : Nat) : Int), 12, []) L st h := run_s rfl
theorem r_X8_goOn_12 : run E g mi_X8_goOn d lm RT F pm_X8_goOn (n + 1) 12 L st h = exI E d lm RT F (run E g mi_X8_goOn d lm RT F pm_X8_goOn n) (2, ((1 : Nat) : Int), 0, 13, []) L st h := run_s rfl
theorem r_X8_goOn_13 : run E g mi_X8_goOn d lm RT F pm_X8_goOn (n + 1) 13 L st h = exI E d lm RT F (run E g mi_X8_goOn d lm RT F pm_X8_goOn n) (35, ((7 : Nat) : Int), ((11 : Nat) : Int), 16, []) L st h := run_s rfl
theorem r_X8_goOn_16 : run E g mi_X8_goOn d lm RT F pm_X8_goOn (n + 1) 16 L st h = exI E d lm RT F (run E g mi_X8_goOn d lm RT F pm_X8_goOn n) (0, 24, 0, 18, []) L st h := run_s rfl
theorem r_X8_goOn_18 : run E g mi_X8_goOn d lm RT F pm_X8_goOn (n + 1) 18 L st h = exI E d lm RT F (run E g mi_X8_goOn d lm RT F pm_X8_goOn n) (32, 2, ((27 : Nat) : Int), 21, []) L st h := run_s rfl
theorem r_X8_goOn_21 : run E g mi_X8_goOn d lm RT F pm_X8_goOn (n + 1) 21 L st h = exI E d lm RT F (run E g mi_X8_goOn d lm RT F pm_X8_goOn n) (2, ((0 : Nat) : Int), 0, 22, []) L st h := run_s rfl
theorem r_X8_goOn_22 : run E g mi_X8_goOn d lm RT F pm_X8_goOn (n + 1) 22 L st h = exI E d lm RT F (run E g mi_X8_goOn d lm RT F pm_X8_goOn n) (2, ((1 : Nat) : Int), 0, 23, []) L st h := run_s rfl
theorem r_X8_goOn_23 : run E g mi_X8_goOn d lm RT F pm_X8_goOn (n + 1) 23 L st h = exI E d lm RT F (run E g mi_X8_goOn d lm RT F pm_X8_goOn n) (51, ((76 : Nat) : Int), ((2 : Nat) : Int), 26, [8]) L st h := run_s rfl
theorem r_X8_goOn_26 : run E g mi_X8_goOn d lm RT F pm_X8_goOn (n + 1) 26 L st h = exI E d lm RT F (run E g mi_X8_goOn d lm RT F pm_X8_goOn n) (48, 4, 0, 0, []) L st h := run_s rfl
theorem r_X8_goOn_27 : run E g mi_X8_goOn d lm RT F pm_X8_goOn (n + 1) 27 L st h = exI E d lm RT F (run E g mi_X8_goOn d lm RT F pm_X8_goOn n) (2, ((0 : Nat) : Int), 0, 28, []) L st h := run_s rfl
theorem r_X8_goOn_28 : run E g mi_X8_goOn d lm RT F pm_X8_goOn (n + 1) 28 L st h = exI E d lm RT F (run E g mi_X8_goOn d lm RT F pm_X8_goOn n) (2, ((1 : Nat) : Int), 0, 29, []) L st h := run_s rfl
theorem r_X8_goOn_29 : run E g mi_X8_goOn d lm RT F pm_X8_goOn (n + 1) 29 L st h = exI E d lm RT F (run E g mi_X8_goOn d lm RT F pm_X8_goOn n) (1, ((2 : Nat) : Int), 0, 30, []) L st h := run_s rfl
theorem r_X8_goOn_30 : run E g mi_X8_goOn d lm RT F pm_X8_goOn (n + 1) 30 L st h = exI E d lm RT F (run E g mi_X8_goOn d lm RT F pm_X8_goOn n) (51, ((81 : Nat) : Int), ((3 : Nat) : Int), 33, [8]) L st h := run_s rfl
theorem r_X8_goOn_33 : run E g mi_X8_goOn d lm RT F pm_X8_goOn (n + 1) 33 L st h = exI E d lm RT F (run E g mi_X8_goOn d lm RT F pm_X8_goOn n) (4, ((3 : Nat) : Int), 0, 34, []) L st h := run_s rfl
theorem r_X8_goOn_34 : run E g mi_X8_goOn d lm RT F pm_X8_goOn (n + 1) 34 L st h = exI E d lm RT F (run E g mi_X8_goOn d lm RT F pm_X8_goOn n) (2, ((0 : Nat) : Int), 0, 35, []) L st h := run_s rfl
theorem r_X8_goOn_35 : run E g mi_X8_goOn d lm RT F pm_X8_goOn (n + 1) 35 L st h = exI E d lm RT F (run E g mi_X8_goOn d lm RT F pm_X8_goOn n) (35, ((8 : Nat) : Int), ((0 : Nat) : Int), 38, []) L st h := run_s rfl
theorem r_X8_goOn_38 : run E g mi_X8_goOn d lm RT F pm_X8_goOn (n + 1) 38 L st h = exI E d lm RT F (run E g mi_X8_goOn d lm RT F pm_X8_goOn n) (1, ((2 : Nat) : Int), 0, 39, []) L st h := run_s rfl
theorem r_X8_goOn_39 : run E g mi_X8_goOn d lm RT F pm_X8_goOn (n + 1) 39 L st h = exI E d lm RT F (run E g mi_X8_goOn d lm RT F pm_X8_goOn n) (1, ((3 : Nat) : Int), 0, 40, []) L st h := run_s rfl
theorem r_X8_goOn_40 : run E g mi_X8_goOn d lm RT F pm_X8_goOn (n + 1) 40 L st h = exI E d lm RT F (run E g mi_X8_goOn d lm RT F pm_X8_goOn n) (51, ((9 : Nat) : Int), ((3 : Nat) : Int), 43, [3]) L st h := run_s rfl
theorem r_X8_goOn_43 : run E g mi_X8_goOn d lm RT F pm_X8_goOn (n + 1) 43 L st h = exI E d lm RT F (run E g mi_X8_goOn d lm RT F pm_X8_goOn n) (4, ((4 : Nat) : Int), 0, 45, []) L st h := run_s rfl
theorem r_X8_goOn_45 : run E g mi_X8_goOn d lm RT F pm_X8_goOn (n + 1) 45 L st h = exI E d lm RT F (run E g mi_X8_goOn d lm RT F pm_X8_goOn n) (1, ((4 : Nat) : Int), 0, 47, []) L st h := run_s rfl
theorem r_X8_goOn_47 : run E g mi_X8_goOn d lm RT F pm_X8_goOn (n + 1) 47 L st h = exI E d lm RT F (run E g mi_X8_goOn d lm RT F pm_X8_goOn n) (0, (-9), 0, 49, []) L st h := run_s rfl
theorem r_X8_goOn_49 : run E g mi_X8_goOn d lm RT F pm_X8_goOn (n + 1) 49 L st h = exI E d lm RT F (run E g mi_X8_goOn d lm RT F pm_X8_goOn n) (32, 1, ((58 : Nat) : Int), 52, []) L st h := run_s rfl
theorem r_X8_goOn_52 : run E g mi_X8_goOn d lm RT F pm_X8_goOn (n + 1) 52 L st h = exI E d lm RT F (run E g mi_X8_goOn d lm RT F pm_X8_goOn n) (2, ((0 : Nat) : Int), 0, 53, []) L st h := run_s rfl
theorem r_X8_goOn_53 : run E g mi_X8_goOn d lm RT F pm_X8_goOn (n + 1) 53 L st h = exI E d lm RT F (run E g mi_X8_goOn d lm RT F pm_X8_goOn n) (2, ((1 : Nat) : Int), 0, 54, []) L st h := run_s rfl
theorem r_X8_goOn_54 : run E g mi_X8_goOn d lm RT F pm_X8_goOn (n + 1) 54 L st h = exI E d lm RT F (run E g mi_X8_goOn d lm RT F pm_X8_goOn n) (51, ((76 : Nat) : Int), ((2 : Nat) : Int), 57, [8]) L st h := run_s rfl
theorem r_X8_goOn_57 : run E g mi_X8_goOn d lm RT F pm_X8_goOn (n + 1) 57 L st h = exI E d lm RT F (run E g mi_X8_goOn d lm RT F pm_X8_goOn n) (48, 4, 0, 0, []) L st h := run_s rfl
theorem r_X8_goOn_58 : run E g mi_X8_goOn d lm RT F pm_X8_goOn (n + 1) 58 L st h = exI E d lm RT F (run E g mi_X8_goOn d lm RT F pm_X8_goOn n) (2, ((0 : Nat) : Int), 0, 59, []) L st h := run_s rfl
theorem r_X8_goOn_59 : run E g mi_X8_goOn d lm RT F pm_X8_goOn (n + 1) 59 L st h = exI E d lm RT F (run E g mi_X8_goOn d lm RT F pm_X8_goOn n) (35, ((8 : Nat) : Int), ((10 : Nat) : Int), 62, []) L st h := run_s rfl
theorem r_X8_goOn_62 : run E g mi_X8_goOn d lm RT F pm_X8_goOn (n + 1) 62 L st h = exI E d lm RT F (run E g mi_X8_goOn d lm RT F pm_X8_goOn n) (2, ((0 : Nat) : Int), 0, 63, []) L st h := run_s rfl
theorem r_X8_goOn_63 : run E g mi_X8_goOn d lm RT F pm_X8_goOn (n + 1) 63 L st h = exI E d lm RT F (run E g mi_X8_goOn d lm RT F pm_X8_goOn n) (35, ((8 : Nat) : Int), ((0 : Nat) : Int), 66, []) L st h := run_s rfl
theorem r_X8_goOn_66 : run E g mi_X8_goOn d lm RT F pm_X8_goOn (n + 1) 66 L st h = exI E d lm RT F (run E g mi_X8_goOn d lm RT F pm_X8_goOn n) (35, ((3 : Nat) : Int), ((2 : Nat) : Int), 69, []) L st h := run_s rfl
theorem r_X8_goOn_69 : run E g mi_X8_goOn d lm RT F pm_X8_goOn (n + 1) 69 L st h = exI E d lm RT F (run E g mi_X8_goOn d lm RT F pm_X8_goOn n) (1, ((4 : Nat) : Int), 0, 71, []) L st h := run_s rfl
theorem r_X8_goOn_71 : run E g mi_X8_goOn d lm RT F pm_X8_goOn (n + 1) 71 L st h = exI E d lm RT F (run E g mi_X8_goOn d lm RT F pm_X8_goOn n) (38, 0, 0, 72, []) L st h := run_s rfl
theorem r_X8_goOn_72 : run E g mi_X8_goOn d lm RT F pm_X8_goOn (n + 1) 72 L st h = exI E d lm RT F (run E g mi_X8_goOn d lm RT F pm_X8_goOn n) (8, 0, 0, 73, []) L st h := run_s rfl
theorem r_X8_goOn_73 : run E g mi_X8_goOn d lm RT F pm_X8_goOn (n + 1) 73 L st h = exI E d lm RT F (run E g mi_X8_goOn d lm RT F pm_X8_goOn n) (2, ((0 : Nat) : Int), 0, 74, []) L st h := run_s rfl
theorem r_X8_goOn_74 : run E g mi_X8_goOn d lm RT F pm_X8_goOn (n + 1) 74 L st h = exI E d lm RT F (run E g mi_X8_goOn d lm RT F pm_X8_goOn n) (1, ((4 : Nat) : Int), 0, 76, []) L st h := run_s rfl
theorem r_X8_goOn_76 : run E g mi_X8_goOn d lm RT F pm_X8_goOn (n + 1) 76 L st h = exI E d lm RT F (run E g mi_X8_goOn d lm RT F pm_X8_goOn n) (0, 0, 0, 77, []) L st h := run_s rfl
theorem r_X8_goOn_77 : run E g mi_X8_goOn d lm RT F pm_X8_goOn (n + 1) 77 L st h = exI E d lm RT F (run E g mi_X8_goOn d lm RT F pm_X8_goOn n) (51, ((74 : Nat) : Int), ((3 : Nat) : Int), 80, [8]) L st h := run_s rfl
theorem r_X8_goOn_80 : run E g mi_X8_goOn d lm RT F pm_X8_goOn (n + 1) 80 L st h = exI E d lm RT F (run E g mi_X8_goOn d lm RT F pm_X8_goOn n) (8, 0, 0, 81, []) L st h := run_s rfl
theorem r_X8_goOn_81 : run E g mi_X8_goOn d lm RT F pm_X8_goOn (n + 1) 81 L st h = exI E d lm RT F (run E g mi_X8_goOn d lm RT F pm_X8_goOn n) (4, ((5 : Nat) : Int), 0, 83, []) L st h := run_s rfl
theorem r_X8_goOn_83 : run E g mi_X8_goOn d lm RT F pm_X8_goOn (n + 1) 83 L st h = exI E d lm RT F (run E g mi_X8_goOn d lm RT F pm_X8_goOn n) (2, ((1 : Nat) : Int), 0, 84, []) L st h := run_s rfl
theorem r_X8_goOn_84 : run E g mi_X8_goOn d lm RT F pm_X8_goOn (n + 1) 84 L st h = exI E d lm RT F (run E g mi_X8_goOn d lm RT F pm_X8_goOn n) (28, 0, 0, 85, []) L st h := run_s rfl
theorem r_X8_goOn_85 : run E g mi_X8_goOn d lm RT F pm_X8_goOn (n + 1) 85 L st h = exI E d lm RT F (run E g mi_X8_goOn d lm RT F pm_X8_goOn n) (35, ((7 : Nat) : Int), ((11 : Nat) : Int), 88, []) L st h := run_s rfl
theorem r_X8_goOn_88 : run E g mi_X8_goOn d lm RT F pm_X8_goOn (n + 1) 88 L st h = exI E d lm RT F (run E g mi_X8_goOn d lm RT F pm_X8_goOn n) (0, 1, 0, 89, []) L st h := run_s rfl
theorem r_X8_goOn_89 : run E g mi_X8_goOn d lm RT F pm_X8_goOn (n + 1) 89 L st h = exI E d lm RT F (run E g mi_X8_goOn d lm RT F pm_X8_goOn n) (8, 0, 0, 90, []) L st h := run_s rfl
theorem r_X8_goOn_90 : run E g mi_X8_goOn d lm RT F pm_X8_goOn (n + 1) 90 L st h = exI E d lm RT F (run E g mi_X8_goOn d lm RT F pm_X8_goOn n) (36, ((7 : Nat) : Int), ((11 : Nat) : Int), 93, [0]) L st h := run_s rfl
theorem r_X8_goOn_93 : run E g mi_X8_goOn d lm RT F pm_X8_goOn (n + 1) 93 L st h = exI E d lm RT F (run E g mi_X8_goOn d lm RT F pm_X8_goOn n) (2, ((1 : Nat) : Int), 0, 94, []) L st h := run_s rfl
theorem r_X8_goOn_94 : run E g mi_X8_goOn d lm RT F pm_X8_goOn (n + 1) 94 L st h = exI E d lm RT F (run E g mi_X8_goOn d lm RT F pm_X8_goOn n) (1, ((4 : Nat) : Int), 0, 96, []) L st h := run_s rfl
theorem r_X8_goOn_96 : run E g mi_X8_goOn d lm RT F pm_X8_goOn (n + 1) 96 L st h = exI E d lm RT F (run E g mi_X8_goOn d lm RT F pm_X8_goOn n) (1, ((3 : Nat) : Int), 0, 97, []) L st h := run_s rfl
theorem r_X8_goOn_97 : run E g mi_X8_goOn d lm RT F pm_X8_goOn (n + 1) 97 L st h = exI E d lm RT F (run E g mi_X8_goOn d lm RT F pm_X8_goOn n) (1, ((5 : Nat) : Int), 0, 99, []) L st h := run_s rfl
theorem r_X8_goOn_99 : run E g mi_X8_goOn d lm RT F pm_X8_goOn (n + 1) 99 L st h = exI E d lm RT F (run E g mi_X8_goOn d lm RT F pm_X8_goOn n) (51, ((42 : Nat) : Int), ((4 : Nat) : Int), 102, [7]) L st h := run_s rfl
theorem r_X8_goOn_102 : run E g mi_X8_goOn d lm RT F pm_X8_goOn (n + 1) 102 L st h = exI E d lm RT F (run E g mi_X8_goOn d lm RT F pm_X8_goOn n) (48, 4, 0, 0, []) L st h := run_s rfl
theorem e_X8_goOn (n : Nat) {pc : Nat} (hF : FOk E d F) (hx : run E g mi_X8_goOn d lm RT F pm_X8_goOn n pc L st h) : G E g mi_X8_goOn d lm RT pc L st h := run_sound hF pk_X8_goOn n pc L st h hx
end
def mi_X8_pick : MI := (8, cX8_pick, 9, 0, false)
theorem mo_X8_pick : miOk mi_X8_pick (mt 81) = true := by decide +kernel
def tl_X8_pick : List (Nat × PT) := [(0, (2, ((0 : Nat) : Int), 0, 1, [])),
  (1, (35, ((8 : Nat) : Int), ((0 : Nat) : Int), 4, [])),
  (4, (35, ((3 : Nat) : Int), ((3 : Nat) : Int), 7, [])),
  (7, (1, ((2 : Nat) : Int), 0, 8, [])),
  (8, (38, 0, 0, 9, [])),
  (9, (2, ((1 : Nat) : Int), 0, 10, [])),
  (10, (51, ((39 : Nat) : Int), ((1 : Nat) : Int), 13, [7])),
  (13, (0, (-1), 0, 14, [])),
  (14, (15, 0, 0, 15, [])),
  (15, (13, 0, 0, 16, [])),
  (16, (4, ((3 : Nat) : Int), 0, 17, [])),
  (17, (1, ((3 : Nat) : Int), 0, 18, [])),
  (18, (31, 0, ((25 : Nat) : Int), 21, [])),
  (21, (1, ((3 : Nat) : Int), 0, 22, [])),
  (22, (33, ((34 : Nat) : Int), 0, 0, [])),
  (25, (2, ((0 : Nat) : Int), 0, 26, [])),
  (26, (35, ((8 : Nat) : Int), ((0 : Nat) : Int), 29, [])),
  (29, (35, ((3 : Nat) : Int), ((3 : Nat) : Int), 32, [])),
  (32, (1, ((2 : Nat) : Int), 0, 33, [])),
  (33, (38, 0, 0, 34, [])),
  (34, (4, ((4 : Nat) : Int), 0, 36, [])),
  (36, (2, ((0 : Nat) : Int), 0, 37, [])),
  (37, (2, ((1 : Nat) : Int), 0, 38, [])),
  (38, (1, ((2 : Nat) : Int), 0, 39, [])),
  (39, (1, ((4 : Nat) : Int), 0, 41, [])),
  (41, (51, ((82 : Nat) : Int), ((4 : Nat) : Int), 44, [8])),
  (44, (4, ((5 : Nat) : Int), 0, 46, [])),
  (46, (1, ((5 : Nat) : Int), 0, 48, [])),
  (48, (31, 5, ((63 : Nat) : Int), 51, [])),
  (51, (2, ((0 : Nat) : Int), 0, 52, [])),
  (52, (35, ((8 : Nat) : Int), ((5 : Nat) : Int), 55, [])),
  (55, (1, ((5 : Nat) : Int), 0, 57, [])),
  (57, (51, ((1 : Nat) : Int), ((2 : Nat) : Int), 60, [0])),
  (60, (33, ((64 : Nat) : Int), 0, 0, [])),
  (63, (0, (-1), 0, 64, [])),
  (64, (4, ((6 : Nat) : Int), 0, 66, [])),
  (66, (0, 0, 0, 67, [])),
  (67, (4, ((7 : Nat) : Int), 0, 69, [])),
  (69, (0, 0, 0, 70, [])),
  (70, (4, ((8 : Nat) : Int), 0, 72, [])),
  (72, (1, ((8 : Nat) : Int), 0, 74, [])),
  (74, (0, 8, 0, 76, [])),
  (76, (32, 3, ((117 : Nat) : Int), 79, [])),
  (79, (1, ((4 : Nat) : Int), 0, 81, [])),
  (81, (1, ((8 : Nat) : Int), 0, 83, [])),
  (83, (45, ((69 : Nat) : Int), ((2 : Nat) : Int), 86, [])),
  (86, (31, 0, ((111 : Nat) : Int), 89, [])),
  (89, (1, ((7 : Nat) : Int), 0, 91, [])),
  (91, (2, ((0 : Nat) : Int), 0, 92, [])),
  (92, (35, ((8 : Nat) : Int), ((6 : Nat) : Int), 95, [])),
  (95, (1, ((8 : Nat) : Int), 0, 97, [])),
  (97, (38, 0, 0, 98, [])),
  (98, (8, 0, 0, 99, [])),
  (99, (4, ((7 : Nat) : Int), 0, 101, [])),
  (101, (1, ((7 : Nat) : Int), 0, 103, [])),
  (103, (1, ((6 : Nat) : Int), 0, 105, [])),
  (105, (32, 5, ((111 : Nat) : Int), 108, [])),
  (108, (1, ((8 : Nat) : Int), 0, 110, [])),
  (110, (48, 0, 0, 0, [])),
  (111, (7, ((8 : Nat) : Int), 1, 114, [])),
  (114, (33, ((72 : Nat) : Int), 0, 0, [])),
  (117, (0, (-9), 0, 119, [])),
  (119, (48, 0, 0, 0, []))]
theorem tk_X8_pick_0 : tOk mi_X8_pick ((tl_X8_pick.drop 0).take 45) = true := by decide +kernel
theorem tk_X8_pick_1 : tOk mi_X8_pick ((tl_X8_pick.drop 45).take 45) = true := by decide +kernel
theorem tk_X8_pick : tOk mi_X8_pick tl_X8_pick = true := by
  refine tOk_cut 45 (by decide) (fun q hq => ?_)
  have hl : tl_X8_pick.length = 63 := by decide +kernel
  rw [hl] at hq
  rcases (show q = 0 ∨ q = 1 by omega) with rfl | rfl
  · exact tk_X8_pick_0
  · exact tk_X8_pick_1
def pm_X8_pick (pc : Nat) : Option PT := if [72].contains pc then none else tl_X8_pick.lookup pc
theorem pk_X8_pick : ∀ pc pt, pm_X8_pick pc = some pt → okPt mi_X8_pick pc pt := fun pc pt h => tOk_pm tk_X8_pick h
section
variable {E : ET} {g : GT} {d : Nat} {lm : Nat × Nat} {RT : RTy} {F : FT} {n : Nat} {L : LV} {st : List AV} {h : AH}
theorem r_X8_pick_0 : run E g mi_X8_pick d lm RT F pm_X8_pick (n + 1) 0 L st h = exI E d lm RT F (run E g mi_X8_pick d lm RT F pm_X8_pick n) (2, ((0 : Nat) : Int), 0, 1, []) L st h := run_s rfl
theorem r_X8_pick_1 : run E g mi_X8_pick d lm RT F pm_X8_pick (n + 1) 1 L st h = exI E d lm RT F (run E g mi_X8_pick d lm RT F pm_X8_pick n) (35, ((8 : Nat) : Int), ((0 : Nat) : Int), 4, []) L st h := run_s rfl
theorem r_X8_pick_4 : run E g mi_X8_pick d lm RT F pm_X8_pick (n + 1) 4 L st h = exI E d lm RT F (run E g mi_X8_pick d lm RT F pm_X8_pick n) (35, ((3 : Nat) : Int), ((3 : Nat) : Int), 7, []) L st h := run_s rfl
theorem r_X8_pick_7 : run E g mi_X8_pick d lm RT F pm_X8_pick (n + 1) 7 L st h = exI E d lm RT F (run E g mi_X8_pick d lm RT F pm_X8_pick n) (1, ((2 : Nat) : Int), 0, 8, []) L st h := run_s rfl
theorem r_X8_pick_8 : run E g mi_X8_pick d lm RT F pm_X8_pick (n + 1) 8 L st h = exI E d lm RT F (run E g mi_X8_pick d lm RT F pm_X8_pick n) (38, 0, 0, 9, []) L st h := run_s rfl
theorem r_X8_pick_9 : run E g mi_X8_pick d lm RT F pm_X8_pick (n + 1) 9 L st h = exI E d lm RT F (run E g mi_X8_pick d lm RT F pm_X8_pick n) (2, ((1 : Nat) : Int), 0, 10, []) L st h := run_s rfl
theorem r_X8_pick_10 : run E g mi_X8_pick d lm RT F pm_X8_pick (n + 1) 10 L st h = exI E d lm RT F (run E g mi_X8_pick d lm RT F pm_X8_pick n) (51, ((39 : Nat) : Int), ((1 : Nat) : Int), 13, [7]) L st h := run_s rfl
theorem r_X8_pick_13 : run E g mi_X8_pick d lm RT F pm_X8_pick (n + 1) 13 L st h = exI E d lm RT F (run E g mi_X8_pick d lm RT F pm_X8_pick n) (0, (-1), 0, 14, []) L st h := run_s rfl
theorem r_X8_pick_14 : run E g mi_X8_pick d lm RT F pm_X8_pick (n + 1) 14 L st h = exI E d lm RT F (run E g mi_X8_pick d lm RT F pm_X8_pick n) (15, 0, 0, 15, []) L st h := run_s rfl
theorem r_X8_pick_15 : run E g mi_X8_pick d lm RT F pm_X8_pick (n + 1) 15 L st h = exI E d lm RT F (run E g mi_X8_pick d lm RT F pm_X8_pick n) (13, 0, 0, 16, []) L st h := run_s rfl
theorem r_X8_pick_16 : run E g mi_X8_pick d lm RT F pm_X8_pick (n + 1) 16 L st h = exI E d lm RT F (run E g mi_X8_pick d lm RT F pm_X8_pick n) (4, ((3 : Nat) : Int), 0, 17, []) L st h := run_s rfl
theorem r_X8_pick_17 : run E g mi_X8_pick d lm RT F pm_X8_pick (n + 1) 17 L st h = exI E d lm RT F (run E g mi_X8_pick d lm RT F pm_X8_pick n) (1, ((3 : Nat) : Int), 0, 18, []) L st h := run_s rfl
theorem r_X8_pick_18 : run E g mi_X8_pick d lm RT F pm_X8_pick (n + 1) 18 L st h = exI E d lm RT F (run E g mi_X8_pick d lm RT F pm_X8_pick n) (31, 0, ((25 : Nat) : Int), 21, []) L st h := run_s rfl
theorem r_X8_pick_21 : run E g mi_X8_pick d lm RT F pm_X8_pick (n + 1) 21 L st h = exI E d lm RT F (run E g mi_X8_pick d lm RT F pm_X8_pick n) (1, ((3 : Nat) : Int), 0, 22, []) L st h := run_s rfl
theorem r_X8_pick_22 : run E g mi_X8_pick d lm RT F pm_X8_pick (n + 1) 22 L st h = exI E d lm RT F (run E g mi_X8_pick d lm RT F pm_X8_pick n) (33, ((34 : Nat) : Int), 0, 0, []) L st h := run_s rfl
theorem r_X8_pick_25 : run E g mi_X8_pick d lm RT F pm_X8_pick (n + 1) 25 L st h = exI E d lm RT F (run E g mi_X8_pick d lm RT F pm_X8_pick n) (2, ((0 : Nat) : Int), 0, 26, []) L st h := run_s rfl
theorem r_X8_pick_26 : run E g mi_X8_pick d lm RT F pm_X8_pick (n + 1) 26 L st h = exI E d lm RT F (run E g mi_X8_pick d lm RT F pm_X8_pick n) (35, ((8 : Nat) : Int), ((0 : Nat) : Int), 29, []) L st h := run_s rfl
theorem r_X8_pick_29 : run E g mi_X8_pick d lm RT F pm_X8_pick (n + 1) 29 L st h = exI E d lm RT F (run E g mi_X8_pick d lm RT F pm_X8_pick n) (35, ((3 : Nat) : Int), ((3 : Nat) : Int), 32, []) L st h := run_s rfl
theorem r_X8_pick_32 : run E g mi_X8_pick d lm RT F pm_X8_pick (n + 1) 32 L st h = exI E d lm RT F (run E g mi_X8_pick d lm RT F pm_X8_pick n) (1, ((2 : Nat) : Int), 0, 33, []) L st h := run_s rfl
theorem r_X8_pick_33 : run E g mi_X8_pick d lm RT F pm_X8_pick (n + 1) 33 L st h = exI E d lm RT F (run E g mi_X8_pick d lm RT F pm_X8_pick n) (38, 0, 0, 34, []) L st h := run_s rfl
theorem r_X8_pick_34 : run E g mi_X8_pick d lm RT F pm_X8_pick (n + 1) 34 L st h = exI E d lm RT F (run E g mi_X8_pick d lm RT F pm_X8_pick n) (4, ((4 : Nat) : Int), 0, 36, []) L st h := run_s rfl
theorem r_X8_pick_36 : run E g mi_X8_pick d lm RT F pm_X8_pick (n + 1) 36 L st h = exI E d lm RT F (run E g mi_X8_pick d lm RT F pm_X8_pick n) (2, ((0 : Nat) : Int), 0, 37, []) L st h := run_s rfl
theorem r_X8_pick_37 : run E g mi_X8_pick d lm RT F pm_X8_pick (n + 1) 37 L st h = exI E d lm RT F (run E g mi_X8_pick d lm RT F pm_X8_pick n) (2, ((1 : Nat) : Int), 0, 38, []) L st h := run_s rfl
theorem r_X8_pick_38 : run E g mi_X8_pick d lm RT F pm_X8_pick (n + 1) 38 L st h = exI E d lm RT F (run E g mi_X8_pick d lm RT F pm_X8_pick n) (1, ((2 : Nat) : Int), 0, 39, []) L st h := run_s rfl
theorem r_X8_pick_39 : run E g mi_X8_pick d lm RT F pm_X8_pick (n + 1) 39 L st h = exI E d lm RT F (run E g mi_X8_pick d lm RT F pm_X8_pick n) (1, ((4 : Nat) : Int), 0, 41, []) L st h := run_s rfl
theorem r_X8_pick_41 : run E g mi_X8_pick d lm RT F pm_X8_pick (n + 1) 41 L st h = exI E d lm RT F (run E g mi_X8_pick d lm RT F pm_X8_pick n) (51, ((82 : Nat) : Int), ((4 : Nat) : Int), 44, [8]) L st h := run_s rfl
theorem r_X8_pick_44 : run E g mi_X8_pick d lm RT F pm_X8_pick (n + 1) 44 L st h = exI E d lm RT F (run E g mi_X8_pick d lm RT F pm_X8_pick n) (4, ((5 : Nat) : Int), 0, 46, []) L st h := run_s rfl
theorem r_X8_pick_46 : run E g mi_X8_pick d lm RT F pm_X8_pick (n + 1) 46 L st h = exI E d lm RT F (run E g mi_X8_pick d lm RT F pm_X8_pick n) (1, ((5 : Nat) : Int), 0, 48, []) L st h := run_s rfl
theorem r_X8_pick_48 : run E g mi_X8_pick d lm RT F pm_X8_pick (n + 1) 48 L st h = exI E d lm RT F (run E g mi_X8_pick d lm RT F pm_X8_pick n) (31, 5, ((63 : Nat) : Int), 51, []) L st h := run_s rfl
theorem r_X8_pick_51 : run E g mi_X8_pick d lm RT F pm_X8_pick (n + 1) 51 L st h = exI E d lm RT F (run E g mi_X8_pick d lm RT F pm_X8_pick n) (2, ((0 : Nat) : Int), 0, 52, []) L st h := run_s rfl
theorem r_X8_pick_52 : run E g mi_X8_pick d lm RT F pm_X8_pick (n + 1) 52 L st h = exI E d lm RT F (run E g mi_X8_pick d lm RT F pm_X8_pick n) (35, ((8 : Nat) : Int), ((5 : Nat) : Int), 55, []) L st h := run_s rfl
theorem r_X8_pick_55 : run E g mi_X8_pick d lm RT F pm_X8_pick (n + 1) 55 L st h = exI E d lm RT F (run E g mi_X8_pick d lm RT F pm_X8_pick n) (1, ((5 : Nat) : Int), 0, 57, []) L st h := run_s rfl
theorem r_X8_pick_57 : run E g mi_X8_pick d lm RT F pm_X8_pick (n + 1) 57 L st h = exI E d lm RT F (run E g mi_X8_pick d lm RT F pm_X8_pick n) (51, ((1 : Nat) : Int), ((2 : Nat) : Int), 60, [0]) L st h := run_s rfl
theorem r_X8_pick_60 : run E g mi_X8_pick d lm RT F pm_X8_pick (n + 1) 60 L st h = exI E d lm RT F (run E g mi_X8_pick d lm RT F pm_X8_pick n) (33, ((64 : Nat) : Int), 0, 0, []) L st h := run_s rfl
theorem r_X8_pick_63 : run E g mi_X8_pick d lm RT F pm_X8_pick (n + 1) 63 L st h = exI E d lm RT F (run E g mi_X8_pick d lm RT F pm_X8_pick n) (0, (-1), 0, 64, []) L st h := run_s rfl
theorem r_X8_pick_64 : run E g mi_X8_pick d lm RT F pm_X8_pick (n + 1) 64 L st h = exI E d lm RT F (run E g mi_X8_pick d lm RT F pm_X8_pick n) (4, ((6 : Nat) : Int), 0, 66, []) L st h := run_s rfl
theorem r_X8_pick_66 : run E g mi_X8_pick d lm RT F pm_X8_pick (n + 1) 66 L st h = exI E d lm RT F (run E g mi_X8_pick d lm RT F pm_X8_pick n) (0, 0, 0, 67, []) L st h := run_s rfl
theorem r_X8_pick_67 : run E g mi_X8_pick d lm RT F pm_X8_pick (n + 1) 67 L st h = exI E d lm RT F (run E g mi_X8_pick d lm RT F pm_X8_pick n) (4, ((7 : Nat) : Int), 0, 69, []) L st h := run_s rfl
theorem r_X8_pick_69 : run E g mi_X8_pick d lm RT F pm_X8_pick (n + 1) 69 L st h = exI E d lm RT F (run E g mi_X8_pick d lm RT F pm_X8_pick n) (0, 0, 0, 70, []) L st h := run_s rfl
theorem r_X8_pick_70 : run E g mi_X8_pick d lm RT F pm_X8_pick (n + 1) 70 L st h = exI E d lm RT F (run E g mi_X8_pick d lm RT F pm_X8_pick n) (4, ((8 : Nat) : Int), 0, 72, []) L st h := run_s rfl
theorem r_X8_pick_72 : run E g mi_X8_pick d lm RT F pm_X8_pick (n + 1) 72 L st h = G E g mi_X8_pick d lm RT 72 L st h := run_c rfl
theorem q_X8_pick_72 (n : Nat) (hF : FOk E d F) (hx : exI E d lm RT F (run E g mi_X8_pick d lm RT F pm_X8_pick n) (1, ((8 : Nat) : Int), 0, 74, []) L st h) : G E g mi_X8_pick d lm RT 72 L st h := sstep hF (tOk_spec tk_X8_pick (by decide +kernel)) (run_sound hF pk_X8_pick n) hx
theorem r_X8_pick_74 : run E g mi_X8_pick d lm RT F pm_X8_pick (n + 1) 74 L st h = exI E d lm RT F (run E g mi_X8_pick d lm RT F pm_X8_pick n) (0, 8, 0, 76, []) L st h := run_s rfl
theorem r_X8_pick_76 : run E g mi_X8_pick d lm RT F pm_X8_pick (n + 1) 76 L st h = exI E d lm RT F (run E g mi_X8_pick d lm RT F pm_X8_pick n) (32, 3, ((117 : Nat) : Int), 79, []) L st h := run_s rfl
theorem r_X8_pick_79 : run E g mi_X8_pick d lm RT F pm_X8_pick (n + 1) 79 L st h = exI E d lm RT F (run E g mi_X8_pick d lm RT F pm_X8_pick n) (1, ((4 : Nat) : Int), 0, 81, []) L st h := run_s rfl
theorem r_X8_pick_81 : run E g mi_X8_pick d lm RT F pm_X8_pick (n + 1) 81 L st h = exI E d lm RT F (run E g mi_X8_pick d lm RT F pm_X8_pick n) (1, ((8 : Nat) : Int), 0, 83, []) L st h := run_s rfl
theorem r_X8_pick_83 : run E g mi_X8_pick d lm RT F pm_X8_pick (n + 1) 83 L st h = exI E d lm RT F (run E g mi_X8_pick d lm RT F pm_X8_pick n) (45, ((69 : Nat) : Int), ((2 : Nat) : Int), 86, []) L st h := run_s rfl
theorem r_X8_pick_86 : run E g mi_X8_pick d lm RT F pm_X8_pick (n + 1) 86 L st h = exI E d lm RT F (run E g mi_X8_pick d lm RT F pm_X8_pick n) (31, 0, ((111 : Nat) : Int), 89, []) L st h := run_s rfl
theorem r_X8_pick_89 : run E g mi_X8_pick d lm RT F pm_X8_pick (n + 1) 89 L st h = exI E d lm RT F (run E g mi_X8_pick d lm RT F pm_X8_pick n) (1, ((7 : Nat) : Int), 0, 91, []) L st h := run_s rfl
theorem r_X8_pick_91 : run E g mi_X8_pick d lm RT F pm_X8_pick (n + 1) 91 L st h = exI E d lm RT F (run E g mi_X8_pick d lm RT F pm_X8_pick n) (2, ((0 : Nat) : Int), 0, 92, []) L st h := run_s rfl
theorem r_X8_pick_92 : run E g mi_X8_pick d lm RT F pm_X8_pick (n + 1) 92 L st h = exI E d lm RT F (run E g mi_X8_pick d lm RT F pm_X8_pick n) (35, ((8 : Nat) : Int), ((6 : Nat) : Int), 95, []) L st h := run_s rfl
theorem r_X8_pick_95 : run E g mi_X8_pick d lm RT F pm_X8_pick (n + 1) 95 L st h = exI E d lm RT F (run E g mi_X8_pick d lm RT F pm_X8_pick n) (1, ((8 : Nat) : Int), 0, 97, []) L st h := run_s rfl
theorem r_X8_pick_97 : run E g mi_X8_pick d lm RT F pm_X8_pick (n + 1) 97 L st h = exI E d lm RT F (run E g mi_X8_pick d lm RT F pm_X8_pick n) (38, 0, 0, 98, []) L st h := run_s rfl
theorem r_X8_pick_98 : run E g mi_X8_pick d lm RT F pm_X8_pick (n + 1) 98 L st h = exI E d lm RT F (run E g mi_X8_pick d lm RT F pm_X8_pick n) (8, 0, 0, 99, []) L st h := run_s rfl
theorem r_X8_pick_99 : run E g mi_X8_pick d lm RT F pm_X8_pick (n + 1) 99 L st h = exI E d lm RT F (run E g mi_X8_pick d lm RT F pm_X8_pick n) (4, ((7 : Nat) : Int), 0, 101, []) L st h := run_s rfl
theorem r_X8_pick_101 : run E g mi_X8_pick d lm RT F pm_X8_pick (n + 1) 101 L st h = exI E d lm RT F (run E g mi_X8_pick d lm RT F pm_X8_pick n) (1, ((7 : Nat) : Int), 0, 103, []) L st h := run_s rfl
theorem r_X8_pick_103 : run E g mi_X8_pick d lm RT F pm_X8_pick (n + 1) 103 L st h = exI E d lm RT F (run E g mi_X8_pick d lm RT F pm_X8_pick n) (1, ((6 : Nat) : Int), 0, 105, []) L st h := run_s rfl
theorem r_X8_pick_105 : run E g mi_X8_pick d lm RT F pm_X8_pick (n + 1) 105 L st h = exI E d lm RT F (run E g mi_X8_pick d lm RT F pm_X8_pick n) (32, 5, ((111 : Nat) : Int), 108, []) L st h := run_s rfl
theorem r_X8_pick_108 : run E g mi_X8_pick d lm RT F pm_X8_pick (n + 1) 108 L st h = exI E d lm RT F (run E g mi_X8_pick d lm RT F pm_X8_pick n) (1, ((8 : Nat) : Int), 0, 110, []) L st h := run_s rfl
theorem r_X8_pick_110 : run E g mi_X8_pick d lm RT F pm_X8_pick (n + 1) 110 L st h = exI E d lm RT F (run E g mi_X8_pick d lm RT F pm_X8_pick n) (48, 0, 0, 0, []) L st h := run_s rfl
theorem r_X8_pick_111 : run E g mi_X8_pick d lm RT F pm_X8_pick (n + 1) 111 L st h = exI E d lm RT F (run E g mi_X8_pick d lm RT F pm_X8_pick n) (7, ((8 : Nat) : Int), 1, 114, []) L st h := run_s rfl
theorem r_X8_pick_114 : run E g mi_X8_pick d lm RT F pm_X8_pick (n + 1) 114 L st h = exI E d lm RT F (run E g mi_X8_pick d lm RT F pm_X8_pick n) (33, ((72 : Nat) : Int), 0, 0, []) L st h := run_s rfl
theorem r_X8_pick_117 : run E g mi_X8_pick d lm RT F pm_X8_pick (n + 1) 117 L st h = exI E d lm RT F (run E g mi_X8_pick d lm RT F pm_X8_pick n) (0, (-9), 0, 119, []) L st h := run_s rfl
theorem r_X8_pick_119 : run E g mi_X8_pick d lm RT F pm_X8_pick (n + 1) 119 L st h = exI E d lm RT F (run E g mi_X8_pick d lm RT F pm_X8_pick n) (48, 0, 0, 0, []) L st h := run_s rfl
theorem e_X8_pick (n : Nat) {pc : Nat} (hF : FOk E d F) (hx : run E g mi_X8_pick d lm RT F pm_X8_pick n pc L st h) : G E g mi_X8_pick d lm RT pc L st h := run_sound hF pk_X8_pick n pc L st h hx
end
def mi_X8_weigh : MI := (8, cX8_weigh, 8, 0, false)
theorem mo_X8_weigh : miOk mi_X8_weigh (mt 82) = true := by decide +kernel
def tl_X8_weigh : List (Nat × PT) := [(0, (2, ((0 : Nat) : Int), 0, 1, [])),
  (1, (35, ((8 : Nat) : Int), ((4 : Nat) : Int), 4, [])),
  (4, (2, ((1 : Nat) : Int), 0, 5, [])),
  (5, (35, ((7 : Nat) : Int), ((5 : Nat) : Int), 8, [])),
  (8, (49, 0, 0, 9, [])),
  (9, (5, ((4 : Nat) : Int), 0, 11, [])),
  (11, (2, ((0 : Nat) : Int), 0, 12, [])),
  (12, (1, ((2 : Nat) : Int), 0, 13, [])),
  (13, (2, ((1 : Nat) : Int), 0, 14, [])),
  (14, (35, ((7 : Nat) : Int), ((7 : Nat) : Int), 17, [])),
  (17, (52, ((70 : Nat) : Int), ((3 : Nat) : Int), 20, [8])),
  (20, (5, ((5 : Nat) : Int), 0, 22, [])),
  (22, (0, 0, 0, 23, [])),
  (23, (4, ((6 : Nat) : Int), 0, 25, [])),
  (25, (0, 0, 0, 26, [])),
  (26, (4, ((7 : Nat) : Int), 0, 28, [])),
  (28, (1, ((7 : Nat) : Int), 0, 30, [])),
  (30, (0, 8, 0, 32, [])),
  (32, (32, 3, ((97 : Nat) : Int), 35, [])),
  (35, (1, ((3 : Nat) : Int), 0, 36, [])),
  (36, (1, ((7 : Nat) : Int), 0, 38, [])),
  (38, (45, ((69 : Nat) : Int), ((2 : Nat) : Int), 41, [])),
  (41, (31, 0, ((91 : Nat) : Int), 44, [])),
  (44, (2, ((0 : Nat) : Int), 0, 45, [])),
  (45, (35, ((8 : Nat) : Int), ((6 : Nat) : Int), 48, [])),
  (48, (1, ((7 : Nat) : Int), 0, 50, [])),
  (50, (2, ((4 : Nat) : Int), 0, 52, [])),
  (52, (2, ((5 : Nat) : Int), 0, 54, [])),
  (54, (35, ((5 : Nat) : Int), ((0 : Nat) : Int), 57, [])),
  (57, (1, ((7 : Nat) : Int), 0, 59, [])),
  (59, (38, 0, 0, 60, [])),
  (60, (2, ((0 : Nat) : Int), 0, 61, [])),
  (61, (2, ((0 : Nat) : Int), 0, 62, [])),
  (62, (35, ((8 : Nat) : Int), ((0 : Nat) : Int), 65, [])),
  (65, (1, ((2 : Nat) : Int), 0, 66, [])),
  (66, (1, ((7 : Nat) : Int), 0, 68, [])),
  (68, (51, ((9 : Nat) : Int), ((3 : Nat) : Int), 71, [3])),
  (71, (0, 0, 0, 72, [])),
  (72, (51, ((74 : Nat) : Int), ((3 : Nat) : Int), 75, [8])),
  (75, (46, ((0 : Nat) : Int), ((3 : Nat) : Int), 78, [])),
  (78, (39, 0, 0, 79, [])),
  (79, (1, ((6 : Nat) : Int), 0, 81, [])),
  (81, (2, ((0 : Nat) : Int), 0, 82, [])),
  (82, (35, ((8 : Nat) : Int), ((6 : Nat) : Int), 85, [])),
  (85, (1, ((7 : Nat) : Int), 0, 87, [])),
  (87, (38, 0, 0, 88, [])),
  (88, (8, 0, 0, 89, [])),
  (89, (4, ((6 : Nat) : Int), 0, 91, [])),
  (91, (7, ((7 : Nat) : Int), 1, 94, [])),
  (94, (33, ((28 : Nat) : Int), 0, 0, [])),
  (97, (1, ((6 : Nat) : Int), 0, 99, [])),
  (99, (48, 0, 0, 0, []))]
theorem tk_X8_weigh_0 : tOk mi_X8_weigh ((tl_X8_weigh.drop 0).take 45) = true := by decide +kernel
theorem tk_X8_weigh_1 : tOk mi_X8_weigh ((tl_X8_weigh.drop 45).take 45) = true := by decide +kernel
theorem tk_X8_weigh : tOk mi_X8_weigh tl_X8_weigh = true := by
  refine tOk_cut 45 (by decide) (fun q hq => ?_)
  have hl : tl_X8_weigh.length = 52 := by decide +kernel
  rw [hl] at hq
  rcases (show q = 0 ∨ q = 1 by omega) with rfl | rfl
  · exact tk_X8_weigh_0
  · exact tk_X8_weigh_1
def pm_X8_weigh (pc : Nat) : Option PT := if [28].contains pc then none else tl_X8_weigh.lookup pc
theorem pk_X8_weigh : ∀ pc pt, pm_X8_weigh pc = some pt → okPt mi_X8_weigh pc pt := fun pc pt h => tOk_pm tk_X8_weigh h
section
variable {E : ET} {g : GT} {d : Nat} {lm : Nat × Nat} {RT : RTy} {F : FT} {n : Nat} {L : LV} {st : List AV} {h : AH}
theorem r_X8_weigh_0 : run E g mi_X8_weigh d lm RT F pm_X8_weigh (n + 1) 0 L st h = exI E d lm RT F (run E g mi_X8_weigh d lm RT F pm_X8_weigh n) (2, ((0 : Nat) : Int), 0, 1, []) L st h := run_s rfl
theorem r_X8_weigh_1 : run E g mi_X8_weigh d lm RT F pm_X8_weigh (n + 1) 1 L st h = exI E d lm RT F (run E g mi_X8_weigh d lm RT F pm_X8_weigh n) (35, ((8 : Nat) : Int), ((4 : Nat) : Int), 4, []) L st h := run_s rfl
theorem r_X8_weigh_4 : run E g mi_X8_weigh d lm RT F pm_X8_weigh (n + 1) 4 L st h = exI E d lm RT F (run E g mi_X8_weigh d lm RT F pm_X8_weigh n) (2, ((1 : Nat) : Int), 0, 5, []) L st h := run_s rfl
theorem r_X8_weigh_5 : run E g mi_X8_weigh d lm RT F pm_X8_weigh (n + 1) 5 L st h = exI E d lm RT F (run E g mi_X8_weigh d lm RT F pm_X8_weigh n) (35, ((7 : Nat) : Int), ((5 : Nat) : Int), 8, []) L st h := run_s rfl
theorem r_X8_weigh_8 : run E g mi_X8_weigh d lm RT F pm_X8_weigh (n + 1) 8 L st h = exI E d lm RT F (run E g mi_X8_weigh d lm RT F pm_X8_weigh n) (49, 0, 0, 9, []) L st h := run_s rfl
theorem r_X8_weigh_9 : run E g mi_X8_weigh d lm RT F pm_X8_weigh (n + 1) 9 L st h = exI E d lm RT F (run E g mi_X8_weigh d lm RT F pm_X8_weigh n) (5, ((4 : Nat) : Int), 0, 11, []) L st h := run_s rfl
theorem r_X8_weigh_11 : run E g mi_X8_weigh d lm RT F pm_X8_weigh (n + 1) 11 L st h = exI E d lm RT F (run E g mi_X8_weigh d lm RT F pm_X8_weigh n) (2, ((0 : Nat) : Int), 0, 12, []) L st h := run_s rfl
theorem r_X8_weigh_12 : run E g mi_X8_weigh d lm RT F pm_X8_weigh (n + 1) 12 L st h = exI E d lm RT F (run E g mi_X8_weigh d lm RT F pm_X8_weigh n) (1, ((2 : Nat) : Int), 0, 13, []) L st h := run_s rfl
theorem r_X8_weigh_13 : run E g mi_X8_weigh d lm RT F pm_X8_weigh (n + 1) 13 L st h = exI E d lm RT F (run E g mi_X8_weigh d lm RT F pm_X8_weigh n) (2, ((1 : Nat) : Int), 0, 14, []) L st h := run_s rfl
theorem r_X8_weigh_14 : run E g mi_X8_weigh d lm RT F pm_X8_weigh (n + 1) 14 L st h = exI E d lm RT F (run E g mi_X8_weigh d lm RT F pm_X8_weigh n) (35, ((7 : Nat) : Int), ((7 : Nat) : Int), 17, []) L st h := run_s rfl
theorem r_X8_weigh_17 : run E g mi_X8_weigh d lm RT F pm_X8_weigh (n + 1) 17 L st h = exI E d lm RT F (run E g mi_X8_weigh d lm RT F pm_X8_weigh n) (52, ((70 : Nat) : Int), ((3 : Nat) : Int), 20, [8]) L st h := run_s rfl
theorem r_X8_weigh_20 : run E g mi_X8_weigh d lm RT F pm_X8_weigh (n + 1) 20 L st h = exI E d lm RT F (run E g mi_X8_weigh d lm RT F pm_X8_weigh n) (5, ((5 : Nat) : Int), 0, 22, []) L st h := run_s rfl
theorem r_X8_weigh_22 : run E g mi_X8_weigh d lm RT F pm_X8_weigh (n + 1) 22 L st h = exI E d lm RT F (run E g mi_X8_weigh d lm RT F pm_X8_weigh n) (0, 0, 0, 23, []) L st h := run_s rfl
theorem r_X8_weigh_23 : run E g mi_X8_weigh d lm RT F pm_X8_weigh (n + 1) 23 L st h = exI E d lm RT F (run E g mi_X8_weigh d lm RT F pm_X8_weigh n) (4, ((6 : Nat) : Int), 0, 25, []) L st h := run_s rfl
theorem r_X8_weigh_25 : run E g mi_X8_weigh d lm RT F pm_X8_weigh (n + 1) 25 L st h = exI E d lm RT F (run E g mi_X8_weigh d lm RT F pm_X8_weigh n) (0, 0, 0, 26, []) L st h := run_s rfl
theorem r_X8_weigh_26 : run E g mi_X8_weigh d lm RT F pm_X8_weigh (n + 1) 26 L st h = exI E d lm RT F (run E g mi_X8_weigh d lm RT F pm_X8_weigh n) (4, ((7 : Nat) : Int), 0, 28, []) L st h := run_s rfl
theorem r_X8_weigh_28 : run E g mi_X8_weigh d lm RT F pm_X8_weigh (n + 1) 28 L st h = G E g mi_X8_weigh d lm RT 28 L st h := run_c rfl
theorem q_X8_weigh_28 (n : Nat) (hF : FOk E d F) (hx : exI E d lm RT F (run E g mi_X8_weigh d lm RT F pm_X8_weigh n) (1, ((7 : Nat) : Int), 0, 30, []) L st h) : G E g mi_X8_weigh d lm RT 28 L st h := sstep hF (tOk_spec tk_X8_weigh (by decide +kernel)) (run_sound hF pk_X8_weigh n) hx
theorem r_X8_weigh_30 : run E g mi_X8_weigh d lm RT F pm_X8_weigh (n + 1) 30 L st h = exI E d lm RT F (run E g mi_X8_weigh d lm RT F pm_X8_weigh n) (0, 8, 0, 32, []) L st h := run_s rfl
theorem r_X8_weigh_32 : run E g mi_X8_weigh d lm RT F pm_X8_weigh (n + 1) 32 L st h = exI E d lm RT F (run E g mi_X8_weigh d lm RT F pm_X8_weigh n) (32, 3, ((97 : Nat) : Int), 35, []) L st h := run_s rfl
theorem r_X8_weigh_35 : run E g mi_X8_weigh d lm RT F pm_X8_weigh (n + 1) 35 L st h = exI E d lm RT F (run E g mi_X8_weigh d lm RT F pm_X8_weigh n) (1, ((3 : Nat) : Int), 0, 36, []) L st h := run_s rfl
theorem r_X8_weigh_36 : run E g mi_X8_weigh d lm RT F pm_X8_weigh (n + 1) 36 L st h = exI E d lm RT F (run E g mi_X8_weigh d lm RT F pm_X8_weigh n) (1, ((7 : Nat) : Int), 0, 38, []) L st h := run_s rfl
theorem r_X8_weigh_38 : run E g mi_X8_weigh d lm RT F pm_X8_weigh (n + 1) 38 L st h = exI E d lm RT F (run E g mi_X8_weigh d lm RT F pm_X8_weigh n) (45, ((69 : Nat) : Int), ((2 : Nat) : Int), 41, []) L st h := run_s rfl
theorem r_X8_weigh_41 : run E g mi_X8_weigh d lm RT F pm_X8_weigh (n + 1) 41 L st h = exI E d lm RT F (run E g mi_X8_weigh d lm RT F pm_X8_weigh n) (31, 0, ((91 : Nat) : Int), 44, []) L st h := run_s rfl
theorem r_X8_weigh_44 : run E g mi_X8_weigh d lm RT F pm_X8_weigh (n + 1) 44 L st h = exI E d lm RT F (run E g mi_X8_weigh d lm RT F pm_X8_weigh n) (2, ((0 : Nat) : Int), 0, 45, []) L st h := run_s rfl
theorem r_X8_weigh_45 : run E g mi_X8_weigh d lm RT F pm_X8_weigh (n + 1) 45 L st h = exI E d lm RT F (run E g mi_X8_weigh d lm RT F pm_X8_weigh n) (35, ((8 : Nat) : Int), ((6 : Nat) : Int), 48, []) L st h := run_s rfl
theorem r_X8_weigh_48 : run E g mi_X8_weigh d lm RT F pm_X8_weigh (n + 1) 48 L st h = exI E d lm RT F (run E g mi_X8_weigh d lm RT F pm_X8_weigh n) (1, ((7 : Nat) : Int), 0, 50, []) L st h := run_s rfl
theorem r_X8_weigh_50 : run E g mi_X8_weigh d lm RT F pm_X8_weigh (n + 1) 50 L st h = exI E d lm RT F (run E g mi_X8_weigh d lm RT F pm_X8_weigh n) (2, ((4 : Nat) : Int), 0, 52, []) L st h := run_s rfl
theorem r_X8_weigh_52 : run E g mi_X8_weigh d lm RT F pm_X8_weigh (n + 1) 52 L st h = exI E d lm RT F (run E g mi_X8_weigh d lm RT F pm_X8_weigh n) (2, ((5 : Nat) : Int), 0, 54, []) L st h := run_s rfl
theorem r_X8_weigh_54 : run E g mi_X8_weigh d lm RT F pm_X8_weigh (n + 1) 54 L st h = exI E d lm RT F (run E g mi_X8_weigh d lm RT F pm_X8_weigh n) (35, ((5 : Nat) : Int), ((0 : Nat) : Int), 57, []) L st h := run_s rfl
theorem r_X8_weigh_57 : run E g mi_X8_weigh d lm RT F pm_X8_weigh (n + 1) 57 L st h = exI E d lm RT F (run E g mi_X8_weigh d lm RT F pm_X8_weigh n) (1, ((7 : Nat) : Int), 0, 59, []) L st h := run_s rfl
theorem r_X8_weigh_59 : run E g mi_X8_weigh d lm RT F pm_X8_weigh (n + 1) 59 L st h = exI E d lm RT F (run E g mi_X8_weigh d lm RT F pm_X8_weigh n) (38, 0, 0, 60, []) L st h := run_s rfl
theorem r_X8_weigh_60 : run E g mi_X8_weigh d lm RT F pm_X8_weigh (n + 1) 60 L st h = exI E d lm RT F (run E g mi_X8_weigh d lm RT F pm_X8_weigh n) (2, ((0 : Nat) : Int), 0, 61, []) L st h := run_s rfl
theorem r_X8_weigh_61 : run E g mi_X8_weigh d lm RT F pm_X8_weigh (n + 1) 61 L st h = exI E d lm RT F (run E g mi_X8_weigh d lm RT F pm_X8_weigh n) (2, ((0 : Nat) : Int), 0, 62, []) L st h := run_s rfl
theorem r_X8_weigh_62 : run E g mi_X8_weigh d lm RT F pm_X8_weigh (n + 1) 62 L st h = exI E d lm RT F (run E g mi_X8_weigh d lm RT F pm_X8_weigh n) (35, ((8 : Nat) : Int), ((0 : Nat) : Int), 65, []) L st h := run_s rfl
theorem r_X8_weigh_65 : run E g mi_X8_weigh d lm RT F pm_X8_weigh (n + 1) 65 L st h = exI E d lm RT F (run E g mi_X8_weigh d lm RT F pm_X8_weigh n) (1, ((2 : Nat) : Int), 0, 66, []) L st h := run_s rfl
theorem r_X8_weigh_66 : run E g mi_X8_weigh d lm RT F pm_X8_weigh (n + 1) 66 L st h = exI E d lm RT F (run E g mi_X8_weigh d lm RT F pm_X8_weigh n) (1, ((7 : Nat) : Int), 0, 68, []) L st h := run_s rfl
theorem r_X8_weigh_68 : run E g mi_X8_weigh d lm RT F pm_X8_weigh (n + 1) 68 L st h = exI E d lm RT F (run E g mi_X8_weigh d lm RT F pm_X8_weigh n) (51, ((9 : Nat) : Int), ((3 : Nat) : Int), 71, [3]) L st h := run_s rfl
theorem r_X8_weigh_71 : run E g mi_X8_weigh d lm RT F pm_X8_weigh (n + 1) 71 L st h = exI E d lm RT F (run E g mi_X8_weigh d lm RT F pm_X8_weigh n) (0, 0, 0, 72, []) L st h := run_s rfl
theorem r_X8_weigh_72 : run E g mi_X8_weigh d lm RT F pm_X8_weigh (n + 1) 72 L st h = exI E d lm RT F (run E g mi_X8_weigh d lm RT F pm_X8_weigh n) (51, ((74 : Nat) : Int), ((3 : Nat) : Int), 75, [8]) L st h := run_s rfl
theorem r_X8_weigh_75 : run E g mi_X8_weigh d lm RT F pm_X8_weigh (n + 1) 75 L st h = exI E d lm RT F (run E g mi_X8_weigh d lm RT F pm_X8_weigh n) (46, ((0 : Nat) : Int), ((3 : Nat) : Int), 78, []) L st h := run_s rfl
theorem r_X8_weigh_78 : run E g mi_X8_weigh d lm RT F pm_X8_weigh (n + 1) 78 L st h = exI E d lm RT F (run E g mi_X8_weigh d lm RT F pm_X8_weigh n) (39, 0, 0, 79, []) L st h := run_s rfl
theorem r_X8_weigh_79 : run E g mi_X8_weigh d lm RT F pm_X8_weigh (n + 1) 79 L st h = exI E d lm RT F (run E g mi_X8_weigh d lm RT F pm_X8_weigh n) (1, ((6 : Nat) : Int), 0, 81, []) L st h := run_s rfl
theorem r_X8_weigh_81 : run E g mi_X8_weigh d lm RT F pm_X8_weigh (n + 1) 81 L st h = exI E d lm RT F (run E g mi_X8_weigh d lm RT F pm_X8_weigh n) (2, ((0 : Nat) : Int), 0, 82, []) L st h := run_s rfl
theorem r_X8_weigh_82 : run E g mi_X8_weigh d lm RT F pm_X8_weigh (n + 1) 82 L st h = exI E d lm RT F (run E g mi_X8_weigh d lm RT F pm_X8_weigh n) (35, ((8 : Nat) : Int), ((6 : Nat) : Int), 85, []) L st h := run_s rfl
theorem r_X8_weigh_85 : run E g mi_X8_weigh d lm RT F pm_X8_weigh (n + 1) 85 L st h = exI E d lm RT F (run E g mi_X8_weigh d lm RT F pm_X8_weigh n) (1, ((7 : Nat) : Int), 0, 87, []) L st h := run_s rfl
theorem r_X8_weigh_87 : run E g mi_X8_weigh d lm RT F pm_X8_weigh (n + 1) 87 L st h = exI E d lm RT F (run E g mi_X8_weigh d lm RT F pm_X8_weigh n) (38, 0, 0, 88, []) L st h := run_s rfl
theorem r_X8_weigh_88 : run E g mi_X8_weigh d lm RT F pm_X8_weigh (n + 1) 88 L st h = exI E d lm RT F (run E g mi_X8_weigh d lm RT F pm_X8_weigh n) (8, 0, 0, 89, []) L st h := run_s rfl
theorem r_X8_weigh_89 : run E g mi_X8_weigh d lm RT F pm_X8_weigh (n + 1) 89 L st h = exI E d lm RT F (run E g mi_X8_weigh d lm RT F pm_X8_weigh n) (4, ((6 : Nat) : Int), 0, 91, []) L st h := run_s rfl
theorem r_X8_weigh_91 : run E g mi_X8_weigh d lm RT F pm_X8_weigh (n + 1) 91 L st h = exI E d lm RT F (run E g mi_X8_weigh d lm RT F pm_X8_weigh n) (7, ((7 : Nat) : Int), 1, 94, []) L st h := run_s rfl
theorem r_X8_weigh_94 : run E g mi_X8_weigh d lm RT F pm_X8_weigh (n + 1) 94 L st h = exI E d lm RT F (run E g mi_X8_weigh d lm RT F pm_X8_weigh n) (33, ((28 : Nat) : Int), 0, 0, []) L st h := run_s rfl
theorem r_X8_weigh_97 : run E g mi_X8_weigh d lm RT F pm_X8_weigh (n + 1) 97 L st h = exI E d lm RT F (run E g mi_X8_weigh d lm RT F pm_X8_weigh n) (1, ((6 : Nat) : Int), 0, 99, []) L st h := run_s rfl
theorem r_X8_weigh_99 : run E g mi_X8_weigh d lm RT F pm_X8_weigh (n + 1) 99 L st h = exI E d lm RT F (run E g mi_X8_weigh d lm RT F pm_X8_weigh n) (48, 0, 0, 0, []) L st h := run_s rfl
theorem e_X8_weigh (n : Nat) {pc : Nat} (hF : FOk E d F) (hx : run E g mi_X8_weigh d lm RT F pm_X8_weigh n pc L st h) : G E g mi_X8_weigh d lm RT pc L st h := run_sound hF pk_X8_weigh n pc L st h hx
end
def mi_X8_stepBack : MI := (8, cX8_stepBack, 4, 4, false)
theorem mo_X8_stepBack : miOk mi_X8_stepBack (mt 83) = true := by decide +kernel
def tl_X8_stepBack : List (Nat × PT) := [(0, (2, ((1 : Nat) : Int), 0, 1, [])),
  (1, (35, ((7 : Nat) : Int), ((12 : Nat) : Int), 4, [])),
  (4, (0, 1, 0, 5, [])),
  (5, (9, 0, 0, 6, [])),
  (6, (4, ((2 : Nat) : Int), 0, 7, [])),
  (7, (1, ((2 : Nat) : Int), 0, 8, [])),
  (8, (31, 3, ((12 : Nat) : Int), 11, [])),
  (11, (48, 4, 0, 0, [])),
  (12, (2, ((0 : Nat) : Int), 0, 13, [])),
  (13, (35, ((8 : Nat) : Int), ((0 : Nat) : Int), 16, [])),
  (16, (2, ((1 : Nat) : Int), 0, 17, [])),
  (17, (35, ((7 : Nat) : Int), ((0 : Nat) : Int), 20, [])),
  (20, (2, ((1 : Nat) : Int), 0, 21, [])),
  (21, (35, ((7 : Nat) : Int), ((12 : Nat) : Int), 24, [])),
  (24, (38, 0, 0, 25, [])),
  (25, (2, ((1 : Nat) : Int), 0, 26, [])),
  (26, (35, ((7 : Nat) : Int), ((0 : Nat) : Int), 29, [])),
  (29, (1, ((2 : Nat) : Int), 0, 30, [])),
  (30, (38, 0, 0, 31, [])),
  (31, (51, ((9 : Nat) : Int), ((3 : Nat) : Int), 34, [3])),
  (34, (4, ((3 : Nat) : Int), 0, 35, [])),
  (35, (1, ((3 : Nat) : Int), 0, 36, [])),
  (36, (0, (-9), 0, 38, [])),
  (38, (32, 1, ((47 : Nat) : Int), 41, [])),
  (41, (2, ((0 : Nat) : Int), 0, 42, [])),
  (42, (2, ((1 : Nat) : Int), 0, 43, [])),
  (43, (51, ((76 : Nat) : Int), ((2 : Nat) : Int), 46, [8])),
  (46, (48, 4, 0, 0, [])),
  (47, (2, ((1 : Nat) : Int), 0, 48, [])),
  (48, (1, ((2 : Nat) : Int), 0, 49, [])),
  (49, (36, ((7 : Nat) : Int), ((12 : Nat) : Int), 52, [0])),
  (52, (2, ((1 : Nat) : Int), 0, 53, [])),
  (53, (1, ((3 : Nat) : Int), 0, 54, [])),
  (54, (2, ((1 : Nat) : Int), 0, 55, [])),
  (55, (35, ((7 : Nat) : Int), ((0 : Nat) : Int), 58, [])),
  (58, (1, ((2 : Nat) : Int), 0, 59, [])),
  (59, (38, 0, 0, 60, [])),
  (60, (2, ((0 : Nat) : Int), 0, 61, [])),
  (61, (35, ((8 : Nat) : Int), ((10 : Nat) : Int), 64, [])),
  (64, (0, 1, 0, 65, [])),
  (65, (8, 0, 0, 66, [])),
  (66, (51, ((42 : Nat) : Int), ((4 : Nat) : Int), 69, [7])),
  (69, (48, 4, 0, 0, []))]
theorem tk_X8_stepBack : tOk mi_X8_stepBack tl_X8_stepBack = true := by decide +kernel
def pm_X8_stepBack (pc : Nat) : Option PT := if [].contains pc then none else tl_X8_stepBack.lookup pc
theorem pk_X8_stepBack : ∀ pc pt, pm_X8_stepBack pc = some pt → okPt mi_X8_stepBack pc pt := fun pc pt h => tOk_pm tk_X8_stepBack h
section
variable {E : ET} {g : GT} {d : Nat} {lm : Nat × Nat} {RT : RTy} {F : FT} {n : Nat} {L : LV} {st : List AV} {h : AH}
theorem r_X8_stepBack_0 : run E g mi_X8_stepBack d lm RT F pm_X8_stepBack (n + 1) 0 L st h = exI E d lm RT F (run E g mi_X8_stepBack d lm RT F pm_X8_stepBack n) (2, ((1 : Nat) : Int), 0, 1, []) L st h := run_s rfl
theorem r_X8_stepBack_1 : run E g mi_X8_stepBack d lm RT F pm_X8_stepBack (n + 1) 1 L st h = exI E d lm RT F (run E g mi_X8_stepBack d lm RT F pm_X8_stepBack n) (35, ((7 : Nat) : Int), ((12 : Nat) : Int), 4, []) L st h := run_s rfl
theorem r_X8_stepBack_4 : run E g mi_X8_stepBack d lm RT F pm_X8_stepBack (n + 1) 4 L st h = exI E d lm RT F (run E g mi_X8_stepBack d lm RT F pm_X8_stepBack n) (0, 1, 0, 5, []) L st h := run_s rfl
theorem r_X8_stepBack_5 : run E g mi_X8_stepBack d lm RT F pm_X8_stepBack (n + 1) 5 L st h = exI E d lm RT F (run E g mi_X8_stepBack d lm RT F pm_X8_stepBack n) (9, 0, 0, 6, []) L st h := run_s rfl
theorem r_X8_stepBack_6 : run E g mi_X8_stepBack d lm RT F pm_X8_stepBack (n + 1) 6 L st h = exI E d lm RT F (run E g mi_X8_stepBack d lm RT F pm_X8_stepBack n) (4, ((2 : Nat) : Int), 0, 7, []) L st h := run_s rfl
theorem r_X8_stepBack_7 : run E g mi_X8_stepBack d lm RT F pm_X8_stepBack (n + 1) 7 L st h = exI E d lm RT F (run E g mi_X8_stepBack d lm RT F pm_X8_stepBack n) (1, ((2 : Nat) : Int), 0, 8, []) L st h := run_s rfl
theorem r_X8_stepBack_8 : run E g mi_X8_stepBack d lm RT F pm_X8_stepBack (n + 1) 8 L st h = exI E d lm RT F (run E g mi_X8_stepBack d lm RT F pm_X8_stepBack n) (31, 3, ((12 : Nat) : Int), 11, []) L st h := run_s rfl
theorem r_X8_stepBack_11 : run E g mi_X8_stepBack d lm RT F pm_X8_stepBack (n + 1) 11 L st h = exI E d lm RT F (run E g mi_X8_stepBack d lm RT F pm_X8_stepBack n) (48, 4, 0, 0, []) L st h := run_s rfl
theorem r_X8_stepBack_12 : run E g mi_X8_stepBack d lm RT F pm_X8_stepBack (n + 1) 12 L st h = exI E d lm RT F (run E g mi_X8_stepBack d lm RT F pm_X8_stepBack n) (2, ((0 : Nat) : Int), 0, 13, []) L st h := run_s rfl
theorem r_X8_stepBack_13 : run E g mi_X8_stepBack d lm RT F pm_X8_stepBack (n + 1) 13 L st h = exI E d lm RT F (run E g mi_X8_stepBack d lm RT F pm_X8_stepBack n) (35, ((8 : Nat) : Int), ((0 : Nat) : Int), 16, []) L st h := run_s rfl
theorem r_X8_stepBack_16 : run E g mi_X8_stepBack d lm RT F pm_X8_stepBack (n + 1) 16 L st h = exI E d lm RT F (run E g mi_X8_stepBack d lm RT F pm_X8_stepBack n) (2, ((1 : Nat) : Int), 0, 17, []) L st h := run_s rfl
theorem r_X8_stepBack_17 : run E g mi_X8_stepBack d lm RT F pm_X8_stepBack (n + 1) 17 L st h = exI E d lm RT F (run E g mi_X8_stepBack d lm RT F pm_X8_stepBack n) (35, ((7 : Nat) : Int), ((0 : Nat) : Int), 20, []) L st h := run_s rfl
theorem r_X8_stepBack_20 : run E g mi_X8_stepBack d lm RT F pm_X8_stepBack (n + 1) 20 L st h = exI E d lm RT F (run E g mi_X8_stepBack d lm RT F pm_X8_stepBack n) (2, ((1 : Nat) : Int), 0, 21, []) L st h := run_s rfl
theorem r_X8_stepBack_21 : run E g mi_X8_stepBack d lm RT F pm_X8_stepBack (n + 1) 21 L st h = exI E d lm RT F (run E g mi_X8_stepBack d lm RT F pm_X8_stepBack n) (35, ((7 : Nat) : Int), ((12 : Nat) : Int), 24, []) L st h := run_s rfl
theorem r_X8_stepBack_24 : run E g mi_X8_stepBack d lm RT F pm_X8_stepBack (n + 1) 24 L st h = exI E d lm RT F (run E g mi_X8_stepBack d lm RT F pm_X8_stepBack n) (38, 0, 0, 25, []) L st h := run_s rfl
theorem r_X8_stepBack_25 : run E g mi_X8_stepBack d lm RT F pm_X8_stepBack (n + 1) 25 L st h = exI E d lm RT F (run E g mi_X8_stepBack d lm RT F pm_X8_stepBack n) (2, ((1 : Nat) : Int), 0, 26, []) L st h := run_s rfl
theorem r_X8_stepBack_26 : run E g mi_X8_stepBack d lm RT F pm_X8_stepBack (n + 1) 26 L st h = exI E d lm RT F (run E g mi_X8_stepBack d lm RT F pm_X8_stepBack n) (35, ((7 : Nat) : Int), ((0 : Nat) : Int), 29, []) L st h := run_s rfl
theorem r_X8_stepBack_29 : run E g mi_X8_stepBack d lm RT F pm_X8_stepBack (n + 1) 29 L st h = exI E d lm RT F (run E g mi_X8_stepBack d lm RT F pm_X8_stepBack n) (1, ((2 : Nat) : Int), 0, 30, []) L st h := run_s rfl
theorem r_X8_stepBack_30 : run E g mi_X8_stepBack d lm RT F pm_X8_stepBack (n + 1) 30 L st h = exI E d lm RT F (run E g mi_X8_stepBack d lm RT F pm_X8_stepBack n) (38, 0, 0, 31, []) L st h := run_s rfl
theorem r_X8_stepBack_31 : run E g mi_X8_stepBack d lm RT F pm_X8_stepBack (n + 1) 31 L st h = exI E d lm RT F (run E g mi_X8_stepBack d lm RT F pm_X8_stepBack n) (51, ((9 : Nat) : Int), ((3 : Nat) : Int), 34, [3]) L st h := run_s rfl
theorem r_X8_stepBack_34 : run E g mi_X8_stepBack d lm RT F pm_X8_stepBack (n + 1) 34 L st h = exI E d lm RT F (run E g mi_X8_stepBack d lm RT F pm_X8_stepBack n) (4, ((3 : Nat) : Int), 0, 35, []) L st h := run_s rfl
theorem r_X8_stepBack_35 : run E g mi_X8_stepBack d lm RT F pm_X8_stepBack (n + 1) 35 L st h = exI E d lm RT F (run E g mi_X8_stepBack d lm RT F pm_X8_stepBack n) (1, ((3 : Nat) : Int), 0, 36, []) L st h := run_s rfl
theorem r_X8_stepBack_36 : run E g mi_X8_stepBack d lm RT F pm_X8_stepBack (n + 1) 36 L st h = exI E d lm RT F (run E g mi_X8_stepBack d lm RT F pm_X8_stepBack n) (0, (-9), 0, 38, []) L st h := run_s rfl
theorem r_X8_stepBack_38 : run E g mi_X8_stepBack d lm RT F pm_X8_stepBack (n + 1) 38 L st h = exI E d lm RT F (run E g mi_X8_stepBack d lm RT F pm_X8_stepBack n) (32, 1, ((47 : Nat) : Int), 41, []) L st h := run_s rfl
theorem r_X8_stepBack_41 : run E g mi_X8_stepBack d lm RT F pm_X8_stepBack (n + 1) 41 L st h = exI E d lm RT F (run E g mi_X8_stepBack d lm RT F pm_X8_stepBack n) (2, ((0 : Nat) : Int), 0, 42, []) L st h := run_s rfl
theorem r_X8_stepBack_42 : run E g mi_X8_stepBack d lm RT F pm_X8_stepBack (n + 1) 42 L st h = exI E d lm RT F (run E g mi_X8_stepBack d lm RT F pm_X8_stepBack n) (2, ((1 : Nat) : Int), 0, 43, []) L st h := run_s rfl
theorem r_X8_stepBack_43 : run E g mi_X8_stepBack d lm RT F pm_X8_stepBack (n + 1) 43 L st h = exI E d lm RT F (run E g mi_X8_stepBack d lm RT F pm_X8_stepBack n) (51, ((76 : Nat) : Int), ((2 : Nat) : Int), 46, [8]) L st h := run_s rfl
theorem r_X8_stepBack_46 : run E g mi_X8_stepBack d lm RT F pm_X8_stepBack (n + 1) 46 L st h = exI E d lm RT F (run E g mi_X8_stepBack d lm RT F pm_X8_stepBack n) (48, 4, 0, 0, []) L st h := run_s rfl
theorem r_X8_stepBack_47 : run E g mi_X8_stepBack d lm RT F pm_X8_stepBack (n + 1) 47 L st h = exI E d lm RT F (run E g mi_X8_stepBack d lm RT F pm_X8_stepBack n) (2, ((1 : Nat) : Int), 0, 48, []) L st h := run_s rfl
theorem r_X8_stepBack_48 : run E g mi_X8_stepBack d lm RT F pm_X8_stepBack (n + 1) 48 L st h = exI E d lm RT F (run E g mi_X8_stepBack d lm RT F pm_X8_stepBack n) (1, ((2 : Nat) : Int), 0, 49, []) L st h := run_s rfl
theorem r_X8_stepBack_49 : run E g mi_X8_stepBack d lm RT F pm_X8_stepBack (n + 1) 49 L st h = exI E d lm RT F (run E g mi_X8_stepBack d lm RT F pm_X8_stepBack n) (36, ((7 : Nat) : Int), ((12 : Nat) : Int), 52, [0]) L st h := run_s rfl
theorem r_X8_stepBack_52 : run E g mi_X8_stepBack d lm RT F pm_X8_stepBack (n + 1) 52 L st h = exI E d lm RT F (run E g mi_X8_stepBack d lm RT F pm_X8_stepBack n) (2, ((1 : Nat) : Int), 0, 53, []) L st h := run_s rfl
theorem r_X8_stepBack_53 : run E g mi_X8_stepBack d lm RT F pm_X8_stepBack (n + 1) 53 L st h = exI E d lm RT F (run E g mi_X8_stepBack d lm RT F pm_X8_stepBack n) (1, ((3 : Nat) : Int), 0, 54, []) L st h := run_s rfl
theorem r_X8_stepBack_54 : run E g mi_X8_stepBack d lm RT F pm_X8_stepBack (n + 1) 54 L st h = exI E d lm RT F (run E g mi_X8_stepBack d lm RT F pm_X8_stepBack n) (2, ((1 : Nat) : Int), 0, 55, []) L st h := run_s rfl
theorem r_X8_stepBack_55 : run E g mi_X8_stepBack d lm RT F pm_X8_stepBack (n + 1) 55 L st h = exI E d lm RT F (run E g mi_X8_stepBack d lm RT F pm_X8_stepBack n) (35, ((7 : Nat) : Int), ((0 : Nat) : Int), 58, []) L st h := run_s rfl
theorem r_X8_stepBack_58 : run E g mi_X8_stepBack d lm RT F pm_X8_stepBack (n + 1) 58 L st h = exI E d lm RT F (run E g mi_X8_stepBack d lm RT F pm_X8_stepBack n) (1, ((2 : Nat) : Int), 0, 59, []) L st h := run_s rfl
theorem r_X8_stepBack_59 : run E g mi_X8_stepBack d lm RT F pm_X8_stepBack (n + 1) 59 L st h = exI E d lm RT F (run E g mi_X8_stepBack d lm RT F pm_X8_stepBack n) (38, 0, 0, 60, []) L st h := run_s rfl
theorem r_X8_stepBack_60 : run E g mi_X8_stepBack d lm RT F pm_X8_stepBack (n + 1) 60 L st h = exI E d lm RT F (run E g mi_X8_stepBack d lm RT F pm_X8_stepBack n) (2, ((0 : Nat) : Int), 0, 61, []) L st h := run_s rfl
theorem r_X8_stepBack_61 : run E g mi_X8_stepBack d lm RT F pm_X8_stepBack (n + 1) 61 L st h = exI E d lm RT F (run E g mi_X8_stepBack d lm RT F pm_X8_stepBack n) (35, ((8 : Nat) : Int), ((10 : Nat) : Int), 64, []) L st h := run_s rfl
theorem r_X8_stepBack_64 : run E g mi_X8_stepBack d lm RT F pm_X8_stepBack (n + 1) 64 L st h = exI E d lm RT F (run E g mi_X8_stepBack d lm RT F pm_X8_stepBack n) (0, 1, 0, 65, []) L st h := run_s rfl
theorem r_X8_stepBack_65 : run E g mi_X8_stepBack d lm RT F pm_X8_stepBack (n + 1) 65 L st h = exI E d lm RT F (run E g mi_X8_stepBack d lm RT F pm_X8_stepBack n) (8, 0, 0, 66, []) L st h := run_s rfl
theorem r_X8_stepBack_66 : run E g mi_X8_stepBack d lm RT F pm_X8_stepBack (n + 1) 66 L st h = exI E d lm RT F (run E g mi_X8_stepBack d lm RT F pm_X8_stepBack n) (51, ((42 : Nat) : Int), ((4 : Nat) : Int), 69, [7]) L st h := run_s rfl
theorem r_X8_stepBack_69 : run E g mi_X8_stepBack d lm RT F pm_X8_stepBack (n + 1) 69 L st h = exI E d lm RT F (run E g mi_X8_stepBack d lm RT F pm_X8_stepBack n) (48, 4, 0, 0, []) L st h := run_s rfl
theorem e_X8_stepBack (n : Nat) {pc : Nat} (hF : FOk E d F) (hx : run E g mi_X8_stepBack d lm RT F pm_X8_stepBack n pc L st h) : G E g mi_X8_stepBack d lm RT pc L st h := run_sound hF pk_X8_stepBack n pc L st h hx
end
def mi_X8_comeBack : MI := (8, cX8_comeBack, 6, 4, false)
theorem mo_X8_comeBack : miOk mi_X8_comeBack (mt 84) = true := by decide +kernel
def tl_X8_comeBack : List (Nat × PT) := [(0, (2, ((1 : Nat) : Int), 0, 1, [])),
  (1, (35, ((7 : Nat) : Int), ((12 : Nat) : Int), 4, [])),
  (4, (0, 1, 0, 5, [])),
  (5, (8, 0, 0, 6, [])),
  (6, (4, ((2 : Nat) : Int), 0, 7, [])),
  (7, (1, ((2 : Nat) : Int), 0, 8, [])),
  (8, (2, ((1 : Nat) : Int), 0, 9, [])),
  (9, (35, ((7 : Nat) : Int), ((2 : Nat) : Int), 12, [])),
  (12, (32, 2, ((16 : Nat) : Int), 15, [])),
  (15, (48, 4, 0, 0, [])),
  (16, (2, ((1 : Nat) : Int), 0, 17, [])),
  (17, (35, ((7 : Nat) : Int), ((1 : Nat) : Int), 20, [])),
  (20, (2, ((1 : Nat) : Int), 0, 21, [])),
  (21, (35, ((7 : Nat) : Int), ((2 : Nat) : Int), 24, [])),
  (24, (0, 1, 0, 25, [])),
  (25, (9, 0, 0, 26, [])),
  (26, (38, 0, 0, 27, [])),
  (27, (2, ((1 : Nat) : Int), 0, 28, [])),
  (28, (35, ((7 : Nat) : Int), ((1 : Nat) : Int), 31, [])),
  (31, (2, ((1 : Nat) : Int), 0, 32, [])),
  (32, (35, ((7 : Nat) : Int), ((12 : Nat) : Int), 35, [])),
  (35, (38, 0, 0, 36, [])),
  (36, (9, 0, 0, 37, [])),
  (37, (4, ((3 : Nat) : Int), 0, 38, [])),
  (38, (2, ((0 : Nat) : Int), 0, 39, [])),
  (39, (2, ((1 : Nat) : Int), 0, 40, [])),
  (40, (35, ((7 : Nat) : Int), ((9 : Nat) : Int), 43, [])),
  (43, (2, ((1 : Nat) : Int), 0, 44, [])),
  (44, (35, ((7 : Nat) : Int), ((7 : Nat) : Int), 47, [])),
  (47, (52, ((70 : Nat) : Int), ((3 : Nat) : Int), 50, [8])),
  (50, (5, ((4 : Nat) : Int), 0, 52, [])),
  (52, (2, ((4 : Nat) : Int), 0, 54, [])),
  (54, (1, ((3 : Nat) : Int), 0, 55, [])),
  (55, (51, ((27 : Nat) : Int), ((2 : Nat) : Int), 58, [5])),
  (58, (2, ((0 : Nat) : Int), 0, 59, [])),
  (59, (35, ((8 : Nat) : Int), ((4 : Nat) : Int), 62, [])),
  (62, (2, ((1 : Nat) : Int), 0, 63, [])),
  (63, (35, ((7 : Nat) : Int), ((5 : Nat) : Int), 66, [])),
  (66, (49, 0, 0, 67, [])),
  (67, (2, ((0 : Nat) : Int), 0, 68, [])),
  (68, (35, ((8 : Nat) : Int), ((9 : Nat) : Int), 71, [])),
  (71, (2, ((4 : Nat) : Int), 0, 73, [])),
  (73, (51, ((28 : Nat) : Int), ((1 : Nat) : Int), 76, [5])),
  (76, (1, ((3 : Nat) : Int), 0, 77, [])),
  (77, (46, ((1 : Nat) : Int), ((4 : Nat) : Int), 80, [])),
  (80, (4, ((5 : Nat) : Int), 0, 82, [])),
  (82, (2, ((4 : Nat) : Int), 0, 84, [])),
  (84, (2, ((1 : Nat) : Int), 0, 85, [])),
  (85, (35, ((7 : Nat) : Int), ((0 : Nat) : Int), 88, [])),
  (88, (1, ((2 : Nat) : Int), 0, 89, [])),
  (89, (38, 0, 0, 90, [])),
  (90, (1, ((5 : Nat) : Int), 0, 92, [])),
  (92, (2, ((0 : Nat) : Int), 0, 93, [])),
  (93, (35, ((8 : Nat) : Int), ((8 : Nat) : Int), 96, [])),
  (96, (2, ((0 : Nat) : Int), 0, 97, [])),
  (97, (35, ((8 : Nat) : Int), ((2 : Nat) : Int), 100, [])),
  (100, (51, ((25 : Nat) : Int), ((5 : Nat) : Int), 103, [5])),
  (103, (2, ((1 : Nat) : Int), 0, 104, [])),
  (104, (35, ((7 : Nat) : Int), ((12 : Nat) : Int), 107, [])),
  (107, (31, 1, ((119 : Nat) : Int), 110, [])),
  (110, (2, ((0 : Nat) : Int), 0, 111, [])),
  (111, (2, ((1 : Nat) : Int), 0, 112, [])),
  (112, (1, ((3 : Nat) : Int), 0, 113, [])),
  (113, (51, ((77 : Nat) : Int), ((3 : Nat) : Int), 116, [8])),
  (116, (33, ((124 : Nat) : Int), 0, 0, [])),
  (119, (2, ((0 : Nat) : Int), 0, 120, [])),
  (120, (2, ((1 : Nat) : Int), 0, 121, [])),
  (121, (51, ((83 : Nat) : Int), ((2 : Nat) : Int), 124, [8])),
  (124, (48, 4, 0, 0, []))]
theorem tk_X8_comeBack_0 : tOk mi_X8_comeBack ((tl_X8_comeBack.drop 0).take 45) = true := by decide +kernel
theorem tk_X8_comeBack_1 : tOk mi_X8_comeBack ((tl_X8_comeBack.drop 45).take 45) = true := by decide +kernel
theorem tk_X8_comeBack : tOk mi_X8_comeBack tl_X8_comeBack = true := by
  refine tOk_cut 45 (by decide) (fun q hq => ?_)
  have hl : tl_X8_comeBack.length = 69 := by decide +kernel
  rw [hl] at hq
  rcases (show q = 0 ∨ q = 1 by omega) with rfl | rfl
  · exact tk_X8_comeBack_0
  · exact tk_X8_comeBack_1
def pm_X8_comeBack (pc : Nat) : Option PT := if [].contains pc then none else tl_X8_comeBack.lookup pc
theorem pk_X8_comeBack : ∀ pc pt, pm_X8_comeBack pc = some pt → okPt mi_X8_comeBack pc pt := fun pc pt h => tOk_pm tk_X8_comeBack h
section
variable {E : ET} {g : GT} {d : Nat} {lm : Nat × Nat} {RT : RTy} {F : FT} {n : Nat} {L : LV} {st : List AV} {h : AH}
theorem r_X8_comeBack_0 : run E g mi_X8_comeBack d lm RT F pm_X8_comeBack (n + 1) 0 L st h = exI E d lm RT F (run E g mi_X8_comeBack d lm RT F pm_X8_comeBack n) (2, ((1 : Nat) : Int), 0, 1, []) L st h := run_s rfl
theorem r_X8_comeBack_1 : run E g mi_X8_comeBack d lm RT F pm_X8_comeBack (n + 1) 1 L st h = exI E d lm RT F (run E g mi_X8_comeBack d lm RT F pm_X8_comeBack n) (35, ((7 : Nat) : Int), ((12 : Nat) : Int), 4, []) L st h := run_s rfl
theorem r_X8_comeBack_4 : run E g mi_X8_comeBack d lm RT F pm_X8_comeBack (n + 1) 4 L st h = exI E d lm RT F (run E g mi_X8_comeBack d lm RT F pm_X8_comeBack n) (0, 1, 0, 5, []) L st h := run_s rfl
theorem r_X8_comeBack_5 : run E g mi_X8_comeBack d lm RT F pm_X8_comeBack (n + 1) 5 L st h = exI E d lm RT F (run E g mi_X8_comeBack d lm RT F pm_X8_comeBack n) (8, 0, 0, 6, []) L st h := run_s rfl
theorem r_X8_comeBack_6 : run E g mi_X8_comeBack d lm RT F pm_X8_comeBack (n + 1) 6 L st h = exI E d lm RT F (run E g mi_X8_comeBack d lm RT F pm_X8_comeBack n) (4, ((2 : Nat) : Int), 0, 7, []) L st h := run_s rfl
theorem r_X8_comeBack_7 : run E g mi_X8_comeBack d lm RT F pm_X8_comeBack (n + 1) 7 L st h = exI E d lm RT F (run E g mi_X8_comeBack d lm RT F pm_X8_comeBack n) (1, ((2 : Nat) : Int), 0, 8, []) L st h := run_s rfl
theorem r_X8_comeBack_8 : run E g mi_X8_comeBack d lm RT F pm_X8_comeBack (n + 1) 8 L st h = exI E d lm RT F (run E g mi_X8_comeBack d lm RT F pm_X8_comeBack n) (2, ((1 : Nat) : Int), 0, 9, []) L st h := run_s rfl
theorem r_X8_comeBack_9 : run E g mi_X8_comeBack d lm RT F pm_X8_comeBack (n + 1) 9 L st h = exI E d lm RT F (run E g mi_X8_comeBack d lm RT F pm_X8_comeBack n) (35, ((7 : Nat) : Int), ((2 : Nat) : Int), 12, []) L st h := run_s rfl
theorem r_X8_comeBack_12 : run E g mi_X8_comeBack d lm RT F pm_X8_comeBack (n + 1) 12 L st h = exI E d lm RT F (run E g mi_X8_comeBack d lm RT F pm_X8_comeBack n) (32, 2, ((16 : Nat) : Int), 15, []) L st h := run_s rfl
theorem r_X8_comeBack_15 : run E g mi_X8_comeBack d lm RT F pm_X8_comeBack (n + 1) 15 L st h = exI E d lm RT F (run E g mi_X8_comeBack d lm RT F pm_X8_comeBack n) (48, 4, 0, 0, []) L st h := run_s rfl
theorem r_X8_comeBack_16 : run E g mi_X8_comeBack d lm RT F pm_X8_comeBack (n + 1) 16 L st h = exI E d lm RT F (run E g mi_X8_comeBack d lm RT F pm_X8_comeBack n) (2, ((1 : Nat) : Int), 0, 17, []) L st h := run_s rfl
theorem r_X8_comeBack_17 : run E g mi_X8_comeBack d lm RT F pm_X8_comeBack (n + 1) 17 L st h = exI E d lm RT F (run E g mi_X8_comeBack d lm RT F pm_X8_comeBack n) (35, ((7 : Nat) : Int), ((1 : Nat) : Int), 20, []) L st h := run_s rfl
theorem r_X8_comeBack_20 : run E g mi_X8_comeBack d lm RT F pm_X8_comeBack (n + 1) 20 L st h = exI E d lm RT F (run E g mi_X8_comeBack d lm RT F pm_X8_comeBack n) (2, ((1 : Nat) : Int), 0, 21, []) L st h := run_s rfl
theorem r_X8_comeBack_21 : run E g mi_X8_comeBack d lm RT F pm_X8_comeBack (n + 1) 21 L st h = exI E d lm RT F (run E g mi_X8_comeBack d lm RT F pm_X8_comeBack n) (35, ((7 : Nat) : Int), ((2 : Nat) : Int), 24, []) L st h := run_s rfl
theorem r_X8_comeBack_24 : run E g mi_X8_comeBack d lm RT F pm_X8_comeBack (n + 1) 24 L st h = exI E d lm RT F (run E g mi_X8_comeBack d lm RT F pm_X8_comeBack n) (0, 1, 0, 25, []) L st h := run_s rfl
theorem r_X8_comeBack_25 : run E g mi_X8_comeBack d lm RT F pm_X8_comeBack (n + 1) 25 L st h = exI E d lm RT F (run E g mi_X8_comeBack d lm RT F pm_X8_comeBack n) (9, 0, 0, 26, []) L st h := run_s rfl
theorem r_X8_comeBack_26 : run E g mi_X8_comeBack d lm RT F pm_X8_comeBack (n + 1) 26 L st h = exI E d lm RT F (run E g mi_X8_comeBack d lm RT F pm_X8_comeBack n) (38, 0, 0, 27, []) L st h := run_s rfl
theorem r_X8_comeBack_27 : run E g mi_X8_comeBack d lm RT F pm_X8_comeBack (n + 1) 27 L st h = exI E d lm RT F (run E g mi_X8_comeBack d lm RT F pm_X8_comeBack n) (2, ((1 : Nat) : Int), 0, 28, []) L st h := run_s rfl
theorem r_X8_comeBack_28 : run E g mi_X8_comeBack d lm RT F pm_X8_comeBack (n + 1) 28 L st h = exI E d lm RT F (run E g mi_X8_comeBack d lm RT F pm_X8_comeBack n) (35, ((7 : Nat) : Int), ((1 : Nat) : Int), 31, []) L st h := run_s rfl
theorem r_X8_comeBack_31 : run E g mi_X8_comeBack d lm RT F pm_X8_comeBack (n + 1) 31 L st h = exI E d lm RT F (run E g mi_X8_comeBack d lm RT F pm_X8_comeBack n) (2, ((1 : Nat) : Int), 0, 32, []) L st h := run_s rfl
theorem r_X8_comeBack_32 : run E g mi_X8_comeBack d lm RT F pm_X8_comeBack (n + 1) 32 L st h = exI E d lm RT F (run E g mi_X8_comeBack d lm RT F pm_X8_comeBack n) (35, ((7 : Nat) : Int), ((12 : Nat) : Int), 35, []) L st h := run_s rfl
theorem r_X8_comeBack_35 : run E g mi_X8_comeBack d lm RT F pm_X8_comeBack (n + 1) 35 L st h = exI E d lm RT F (run E g mi_X8_comeBack d lm RT F pm_X8_comeBack n) (38, 0, 0, 36, []) L st h := run_s rfl
theorem r_X8_comeBack_36 : run E g mi_X8_comeBack d lm RT F pm_X8_comeBack (n + 1) 36 L st h = exI E d lm RT F (run E g mi_X8_comeBack d lm RT F pm_X8_comeBack n) (9, 0, 0, 37, []) L st h := run_s rfl
theorem r_X8_comeBack_37 : run E g mi_X8_comeBack d lm RT F pm_X8_comeBack (n + 1) 37 L st h = exI E d lm RT F (run E g mi_X8_comeBack d lm RT F pm_X8_comeBack n) (4, ((3 : Nat) : Int), 0, 38, []) L st h := run_s rfl
theorem r_X8_comeBack_38 : run E g mi_X8_comeBack d lm RT F pm_X8_comeBack (n + 1) 38 L st h = exI E d lm RT F (run E g mi_X8_comeBack d lm RT F pm_X8_comeBack n) (2, ((0 : Nat) : Int), 0, 39, []) L st h := run_s rfl
theorem r_X8_comeBack_39 : run E g mi_X8_comeBack d lm RT F pm_X8_comeBack (n + 1) 39 L st h = exI E d lm RT F (run E g mi_X8_comeBack d lm RT F pm_X8_comeBack n) (2, ((1 : Nat) : Int), 0, 40, []) L st h := run_s rfl
theorem r_X8_comeBack_40 : run E g mi_X8_comeBack d lm RT F pm_X8_comeBack (n + 1) 40 L st h = exI E d lm RT F (run E g mi_X8_comeBack d lm RT F pm_X8_comeBack n) (35, ((7 : Nat) : Int), ((9 : Nat) : Int), 43, []) L st h := run_s rfl
theorem r_X8_comeBack_43 : run E g mi_X8_comeBack d lm RT F pm_X8_comeBack (n + 1) 43 L st h = exI E d lm RT F (run E g mi_X8_comeBack d lm RT F pm_X8_comeBack n) (2, ((1 : Nat) : Int), 0, 44, []) L st h := run_s rfl
theorem r_X8_comeBack_44 : run E g mi_X8_comeBack d lm RT F pm_X8_comeBack (n + 1) 44 L st h = exI E d lm RT F (run E g mi_X8_comeBack d lm RT F pm_X8_comeBack n) (35, ((7 : Nat) : Int), ((7 : Nat) : Int), 47, []) L st h := run_s rfl
theorem r_X8_comeBack_47 : run E g mi_X8_comeBack d lm RT F pm_X8_comeBack (n + 1) 47 L st h = exI E d lm RT F (run E g mi_X8_comeBack d lm RT F pm_X8_comeBack n) (52, ((70 : Nat) : Int), ((3 : Nat) : Int), 50, [8]) L st h := run_s rfl
theorem r_X8_comeBack_50 : run E g mi_X8_comeBack d lm RT F pm_X8_comeBack (n + 1) 50 L st h = exI E d lm RT F (run E g mi_X8_comeBack d lm RT F pm_X8_comeBack n) (5, ((4 : Nat) : Int), 0, 52, []) L st h := run_s rfl
theorem r_X8_comeBack_52 : run E g mi_X8_comeBack d lm RT F pm_X8_comeBack (n + 1) 52 L st h = exI E d lm RT F (run E g mi_X8_comeBack d lm RT F pm_X8_comeBack n) (2, ((4 : Nat) : Int), 0, 54, []) L st h := run_s rfl
theorem r_X8_comeBack_54 : run E g mi_X8_comeBack d lm RT F pm_X8_comeBack (n + 1) 54 L st h = exI E d lm RT F (run E g mi_X8_comeBack d lm RT F pm_X8_comeBack n) (1, ((3 : Nat) : Int), 0, 55, []) L st h := run_s rfl
theorem r_X8_comeBack_55 : run E g mi_X8_comeBack d lm RT F pm_X8_comeBack (n + 1) 55 L st h = exI E d lm RT F (run E g mi_X8_comeBack d lm RT F pm_X8_comeBack n) (51, ((27 : Nat) : Int), ((2 : Nat) : Int), 58, [5]) L st h := run_s rfl
theorem r_X8_comeBack_58 : run E g mi_X8_comeBack d lm RT F pm_X8_comeBack (n + 1) 58 L st h = exI E d lm RT F (run E g mi_X8_comeBack d lm RT F pm_X8_comeBack n) (2, ((0 : Nat) : Int), 0, 59, []) L st h := run_s rfl
theorem r_X8_comeBack_59 : run E g mi_X8_comeBack d lm RT F pm_X8_comeBack (n + 1) 59 L st h = exI E d lm RT F (run E g mi_X8_comeBack d lm RT F pm_X8_comeBack n) (35, ((8 : Nat) : Int), ((4 : Nat) : Int), 62, []) L st h := run_s rfl
theorem r_X8_comeBack_62 : run E g mi_X8_comeBack d lm RT F pm_X8_comeBack (n + 1) 62 L st h = exI E d lm RT F (run E g mi_X8_comeBack d lm RT F pm_X8_comeBack n) (2, ((1 : Nat) : Int), 0, 63, []) L st h := run_s rfl
theorem r_X8_comeBack_63 : run E g mi_X8_comeBack d lm RT F pm_X8_comeBack (n + 1) 63 L st h = exI E d lm RT F (run E g mi_X8_comeBack d lm RT F pm_X8_comeBack n) (35, ((7 : Nat) : Int), ((5 : Nat) : Int), 66, []) L st h := run_s rfl
theorem r_X8_comeBack_66 : run E g mi_X8_comeBack d lm RT F pm_X8_comeBack (n + 1) 66 L st h = exI E d lm RT F (run E g mi_X8_comeBack d lm RT F pm_X8_comeBack n) (49, 0, 0, 67, []) L st h := run_s rfl
theorem r_X8_comeBack_67 : run E g mi_X8_comeBack d lm RT F pm_X8_comeBack (n + 1) 67 L st h = exI E d lm RT F (run E g mi_X8_comeBack d lm RT F pm_X8_comeBack n) (2, ((0 : Nat) : Int), 0, 68, []) L st h := run_s rfl
theorem r_X8_comeBack_68 : run E g mi_X8_comeBack d lm RT F pm_X8_comeBack (n + 1) 68 L st h = exI E d lm RT F (run E g mi_X8_comeBack d lm RT F pm_X8_comeBack n) (35, ((8 : Nat) : Int), ((9 : Nat) : Int), 71, []) L st h := run_s rfl
theorem r_X8_comeBack_71 : run E g mi_X8_comeBack d lm RT F pm_X8_comeBack (n + 1) 71 L st h = exI E d lm RT F (run E g mi_X8_comeBack d lm RT F pm_X8_comeBack n) (2, ((4 : Nat) : Int), 0, 73, []) L st h := run_s rfl
theorem r_X8_comeBack_73 : run E g mi_X8_comeBack d lm RT F pm_X8_comeBack (n + 1) 73 L st h = exI E d lm RT F (run E g mi_X8_comeBack d lm RT F pm_X8_comeBack n) (51, ((28 : Nat) : Int), ((1 : Nat) : Int), 76, [5]) L st h := run_s rfl
theorem r_X8_comeBack_76 : run E g mi_X8_comeBack d lm RT F pm_X8_comeBack (n + 1) 76 L st h = exI E d lm RT F (run E g mi_X8_comeBack d lm RT F pm_X8_comeBack n) (1, ((3 : Nat) : Int), 0, 77, []) L st h := run_s rfl
theorem r_X8_comeBack_77 : run E g mi_X8_comeBack d lm RT F pm_X8_comeBack (n + 1) 77 L st h = exI E d lm RT F (run E g mi_X8_comeBack d lm RT F pm_X8_comeBack n) (46, ((1 : Nat) : Int), ((4 : Nat) : Int), 80, []) L st h := run_s rfl
theorem r_X8_comeBack_80 : run E g mi_X8_comeBack d lm RT F pm_X8_comeBack (n + 1) 80 L st h = exI E d lm RT F (run E g mi_X8_comeBack d lm RT F pm_X8_comeBack n) (4, ((5 : Nat) : Int), 0, 82, []) L st h := run_s rfl
theorem r_X8_comeBack_82 : run E g mi_X8_comeBack d lm RT F pm_X8_comeBack (n + 1) 82 L st h = exI E d lm RT F (run E g mi_X8_comeBack d lm RT F pm_X8_comeBack n) (2, ((4 : Nat) : Int), 0, 84, []) L st h := run_s rfl
theorem r_X8_comeBack_84 : run E g mi_X8_comeBack d lm RT F pm_X8_comeBack (n + 1) 84 L st h = exI E d lm RT F (run E g mi_X8_comeBack d lm RT F pm_X8_comeBack n) (2, ((1 : Nat) : Int), 0, 85, []) L st h := run_s rfl
theorem r_X8_comeBack_85 : run E g mi_X8_comeBack d lm RT F pm_X8_comeBack (n + 1) 85 L st h = exI E d lm RT F (run E g mi_X8_comeBack d lm RT F pm_X8_comeBack n) (35, ((7 : Nat) : Int), ((0 : Nat) : Int), 88, []) L st h := run_s rfl
theorem r_X8_comeBack_88 : run E g mi_X8_comeBack d lm RT F pm_X8_comeBack (n + 1) 88 L st h = exI E d lm RT F (run E g mi_X8_comeBack d lm RT F pm_X8_comeBack n) (1, ((2 : Nat) : Int), 0, 89, []) L st h := run_s rfl
theorem r_X8_comeBack_89 : run E g mi_X8_comeBack d lm RT F pm_X8_comeBack (n + 1) 89 L st h = exI E d lm RT F (run E g mi_X8_comeBack d lm RT F pm_X8_comeBack n) (38, 0, 0, 90, []) L st h := run_s rfl
theorem r_X8_comeBack_90 : run E g mi_X8_comeBack d lm RT F pm_X8_comeBack (n + 1) 90 L st h = exI E d lm RT F (run E g mi_X8_comeBack d lm RT F pm_X8_comeBack n) (1, ((5 : Nat) : Int), 0, 92, []) L st h := run_s rfl
theorem r_X8_comeBack_92 : run E g mi_X8_comeBack d lm RT F pm_X8_comeBack (n + 1) 92 L st h = exI E d lm RT F (run E g mi_X8_comeBack d lm RT F pm_X8_comeBack n) (2, ((0 : Nat) : Int), 0, 93, []) L st h := run_s rfl
theorem r_X8_comeBack_93 : run E g mi_X8_comeBack d lm RT F pm_X8_comeBack (n + 1) 93 L st h = exI E d lm RT F (run E g mi_X8_comeBack d lm RT F pm_X8_comeBack n) (35, ((8 : Nat) : Int), ((8 : Nat) : Int), 96, []) L st h := run_s rfl
theorem r_X8_comeBack_96 : run E g mi_X8_comeBack d lm RT F pm_X8_comeBack (n + 1) 96 L st h = exI E d lm RT F (run E g mi_X8_comeBack d lm RT F pm_X8_comeBack n) (2, ((0 : Nat) : Int), 0, 97, []) L st h := run_s rfl
theorem r_X8_comeBack_97 : run E g mi_X8_comeBack d lm RT F pm_X8_comeBack (n + 1) 97 L st h = exI E d lm RT F (run E g mi_X8_comeBack d lm RT F pm_X8_comeBack n) (35, ((8 : Nat) : Int), ((2 : Nat) : Int), 100, []) L st h := run_s rfl
theorem r_X8_comeBack_100 : run E g mi_X8_comeBack d lm RT F pm_X8_comeBack (n + 1) 100 L st h = exI E d lm RT F (run E g mi_X8_comeBack d lm RT F pm_X8_comeBack n) (51, ((25 : Nat) : Int), ((5 : Nat) : Int), 103, [5]) L st h := run_s rfl
theorem r_X8_comeBack_103 : run E g mi_X8_comeBack d lm RT F pm_X8_comeBack (n + 1) 103 L st h = exI E d lm RT F (run E g mi_X8_comeBack d lm RT F pm_X8_comeBack n) (2, ((1 : Nat) : Int), 0, 104, []) L st h := run_s rfl
theorem r_X8_comeBack_104 : run E g mi_X8_comeBack d lm RT F pm_X8_comeBack (n + 1) 104 L st h = exI E d lm RT F (run E g mi_X8_comeBack d lm RT F pm_X8_comeBack n) (35, ((7 : Nat) : Int), ((12 : Nat) : Int), 107, []) L st h := run_s rfl
theorem r_X8_comeBack_107 : run E g mi_X8_comeBack d lm RT F pm_X8_comeBack (n + 1) 107 L st h = exI E d lm RT F (run E g mi_X8_comeBack d lm RT F pm_X8_comeBack n) (31, 1, ((119 : Nat) : Int), 110, []) L st h := run_s rfl
theorem r_X8_comeBack_110 : run E g mi_X8_comeBack d lm RT F pm_X8_comeBack (n + 1) 110 L st h = exI E d lm RT F (run E g mi_X8_comeBack d lm RT F pm_X8_comeBack n) (2, ((0 : Nat) : Int), 0, 111, []) L st h := run_s rfl
theorem r_X8_comeBack_111 : run E g mi_X8_comeBack d lm RT F pm_X8_comeBack (n + 1) 111 L st h = exI E d lm RT F (run E g mi_X8_comeBack d lm RT F pm_X8_comeBack n) (2, ((1 : Nat) : Int), 0, 112, []) L st h := run_s rfl
theorem r_X8_comeBack_112 : run E g mi_X8_comeBack d lm RT F pm_X8_comeBack (n + 1) 112 L st h = exI E d lm RT F (run E g mi_X8_comeBack d lm RT F pm_X8_comeBack n) (1, ((3 : Nat) : Int), 0, 113, []) L st h := run_s rfl
theorem r_X8_comeBack_113 : run E g mi_X8_comeBack d lm RT F pm_X8_comeBack (n + 1) 113 L st h = exI E d lm RT F (run E g mi_X8_comeBack d lm RT F pm_X8_comeBack n) (51, ((77 : Nat) : Int), ((3 : Nat) : Int), 116, [8]) L st h := run_s rfl
theorem r_X8_comeBack_116 : run E g mi_X8_comeBack d lm RT F pm_X8_comeBack (n + 1) 116 L st h = exI E d lm RT F (run E g mi_X8_comeBack d lm RT F pm_X8_comeBack n) (33, ((124 : Nat) : Int), 0, 0, []) L st h := run_s rfl
theorem r_X8_comeBack_119 : run E g mi_X8_comeBack d lm RT F pm_X8_comeBack (n + 1) 119 L st h = exI E d lm RT F (run E g mi_X8_comeBack d lm RT F pm_X8_comeBack n) (2, ((0 : Nat) : Int), 0, 120, []) L st h := run_s rfl
theorem r_X8_comeBack_120 : run E g mi_X8_comeBack d lm RT F pm_X8_comeBack (n + 1) 120 L st h = exI E d lm RT F (run E g mi_X8_comeBack d lm RT F pm_X8_comeBack n) (2, ((1 : Nat) : Int), 0, 121, []) L st h := run_s rfl
theorem r_X8_comeBack_121 : run E g mi_X8_comeBack d lm RT F pm_X8_comeBack (n + 1) 121 L st h = exI E d lm RT F (run E g mi_X8_comeBack d lm RT F pm_X8_comeBack n) (51, ((83 : Nat) : Int), ((2 : Nat) : Int), 124, [8]) L st h := run_s rfl
theorem r_X8_comeBack_124 : run E g mi_X8_comeBack d lm RT F pm_X8_comeBack (n + 1) 124 L st h = exI E d lm RT F (run E g mi_X8_comeBack d lm RT F pm_X8_comeBack n) (48, 4, 0, 0, []) L st h := run_s rfl
theorem e_X8_comeBack (n : Nat) {pc : Nat} (hF : FOk E d F) (hx : run E g mi_X8_comeBack d lm RT F pm_X8_comeBack n pc L st h) : G E g mi_X8_comeBack d lm RT pc L st h := run_sound hF pk_X8_comeBack n pc L st h hx
end
def mi_X8_followLearnt : MI := (8, cX8_followLearnt, 7, 0, false)
theorem mo_X8_followLearnt : miOk mi_X8_followLearnt (mt 85) = true := by decide +kernel
def tl_X8_followLearnt : List (Nat × PT) := [(0, (1, ((1 : Nat) : Int), 0, 1, [])),
  (1, (4, ((3 : Nat) : Int), 0, 2, [])),
  (2, (0, 0, 0, 3, [])),
  (3, (4, ((4 : Nat) : Int), 0, 5, [])),
  (5, (0, 0, 0, 6, [])),
  (6, (4, ((5 : Nat) : Int), 0, 8, [])),
  (8, (1, ((5 : Nat) : Int), 0, 10, [])),
  (10, (0, 8, 0, 12, [])),
  (12, (32, 3, ((80 : Nat) : Int), 15, [])),
  (15, (2, ((0 : Nat) : Int), 0, 16, [])),
  (16, (35, ((8 : Nat) : Int), ((7 : Nat) : Int), 19, [])),
  (19, (1, ((5 : Nat) : Int), 0, 21, [])),
  (21, (1, ((3 : Nat) : Int), 0, 22, [])),
  (22, (39, 0, 0, 23, [])),
  (23, (1, ((3 : Nat) : Int), 0, 24, [])),
  (24, (1, ((2 : Nat) : Int), 0, 25, [])),
  (25, (32, 1, ((33 : Nat) : Int), 28, [])),
  (28, (1, ((5 : Nat) : Int), 0, 30, [])),
  (30, (0, 1, 0, 31, [])),
  (31, (8, 0, 0, 32, [])),
  (32, (48, 0, 0, 0, [])),
  (33, (1, ((4 : Nat) : Int), 0, 35, [])),
  (35, (0, 1, 0, 36, [])),
  (36, (1, ((3 : Nat) : Int), 0, 37, [])),
  (37, (16, 0, 0, 38, [])),
  (38, (14, 0, 0, 39, [])),
  (39, (4, ((4 : Nat) : Int), 0, 41, [])),
  (41, (2, ((0 : Nat) : Int), 0, 42, [])),
  (42, (1, ((3 : Nat) : Int), 0, 43, [])),
  (43, (1, ((2 : Nat) : Int), 0, 44, [])),
  (44, (52, ((70 : Nat) : Int), ((3 : Nat) : Int), 47, [8])),
  (47, (51, ((22 : Nat) : Int), ((1 : Nat) : Int), 50, [5])),
  (50, (4, ((6 : Nat) : Int), 0, 52, [])),
  (52, (1, ((6 : Nat) : Int), 0, 54, [])),
  (54, (0, (-9), 0, 56, [])),
  (56, (32, 0, ((69 : Nat) : Int), 59, [])),
  (59, (1, ((4 : Nat) : Int), 0, 61, [])),
  (61, (1, ((6 : Nat) : Int), 0, 63, [])),
  (63, (45, ((69 : Nat) : Int), ((2 : Nat) : Int), 66, [])),
  (66, (31, 0, ((71 : Nat) : Int), 69, [])),
  (69, (0, 0, 0, 70, [])),
  (70, (48, 0, 0, 0, [])),
  (71, (1, ((6 : Nat) : Int), 0, 73, [])),
  (73, (4, ((3 : Nat) : Int), 0, 74, [])),
  (74, (7, ((5 : Nat) : Int), 1, 77, [])),
  (77, (33, ((8 : Nat) : Int), 0, 0, [])),
  (80, (0, 0, 0, 81, [])),
  (81, (48, 0, 0, 0, []))]
theorem tk_X8_followLearnt_0 : tOk mi_X8_followLearnt ((tl_X8_followLearnt.drop 0).take 45) = true := by decide +kernel
theorem tk_X8_followLearnt_1 : tOk mi_X8_followLearnt ((tl_X8_followLearnt.drop 45).take 45) = true := by decide +kernel
theorem tk_X8_followLearnt : tOk mi_X8_followLearnt tl_X8_followLearnt = true := by
  refine tOk_cut 45 (by decide) (fun q hq => ?_)
  have hl : tl_X8_followLearnt.length = 48 := by decide +kernel
  rw [hl] at hq
  rcases (show q = 0 ∨ q = 1 by omega) with rfl | rfl
  · exact tk_X8_followLearnt_0
  · exact tk_X8_followLearnt_1
def pm_X8_followLearnt (pc : Nat) : Option PT := if [8].contains pc then none else tl_X8_followLearnt.lookup pc
theorem pk_X8_followLearnt : ∀ pc pt, pm_X8_followLearnt pc = some pt → okPt mi_X8_followLearnt pc pt := fun pc pt h => tOk_pm tk_X8_followLearnt h
section
variable {E : ET} {g : GT} {d : Nat} {lm : Nat × Nat} {RT : RTy} {F : FT} {n : Nat} {L : LV} {st : List AV} {h : AH}
theorem r_X8_followLearnt_0 : run E g mi_X8_followLearnt d lm RT F pm_X8_followLearnt (n + 1) 0 L st h = exI E d lm RT F (run E g mi_X8_followLearnt d lm RT F pm_X8_followLearnt n) (1, ((1 : Nat) : Int), 0, 1, []) L st h := run_s rfl
theorem r_X8_followLearnt_1 : run E g mi_X8_followLearnt d lm RT F pm_X8_followLearnt (n + 1) 1 L st h = exI E d lm RT F (run E g mi_X8_followLearnt d lm RT F pm_X8_followLearnt n) (4, ((3 : Nat) : Int), 0, 2, []) L st h := run_s rfl
theorem r_X8_followLearnt_2 : run E g mi_X8_followLearnt d lm RT F pm_X8_followLearnt (n + 1) 2 L st h = exI E d lm RT F (run E g mi_X8_followLearnt d lm RT F pm_X8_followLearnt n) (0, 0, 0, 3, []) L st h := run_s rfl
theorem r_X8_followLearnt_3 : run E g mi_X8_followLearnt d lm RT F pm_X8_followLearnt (n + 1) 3 L st h = exI E d lm RT F (run E g mi_X8_followLearnt d lm RT F pm_X8_followLearnt n) (4, ((4 : Nat) : Int), 0, 5, []) L st h := run_s rfl
theorem r_X8_followLearnt_5 : run E g mi_X8_followLearnt d lm RT F pm_X8_followLearnt (n + 1) 5 L st h = exI E d lm RT F (run E g mi_X8_followLearnt d lm RT F pm_X8_followLearnt n) (0, 0, 0, 6, []) L st h := run_s rfl
theorem r_X8_followLearnt_6 : run E g mi_X8_followLearnt d lm RT F pm_X8_followLearnt (n + 1) 6 L st h = exI E d lm RT F (run E g mi_X8_followLearnt d lm RT F pm_X8_followLearnt n) (4, ((5 : Nat) : Int), 0, 8, []) L st h := run_s rfl
theorem r_X8_followLearnt_8 : run E g mi_X8_followLearnt d lm RT F pm_X8_followLearnt (n + 1) 8 L st h = G E g mi_X8_followLearnt d lm RT 8 L st h := run_c rfl
theorem q_X8_followLearnt_8 (n : Nat) (hF : FOk E d F) (hx : exI E d lm RT F (run E g mi_X8_followLearnt d lm RT F pm_X8_followLearnt n) (1, ((5 : Nat) : Int), 0, 10, []) L st h) : G E g mi_X8_followLearnt d lm RT 8 L st h := sstep hF (tOk_spec tk_X8_followLearnt (by decide +kernel)) (run_sound hF pk_X8_followLearnt n) hx
theorem r_X8_followLearnt_10 : run E g mi_X8_followLearnt d lm RT F pm_X8_followLearnt (n + 1) 10 L st h = exI E d lm RT F (run E g mi_X8_followLearnt d lm RT F pm_X8_followLearnt n) (0, 8, 0, 12, []) L st h := run_s rfl
theorem r_X8_followLearnt_12 : run E g mi_X8_followLearnt d lm RT F pm_X8_followLearnt (n + 1) 12 L st h = exI E d lm RT F (run E g mi_X8_followLearnt d lm RT F pm_X8_followLearnt n) (32, 3, ((80 : Nat) : Int), 15, []) L st h := run_s rfl
theorem r_X8_followLearnt_15 : run E g mi_X8_followLearnt d lm RT F pm_X8_followLearnt (n + 1) 15 L st h = exI E d lm RT F (run E g mi_X8_followLearnt d lm RT F pm_X8_followLearnt n) (2, ((0 : Nat) : Int), 0, 16, []) L st h := run_s rfl
theorem r_X8_followLearnt_16 : run E g mi_X8_followLearnt d lm RT F pm_X8_followLearnt (n + 1) 16 L st h = exI E d lm RT F (run E g mi_X8_followLearnt d lm RT F pm_X8_followLearnt n) (35, ((8 : Nat) : Int), ((7 : Nat) : Int), 19, []) L st h := run_s rfl
theorem r_X8_followLearnt_19 : run E g mi_X8_followLearnt d lm RT F pm_X8_followLearnt (n + 1) 19 L st h = exI E d lm RT F (run E g mi_X8_followLearnt d lm RT F pm_X8_followLearnt n) (1, ((5 : Nat) : Int), 0, 21, []) L st h := run_s rfl
theorem r_X8_followLearnt_21 : run E g mi_X8_followLearnt d lm RT F pm_X8_followLearnt (n + 1) 21 L st h = exI E d lm RT F (run E g mi_X8_followLearnt d lm RT F pm_X8_followLearnt n) (1, ((3 : Nat) : Int), 0, 22, []) L st h := run_s rfl
theorem r_X8_followLearnt_22 : run E g mi_X8_followLearnt d lm RT F pm_X8_followLearnt (n + 1) 22 L st h = exI E d lm RT F (run E g mi_X8_followLearnt d lm RT F pm_X8_followLearnt n) (39, 0, 0, 23, []) L st h := run_s rfl
theorem r_X8_followLearnt_23 : run E g mi_X8_followLearnt d lm RT F pm_X8_followLearnt (n + 1) 23 L st h = exI E d lm RT F (run E g mi_X8_followLearnt d lm RT F pm_X8_followLearnt n) (1, ((3 : Nat) : Int), 0, 24, []) L st h := run_s rfl
theorem r_X8_followLearnt_24 : run E g mi_X8_followLearnt d lm RT F pm_X8_followLearnt (n + 1) 24 L st h = exI E d lm RT F (run E g mi_X8_followLearnt d lm RT F pm_X8_followLearnt n) (1, ((2 : Nat) : Int), 0, 25, []) L st h := run_s rfl
theorem r_X8_followLearnt_25 : run E g mi_X8_followLearnt d lm RT F pm_X8_followLearnt (n + 1) 25 L st h = exI E d lm RT F (run E g mi_X8_followLearnt d lm RT F pm_X8_followLearnt n) (32, 1, ((33 : Nat) : Int), 28, []) L st h := run_s rfl
theorem r_X8_followLearnt_28 : run E g mi_X8_followLearnt d lm RT F pm_X8_followLearnt (n + 1) 28 L st h = exI E d lm RT F (run E g mi_X8_followLearnt d lm RT F pm_X8_followLearnt n) (1, ((5 : Nat) : Int), 0, 30, []) L st h := run_s rfl
theorem r_X8_followLearnt_30 : run E g mi_X8_followLearnt d lm RT F pm_X8_followLearnt (n + 1) 30 L st h = exI E d lm RT F (run E g mi_X8_followLearnt d lm RT F pm_X8_followLearnt n) (0, 1, 0, 31, []) L st h := run_s rfl
theorem r_X8_followLearnt_31 : run E g mi_X8_followLearnt d lm RT F pm_X8_followLearnt (n + 1) 31 L st h = exI E d lm RT F (run E g mi_X8_followLearnt d lm RT F pm_X8_followLearnt n) (8, 0, 0, 32, []) L st h := run_s rfl
theorem r_X8_followLearnt_32 : run E g mi_X8_followLearnt d lm RT F pm_X8_followLearnt (n + 1) 32 L st h = exI E d lm RT F (run E g mi_X8_followLearnt d lm RT F pm_X8_followLearnt n) (48, 0, 0, 0, []) L st h := run_s rfl
theorem r_X8_followLearnt_33 : run E g mi_X8_followLearnt d lm RT F pm_X8_followLearnt (n + 1) 33 L st h = exI E d lm RT F (run E g mi_X8_followLearnt d lm RT F pm_X8_followLearnt n) (1, ((4 : Nat) : Int), 0, 35, []) L st h := run_s rfl
theorem r_X8_followLearnt_35 : run E g mi_X8_followLearnt d lm RT F pm_X8_followLearnt (n + 1) 35 L st h = exI E d lm RT F (run E g mi_X8_followLearnt d lm RT F pm_X8_followLearnt n) (0, 1, 0, 36, []) L st h := run_s rfl
theorem r_X8_followLearnt_36 : run E g mi_X8_followLearnt d lm RT F pm_X8_followLearnt (n + 1) 36 L st h = exI E d lm RT F (run E g mi_X8_followLearnt d lm RT F pm_X8_followLearnt n) (1, ((3 : Nat) : Int), 0, 37, []) L st h := run_s rfl
theorem r_X8_followLearnt_37 : run E g mi_X8_followLearnt d lm RT F pm_X8_followLearnt (n + 1) 37 L st h = exI E d lm RT F (run E g mi_X8_followLearnt d lm RT F pm_X8_followLearnt n) (16, 0, 0, 38, []) L st h := run_s rfl
theorem r_X8_followLearnt_38 : run E g mi_X8_followLearnt d lm RT F pm_X8_followLearnt (n + 1) 38 L st h = exI E d lm RT F (run E g mi_X8_followLearnt d lm RT F pm_X8_followLearnt n) (14, 0, 0, 39, []) L st h := run_s rfl
theorem r_X8_followLearnt_39 : run E g mi_X8_followLearnt d lm RT F pm_X8_followLearnt (n + 1) 39 L st h = exI E d lm RT F (run E g mi_X8_followLearnt d lm RT F pm_X8_followLearnt n) (4, ((4 : Nat) : Int), 0, 41, []) L st h := run_s rfl
theorem r_X8_followLearnt_41 : run E g mi_X8_followLearnt d lm RT F pm_X8_followLearnt (n + 1) 41 L st h = exI E d lm RT F (run E g mi_X8_followLearnt d lm RT F pm_X8_followLearnt n) (2, ((0 : Nat) : Int), 0, 42, []) L st h := run_s rfl
theorem r_X8_followLearnt_42 : run E g mi_X8_followLearnt d lm RT F pm_X8_followLearnt (n + 1) 42 L st h = exI E d lm RT F (run E g mi_X8_followLearnt d lm RT F pm_X8_followLearnt n) (1, ((3 : Nat) : Int), 0, 43, []) L st h := run_s rfl
theorem r_X8_followLearnt_43 : run E g mi_X8_followLearnt d lm RT F pm_X8_followLearnt (n + 1) 43 L st h = exI E d lm RT F (run E g mi_X8_followLearnt d lm RT F pm_X8_followLearnt n) (1, ((2 : Nat) : Int), 0, 44, []) L st h := run_s rfl
theorem r_X8_followLearnt_44 : run E g mi_X8_followLearnt d lm RT F pm_X8_followLearnt (n + 1) 44 L st h = exI E d lm RT F (run E g mi_X8_followLearnt d lm RT F pm_X8_followLearnt n) (52, ((70 : Nat) : Int), ((3 : Nat) : Int), 47, [8]) L st h := run_s rfl
theorem r_X8_followLearnt_47 : run E g mi_X8_followLearnt d lm RT F pm_X8_followLearnt (n + 1) 47 L st h = exI E d lm RT F (run E g mi_X8_followLearnt d lm RT F pm_X8_followLearnt n) (51, ((22 : Nat) : Int), ((1 : Nat) : Int), 50, [5]) L st h := run_s rfl
theorem r_X8_followLearnt_50 : run E g mi_X8_followLearnt d lm RT F pm_X8_followLearnt (n + 1) 50 L st h = exI E d lm RT F (run E g mi_X8_followLearnt d lm RT F pm_X8_followLearnt n) (4, ((6 : Nat) : Int), 0, 52, []) L st h := run_s rfl
theorem r_X8_followLearnt_52 : run E g mi_X8_followLearnt d lm RT F pm_X8_followLearnt (n + 1) 52 L st h = exI E d lm RT F (run E g mi_X8_followLearnt d lm RT F pm_X8_followLearnt n) (1, ((6 : Nat) : Int), 0, 54, []) L st h := run_s rfl
theorem r_X8_followLearnt_54 : run E g mi_X8_followLearnt d lm RT F pm_X8_followLearnt (n + 1) 54 L st h = exI E d lm RT F (run E g mi_X8_followLearnt d lm RT F pm_X8_followLearnt n) (0, (-9), 0, 56, []) L st h := run_s rfl
theorem r_X8_followLearnt_56 : run E g mi_X8_followLearnt d lm RT F pm_X8_followLearnt (n + 1) 56 L st h = exI E d lm RT F (run E g mi_X8_followLearnt d lm RT F pm_X8_followLearnt n) (32, 0, ((69 : Nat) : Int), 59, []) L st h := run_s rfl
theorem r_X8_followLearnt_59 : run E g mi_X8_followLearnt d lm RT F pm_X8_followLearnt (n + 1) 59 L st h = exI E d lm RT F (run E g mi_X8_followLearnt d lm RT F pm_X8_followLearnt n) (1, ((4 : Nat) : Int), 0, 61, []) L st h := run_s rfl
theorem r_X8_followLearnt_61 : run E g mi_X8_followLearnt d lm RT F pm_X8_followLearnt (n + 1) 61 L st h = exI E d lm RT F (run E g mi_X8_followLearnt d lm RT F pm_X8_followLearnt n) (1, ((6 : Nat) : Int), 0, 63, []) L st h := run_s rfl
theorem r_X8_followLearnt_63 : run E g mi_X8_followLearnt d lm RT F pm_X8_followLearnt (n + 1) 63 L st h = exI E d lm RT F (run E g mi_X8_followLearnt d lm RT F pm_X8_followLearnt n) (45, ((69 : Nat) : Int), ((2 : Nat) : Int), 66, []) L st h := run_s rfl
theorem r_X8_followLearnt_66 : run E g mi_X8_followLearnt d lm RT F pm_X8_followLearnt (n + 1) 66 L st h = exI E d lm RT F (run E g mi_X8_followLearnt d lm RT F pm_X8_followLearnt n) (31, 0, ((71 : Nat) : Int), 69, []) L st h := run_s rfl
theorem r_X8_followLearnt_69 : run E g mi_X8_followLearnt d lm RT F pm_X8_followLearnt (n + 1) 69 L st h = exI E d lm RT F (run E g mi_X8_followLearnt d lm RT F pm_X8_followLearnt n) (0, 0, 0, 70, []) L st h := run_s rfl
theorem r_X8_followLearnt_70 : run E g mi_X8_followLearnt d lm RT F pm_X8_followLearnt (n + 1) 70 L st h = exI E d lm RT F (run E g mi_X8_followLearnt d lm RT F pm_X8_followLearnt n) (48, 0, 0, 0, []) L st h := run_s rfl
theorem r_X8_followLearnt_71 : run E g mi_X8_followLearnt d lm RT F pm_X8_followLearnt (n + 1) 71 L st h = exI E d lm RT F (run E g mi_X8_followLearnt d lm RT F pm_X8_followLearnt n) (1, ((6 : Nat) : Int), 0, 73, []) L st h := run_s rfl
theorem r_X8_followLearnt_73 : run E g mi_X8_followLearnt d lm RT F pm_X8_followLearnt (n + 1) 73 L st h = exI E d lm RT F (run E g mi_X8_followLearnt d lm RT F pm_X8_followLearnt n) (4, ((3 : Nat) : Int), 0, 74, []) L st h := run_s rfl
theorem r_X8_followLearnt_74 : run E g mi_X8_followLearnt d lm RT F pm_X8_followLearnt (n + 1) 74 L st h = exI E d lm RT F (run E g mi_X8_followLearnt d lm RT F pm_X8_followLearnt n) (7, ((5 : Nat) : Int), 1, 77, []) L st h := run_s rfl
theorem r_X8_followLearnt_77 : run E g mi_X8_followLearnt d lm RT F pm_X8_followLearnt (n + 1) 77 L st h = exI E d lm RT F (run E g mi_X8_followLearnt d lm RT F pm_X8_followLearnt n) (33, ((8 : Nat) : Int), 0, 0, []) L st h := run_s rfl
theorem r_X8_followLearnt_80 : run E g mi_X8_followLearnt d lm RT F pm_X8_followLearnt (n + 1) 80 L st h = exI E d lm RT F (run E g mi_X8_followLearnt d lm RT F pm_X8_followLearnt n) (0, 0, 0, 81, []) L st h := run_s rfl
theorem r_X8_followLearnt_81 : run E g mi_X8_followLearnt d lm RT F pm_X8_followLearnt (n + 1) 81 L st h = exI E d lm RT F (run E g mi_X8_followLearnt d lm RT F pm_X8_followLearnt n) (48, 0, 0, 0, []) L st h := run_s rfl
theorem e_X8_followLearnt (n : Nat) {pc : Nat} (hF : FOk E d F) (hx : run E g mi_X8_followLearnt d lm RT F pm_X8_followLearnt n pc L st h) : G E g mi_X8_followLearnt d lm RT pc L st h := run_sound hF pk_X8_followLearnt n pc L st h hx
end
def mi_X8_delaysOfWay : MI := (8, cX8_delaysOfWay, 4, 0, false)
theorem mo_X8_delaysOfWay : miOk mi_X8_delaysOfWay (mt 86) = true := by decide +kernel
def tl_X8_delaysOfWay : List (Nat × PT) := [(0, (0, 0, 0, 1, [])),
  (1, (4, ((2 : Nat) : Int), 0, 2, [])),
  (2, (0, 1, 0, 3, [])),
  (3, (4, ((3 : Nat) : Int), 0, 4, [])),
  (4, (1, ((3 : Nat) : Int), 0, 5, [])),
  (5, (1, ((1 : Nat) : Int), 0, 6, [])),
  (6, (32, 3, ((39 : Nat) : Int), 9, [])),
  (9, (1, ((2 : Nat) : Int), 0, 10, [])),
  (10, (2, ((0 : Nat) : Int), 0, 11, [])),
  (11, (35, ((8 : Nat) : Int), ((0 : Nat) : Int), 14, [])),
  (14, (2, ((0 : Nat) : Int), 0, 15, [])),
  (15, (35, ((8 : Nat) : Int), ((7 : Nat) : Int), 18, [])),
  (18, (1, ((3 : Nat) : Int), 0, 19, [])),
  (19, (0, 1, 0, 20, [])),
  (20, (9, 0, 0, 21, [])),
  (21, (38, 0, 0, 22, [])),
  (22, (2, ((0 : Nat) : Int), 0, 23, [])),
  (23, (35, ((8 : Nat) : Int), ((7 : Nat) : Int), 26, [])),
  (26, (1, ((3 : Nat) : Int), 0, 27, [])),
  (27, (38, 0, 0, 28, [])),
  (28, (51, ((10 : Nat) : Int), ((3 : Nat) : Int), 31, [3])),
  (31, (8, 0, 0, 32, [])),
  (32, (4, ((2 : Nat) : Int), 0, 33, [])),
  (33, (7, ((3 : Nat) : Int), 1, 36, [])),
  (36, (33, ((4 : Nat) : Int), 0, 0, [])),
  (39, (1, ((2 : Nat) : Int), 0, 40, [])),
  (40, (48, 0, 0, 0, []))]
theorem tk_X8_delaysOfWay : tOk mi_X8_delaysOfWay tl_X8_delaysOfWay = true := by decide +kernel
def pm_X8_delaysOfWay (pc : Nat) : Option PT := if [4].contains pc then none else tl_X8_delaysOfWay.lookup pc
theorem pk_X8_delaysOfWay : ∀ pc pt, pm_X8_delaysOfWay pc = some pt → okPt mi_X8_delaysOfWay pc pt := fun pc pt h => tOk_pm tk_X8_delaysOfWay h
section
variable {E : ET} {g : GT} {d : Nat} {lm : Nat × Nat} {RT : RTy} {F : FT} {n : Nat} {L : LV} {st : List AV} {h : AH}
theorem r_X8_delaysOfWay_0 : run E g mi_X8_delaysOfWay d lm RT F pm_X8_delaysOfWay (n + 1) 0 L st h = exI E d lm RT F (run E g mi_X8_delaysOfWay d lm RT F pm_X8_delaysOfWay n) (0, 0, 0, 1, []) L st h := run_s rfl
theorem r_X8_delaysOfWay_1 : run E g mi_X8_delaysOfWay d lm RT F pm_X8_delaysOfWay (n + 1) 1 L st h = exI E d lm RT F (run E g mi_X8_delaysOfWay d lm RT F pm_X8_delaysOfWay n) (4, ((2 : Nat) : Int), 0, 2, []) L st h := run_s rfl
theorem r_X8_delaysOfWay_2 : run E g mi_X8_delaysOfWay d lm RT F pm_X8_delaysOfWay (n + 1) 2 L st h = exI E d lm RT F (run E g mi_X8_delaysOfWay d lm RT F pm_X8_delaysOfWay n) (0, 1, 0, 3, []) L st h := run_s rfl
theorem r_X8_delaysOfWay_3 : run E g mi_X8_delaysOfWay d lm RT F pm_X8_delaysOfWay (n + 1) 3 L st h = exI E d lm RT F (run E g mi_X8_delaysOfWay d lm RT F pm_X8_delaysOfWay n) (4, ((3 : Nat) : Int), 0, 4, []) L st h := run_s rfl
theorem r_X8_delaysOfWay_4 : run E g mi_X8_delaysOfWay d lm RT F pm_X8_delaysOfWay (n + 1) 4 L st h = G E g mi_X8_delaysOfWay d lm RT 4 L st h := run_c rfl
theorem q_X8_delaysOfWay_4 (n : Nat) (hF : FOk E d F) (hx : exI E d lm RT F (run E g mi_X8_delaysOfWay d lm RT F pm_X8_delaysOfWay n) (1, ((3 : Nat) : Int), 0, 5, []) L st h) : G E g mi_X8_delaysOfWay d lm RT 4 L st h := sstep hF (tOk_spec tk_X8_delaysOfWay (by decide +kernel)) (run_sound hF pk_X8_delaysOfWay n) hx
theorem r_X8_delaysOfWay_5 : run E g mi_X8_delaysOfWay d lm RT F pm_X8_delaysOfWay (n + 1) 5 L st h = exI E d lm RT F (run E g mi_X8_delaysOfWay d lm RT F pm_X8_delaysOfWay n) (1, ((1 : Nat) : Int), 0, 6, []) L st h := run_s rfl
theorem r_X8_delaysOfWay_6 : run E g mi_X8_delaysOfWay d lm RT F pm_X8_delaysOfWay (n + 1) 6 L st h = exI E d lm RT F (run E g mi_X8_delaysOfWay d lm RT F pm_X8_delaysOfWay n) (32, 3, ((39 : Nat) : Int), 9, []) L st h := run_s rfl
theorem r_X8_delaysOfWay_9 : run E g mi_X8_delaysOfWay d lm RT F pm_X8_delaysOfWay (n + 1) 9 L st h = exI E d lm RT F (run E g mi_X8_delaysOfWay d lm RT F pm_X8_delaysOfWay n) (1, ((2 : Nat) : Int), 0, 10, []) L st h := run_s rfl
theorem r_X8_delaysOfWay_10 : run E g mi_X8_delaysOfWay d lm RT F pm_X8_delaysOfWay (n + 1) 10 L st h = exI E d lm RT F (run E g mi_X8_delaysOfWay d lm RT F pm_X8_delaysOfWay n) (2, ((0 : Nat) : Int), 0, 11, []) L st h := run_s rfl
theorem r_X8_delaysOfWay_11 : run E g mi_X8_delaysOfWay d lm RT F pm_X8_delaysOfWay (n + 1) 11 L st h = exI E d lm RT F (run E g mi_X8_delaysOfWay d lm RT F pm_X8_delaysOfWay n) (35, ((8 : Nat) : Int), ((0 : Nat) : Int), 14, []) L st h := run_s rfl
theorem r_X8_delaysOfWay_14 : run E g mi_X8_delaysOfWay d lm RT F pm_X8_delaysOfWay (n + 1) 14 L st h = exI E d lm RT F (run E g mi_X8_delaysOfWay d lm RT F pm_X8_delaysOfWay n) (2, ((0 : Nat) : Int), 0, 15, []) L st h := run_s rfl
theorem r_X8_delaysOfWay_15 : run E g mi_X8_delaysOfWay d lm RT F pm_X8_delaysOfWay (n + 1) 15 L st h = exI E d lm RT F (run E g mi_X8_delaysOfWay d lm RT F pm_X8_delaysOfWay n) (35, ((8 : Nat) : Int), ((7 : Nat) : Int), 18, []) L st h := run_s rfl
theorem r_X8_delaysOfWay_18 : run E g mi_X8_delaysOfWay d lm RT F pm_X8_delaysOfWay (n + 1) 18 L st h = exI E d lm RT F (run E g mi_X8_delaysOfWay d lm RT F pm_X8_delaysOfWay n) (1, ((3 : Nat) : Int), 0, 19, []) L st h := run_s rfl
theorem r_X8_delaysOfWay_19 : run E g mi_X8_delaysOfWay d lm RT F pm_X8_delaysOfWay (n + 1) 19 L st h = exI E d lm RT F (run E g mi_X8_delaysOfWay d lm RT F pm_X8_delaysOfWay n) (0, 1, 0, 20, []) L st h := run_s rfl
theorem r_X8_delaysOfWay_20 : run E g mi_X8_delaysOfWay d lm RT F pm_X8_delaysOfWay (n + 1) 20 L st h = exI E d lm RT F (run E g mi_X8_delaysOfWay d lm RT F pm_X8_delaysOfWay n) (9, 0, 0, 21, []) L st h := run_s rfl
theorem r_X8_delaysOfWay_21 : run E g mi_X8_delaysOfWay d lm RT F pm_X8_delaysOfWay (n + 1) 21 L st h = exI E d lm RT F (run E g mi_X8_delaysOfWay d lm RT F pm_X8_delaysOfWay n) (38, 0, 0, 22, []) L st h := run_s rfl
theorem r_X8_delaysOfWay_22 : run E g mi_X8_delaysOfWay d lm RT F pm_X8_delaysOfWay (n + 1) 22 L st h = exI E d lm RT F (run E g mi_X8_delaysOfWay d lm RT F pm_X8_delaysOfWay n) (2, ((0 : Nat) : Int), 0, 23, []) L st h := run_s rfl
theorem r_X8_delaysOfWay_23 : run E g mi_X8_delaysOfWay d lm RT F pm_X8_delaysOfWay (n + 1) 23 L st h = exI E d lm RT F (run E g mi_X8_delaysOfWay d lm RT F pm_X8_delaysOfWay n) (35, ((8 : Nat) : Int), ((7 : Nat) : Int), 26, []) L st h := run_s rfl
theorem r_X8_delaysOfWay_26 : run E g mi_X8_delaysOfWay d lm RT F pm_X8_delaysOfWay (n + 1) 26 L st h = exI E d lm RT F (run E g mi_X8_delaysOfWay d lm RT F pm_X8_delaysOfWay n) (1, ((3 : Nat) : Int), 0, 27, []) L st h := run_s rfl
theorem r_X8_delaysOfWay_27 : run E g mi_X8_delaysOfWay d lm RT F pm_X8_delaysOfWay (n + 1) 27 L st h = exI E d lm RT F (run E g mi_X8_delaysOfWay d lm RT F pm_X8_delaysOfWay n) (38, 0, 0, 28, []) L st h := run_s rfl
theorem r_X8_delaysOfWay_28 : run E g mi_X8_delaysOfWay d lm RT F pm_X8_delaysOfWay (n + 1) 28 L st h = exI E d lm RT F (run E g mi_X8_delaysOfWay d lm RT F pm_X8_delaysOfWay n) (51, ((10 : Nat) : Int), ((3 : Nat) : Int), 31, [3]) L st h := run_s rfl
theorem r_X8_delaysOfWay_31 : run E g mi_X8_delaysOfWay d lm RT F pm_X8_delaysOfWay (n + 1) 31 L st h = exI E d lm RT F (run E g mi_X8_delaysOfWay d lm RT F pm_X8_delaysOfWay n) (8, 0, 0, 32, []) L st h := run_s rfl
theorem r_X8_delaysOfWay_32 : run E g mi_X8_delaysOfWay d lm RT F pm_X8_delaysOfWay (n + 1) 32 L st h = exI E d lm RT F (run E g mi_X8_delaysOfWay d lm RT F pm_X8_delaysOfWay n) (4, ((2 : Nat) : Int), 0, 33, []) L st h := run_s rfl
theorem r_X8_delaysOfWay_33 : run E g mi_X8_delaysOfWay d lm RT F pm_X8_delaysOfWay (n + 1) 33 L st h = exI E d lm RT F (run E g mi_X8_delaysOfWay d lm RT F pm_X8_delaysOfWay n) (7, ((3 : Nat) : Int), 1, 36, []) L st h := run_s rfl
theorem r_X8_delaysOfWay_36 : run E g mi_X8_delaysOfWay d lm RT F pm_X8_delaysOfWay (n + 1) 36 L st h = exI E d lm RT F (run E g mi_X8_delaysOfWay d lm RT F pm_X8_delaysOfWay n) (33, ((4 : Nat) : Int), 0, 0, []) L st h := run_s rfl
theorem r_X8_delaysOfWay_39 : run E g mi_X8_delaysOfWay d lm RT F pm_X8_delaysOfWay (n + 1) 39 L st h = exI E d lm RT F (run E g mi_X8_delaysOfWay d lm RT F pm_X8_delaysOfWay n) (1, ((2 : Nat) : Int), 0, 40, []) L st h := run_s rfl
theorem r_X8_delaysOfWay_40 : run E g mi_X8_delaysOfWay d lm RT F pm_X8_delaysOfWay (n + 1) 40 L st h = exI E d lm RT F (run E g mi_X8_delaysOfWay d lm RT F pm_X8_delaysOfWay n) (48, 0, 0, 0, []) L st h := run_s rfl
theorem e_X8_delaysOfWay (n : Nat) {pc : Nat} (hF : FOk E d F) (hx : run E g mi_X8_delaysOfWay d lm RT F pm_X8_delaysOfWay n pc L st h) : G E g mi_X8_delaysOfWay d lm RT pc L st h := run_sound hF pk_X8_delaysOfWay n pc L st h hx
end
def mi_X8_setOfWay : MI := (8, cX8_setOfWay, 4, 0, false)
theorem mo_X8_setOfWay : miOk mi_X8_setOfWay (mt 87) = true := by decide +kernel
def tl_X8_setOfWay : List (Nat × PT) := [(0, (0, 0, 0, 1, [])),
  (1, (4, ((2 : Nat) : Int), 0, 2, [])),
  (2, (0, 0, 0, 3, [])),
  (3, (4, ((3 : Nat) : Int), 0, 4, [])),
  (4, (1, ((3 : Nat) : Int), 0, 5, [])),
  (5, (1, ((1 : Nat) : Int), 0, 6, [])),
  (6, (32, 3, ((26 : Nat) : Int), 9, [])),
  (9, (1, ((2 : Nat) : Int), 0, 10, [])),
  (10, (0, 1, 0, 11, [])),
  (11, (2, ((0 : Nat) : Int), 0, 12, [])),
  (12, (35, ((8 : Nat) : Int), ((7 : Nat) : Int), 15, [])),
  (15, (1, ((3 : Nat) : Int), 0, 16, [])),
  (16, (38, 0, 0, 17, [])),
  (17, (16, 0, 0, 18, [])),
  (18, (14, 0, 0, 19, [])),
  (19, (4, ((2 : Nat) : Int), 0, 20, [])),
  (20, (7, ((3 : Nat) : Int), 1, 23, [])),
  (23, (33, ((4 : Nat) : Int), 0, 0, [])),
  (26, (1, ((2 : Nat) : Int), 0, 27, [])),
  (27, (48, 0, 0, 0, []))]
theorem tk_X8_setOfWay : tOk mi_X8_setOfWay tl_X8_setOfWay = true := by decide +kernel
def pm_X8_setOfWay (pc : Nat) : Option PT := if [4].contains pc then none else tl_X8_setOfWay.lookup pc
theorem pk_X8_setOfWay : ∀ pc pt, pm_X8_setOfWay pc = some pt → okPt mi_X8_setOfWay pc pt := fun pc pt h => tOk_pm tk_X8_setOfWay h
section
variable {E : ET} {g : GT} {d : Nat} {lm : Nat × Nat} {RT : RTy} {F : FT} {n : Nat} {L : LV} {st : List AV} {h : AH}
theorem r_X8_setOfWay_0 : run E g mi_X8_setOfWay d lm RT F pm_X8_setOfWay (n + 1) 0 L st h = exI E d lm RT F (run E g mi_X8_setOfWay d lm RT F pm_X8_setOfWay n) (0, 0, 0, 1, []) L st h := run_s rfl
theorem r_X8_setOfWay_1 : run E g mi_X8_setOfWay d lm RT F pm_X8_setOfWay (n + 1) 1 L st h = exI E d lm RT F (run E g mi_X8_setOfWay d lm RT F pm_X8_setOfWay n) (4, ((2 : Nat) : Int), 0, 2, []) L st h := run_s rfl
theorem r_X8_setOfWay_2 : run E g mi_X8_setOfWay d lm RT F pm_X8_setOfWay (n + 1) 2 L st h = exI E d lm RT F (run E g mi_X8_setOfWay d lm RT F pm_X8_setOfWay n) (0, 0, 0, 3, []) L st h := run_s rfl
theorem r_X8_setOfWay_3 : run E g mi_X8_setOfWay d lm RT F pm_X8_setOfWay (n + 1) 3 L st h = exI E d lm RT F (run E g mi_X8_setOfWay d lm RT F pm_X8_setOfWay n) (4, ((3 : Nat) : Int), 0, 4, []) L st h := run_s rfl
theorem r_X8_setOfWay_4 : run E g mi_X8_setOfWay d lm RT F pm_X8_setOfWay (n + 1) 4 L st h = G E g mi_X8_setOfWay d lm RT 4 L st h := run_c rfl
theorem q_X8_setOfWay_4 (n : Nat) (hF : FOk E d F) (hx : exI E d lm RT F (run E g mi_X8_setOfWay d lm RT F pm_X8_setOfWay n) (1, ((3 : Nat) : Int), 0, 5, []) L st h) : G E g mi_X8_setOfWay d lm RT 4 L st h := sstep hF (tOk_spec tk_X8_setOfWay (by decide +kernel)) (run_sound hF pk_X8_setOfWay n) hx
theorem r_X8_setOfWay_5 : run E g mi_X8_setOfWay d lm RT F pm_X8_setOfWay (n + 1) 5 L st h = exI E d lm RT F (run E g mi_X8_setOfWay d lm RT F pm_X8_setOfWay n) (1, ((1 : Nat) : Int), 0, 6, []) L st h := run_s rfl
theorem r_X8_setOfWay_6 : run E g mi_X8_setOfWay d lm RT F pm_X8_setOfWay (n + 1) 6 L st h = exI E d lm RT F (run E g mi_X8_setOfWay d lm RT F pm_X8_setOfWay n) (32, 3, ((26 : Nat) : Int), 9, []) L st h := run_s rfl
theorem r_X8_setOfWay_9 : run E g mi_X8_setOfWay d lm RT F pm_X8_setOfWay (n + 1) 9 L st h = exI E d lm RT F (run E g mi_X8_setOfWay d lm RT F pm_X8_setOfWay n) (1, ((2 : Nat) : Int), 0, 10, []) L st h := run_s rfl
theorem r_X8_setOfWay_10 : run E g mi_X8_setOfWay d lm RT F pm_X8_setOfWay (n + 1) 10 L st h = exI E d lm RT F (run E g mi_X8_setOfWay d lm RT F pm_X8_setOfWay n) (0, 1, 0, 11, []) L st h := run_s rfl
theorem r_X8_setOfWay_11 : run E g mi_X8_setOfWay d lm RT F pm_X8_setOfWay (n + 1) 11 L st h = exI E d lm RT F (run E g mi_X8_setOfWay d lm RT F pm_X8_setOfWay n) (2, ((0 : Nat) : Int), 0, 12, []) L st h := run_s rfl
theorem r_X8_setOfWay_12 : run E g mi_X8_setOfWay d lm RT F pm_X8_setOfWay (n + 1) 12 L st h = exI E d lm RT F (run E g mi_X8_setOfWay d lm RT F pm_X8_setOfWay n) (35, ((8 : Nat) : Int), ((7 : Nat) : Int), 15, []) L st h := run_s rfl
theorem r_X8_setOfWay_15 : run E g mi_X8_setOfWay d lm RT F pm_X8_setOfWay (n + 1) 15 L st h = exI E d lm RT F (run E g mi_X8_setOfWay d lm RT F pm_X8_setOfWay n) (1, ((3 : Nat) : Int), 0, 16, []) L st h := run_s rfl
theorem r_X8_setOfWay_16 : run E g mi_X8_setOfWay d lm RT F pm_X8_setOfWay (n + 1) 16 L st h = exI E d lm RT F (run E g mi_X8_setOfWay d lm RT F pm_X8_setOfWay n) (38, 0, 0, 17, []) L st h := run_s rfl
theorem r_X8_setOfWay_17 : run E g mi_X8_setOfWay d lm RT F pm_X8_setOfWay (n + 1) 17 L st h = exI E d lm RT F (run E g mi_X8_setOfWay d lm RT F pm_X8_setOfWay n) (16, 0, 0, 18, []) L st h := run_s rfl
theorem r_X8_setOfWay_18 : run E g mi_X8_setOfWay d lm RT F pm_X8_setOfWay (n + 1) 18 L st h = exI E d lm RT F (run E g mi_X8_setOfWay d lm RT F pm_X8_setOfWay n) (14, 0, 0, 19, []) L st h := run_s rfl
theorem r_X8_setOfWay_19 : run E g mi_X8_setOfWay d lm RT F pm_X8_setOfWay (n + 1) 19 L st h = exI E d lm RT F (run E g mi_X8_setOfWay d lm RT F pm_X8_setOfWay n) (4, ((2 : Nat) : Int), 0, 20, []) L st h := run_s rfl
theorem r_X8_setOfWay_20 : run E g mi_X8_setOfWay d lm RT F pm_X8_setOfWay (n + 1) 20 L st h = exI E d lm RT F (run E g mi_X8_setOfWay d lm RT F pm_X8_setOfWay n) (7, ((3 : Nat) : Int), 1, 23, []) L st h := run_s rfl
theorem r_X8_setOfWay_23 : run E g mi_X8_setOfWay d lm RT F pm_X8_setOfWay (n + 1) 23 L st h = exI E d lm RT F (run E g mi_X8_setOfWay d lm RT F pm_X8_setOfWay n) (33, ((4 : Nat) : Int), 0, 0, []) L st h := run_s rfl
theorem r_X8_setOfWay_26 : run E g mi_X8_setOfWay d lm RT F pm_X8_setOfWay (n + 1) 26 L st h = exI E d lm RT F (run E g mi_X8_setOfWay d lm RT F pm_X8_setOfWay n) (1, ((2 : Nat) : Int), 0, 27, []) L st h := run_s rfl
theorem r_X8_setOfWay_27 : run E g mi_X8_setOfWay d lm RT F pm_X8_setOfWay (n + 1) 27 L st h = exI E d lm RT F (run E g mi_X8_setOfWay d lm RT F pm_X8_setOfWay n) (48, 0, 0, 0, []) L st h := run_s rfl
theorem e_X8_setOfWay (n : Nat) {pc : Nat} (hF : FOk E d F) (hx : run E g mi_X8_setOfWay d lm RT F pm_X8_setOfWay n pc L st h) : G E g mi_X8_setOfWay d lm RT pc L st h := run_sound hF pk_X8_setOfWay n pc L st h hx
end
def mi_X8_nodeOfWay : MI := (8, cX8_nodeOfWay, 3, 0, false)
theorem mo_X8_nodeOfWay : miOk mi_X8_nodeOfWay (mt 88) = true := by decide +kernel
def tl_X8_nodeOfWay : List (Nat × PT) := [(0, (1, ((1 : Nat) : Int), 0, 1, [])),
  (1, (31, 2, ((18 : Nat) : Int), 4, [])),
  (4, (1, ((1 : Nat) : Int), 0, 5, [])),
  (5, (1, ((2 : Nat) : Int), 0, 6, [])),
  (6, (32, 3, ((18 : Nat) : Int), 9, [])),
  (9, (2, ((0 : Nat) : Int), 0, 10, [])),
  (10, (35, ((8 : Nat) : Int), ((7 : Nat) : Int), 13, [])),
  (13, (1, ((1 : Nat) : Int), 0, 14, [])),
  (14, (38, 0, 0, 15, [])),
  (15, (33, ((20 : Nat) : Int), 0, 0, [])),
  (18, (0, (-9), 0, 20, [])),
  (20, (48, 0, 0, 0, []))]
theorem tk_X8_nodeOfWay : tOk mi_X8_nodeOfWay tl_X8_nodeOfWay = true := by decide +kernel
def pm_X8_nodeOfWay (pc : Nat) : Option PT := if [].contains pc then none else tl_X8_nodeOfWay.lookup pc
theorem pk_X8_nodeOfWay : ∀ pc pt, pm_X8_nodeOfWay pc = some pt → okPt mi_X8_nodeOfWay pc pt := fun pc pt h => tOk_pm tk_X8_nodeOfWay h
section
variable {E : ET} {g : GT} {d : Nat} {lm : Nat × Nat} {RT : RTy} {F : FT} {n : Nat} {L : LV} {st : List AV} {h : AH}
theorem r_X8_nodeOfWay_0 : run E g mi_X8_nodeOfWay d lm RT F pm_X8_nodeOfWay (n + 1) 0 L st h = exI E d lm RT F (run E g mi_X8_nodeOfWay d lm RT F pm_X8_nodeOfWay n) (1, ((1 : Nat) : Int), 0, 1, []) L st h := run_s rfl
theorem r_X8_nodeOfWay_1 : run E g mi_X8_nodeOfWay d lm RT F pm_X8_nodeOfWay (n + 1) 1 L st h = exI E d lm RT F (run E g mi_X8_nodeOfWay d lm RT F pm_X8_nodeOfWay n) (31, 2, ((18 : Nat) : Int), 4, []) L st h := run_s rfl
theorem r_X8_nodeOfWay_4 : run E g mi_X8_nodeOfWay d lm RT F pm_X8_nodeOfWay (n + 1) 4 L st h = exI E d lm RT F (run E g mi_X8_nodeOfWay d lm RT F pm_X8_nodeOfWay n) (1, ((1 : Nat) : Int), 0, 5, []) L st h := run_s rfl
theorem r_X8_nodeOfWay_5 : run E g mi_X8_nodeOfWay d lm RT F pm_X8_nodeOfWay (n + 1) 5 L st h = exI E d lm RT F (run E g mi_X8_nodeOfWay d lm RT F pm_X8_nodeOfWay n) (1, ((2 : Nat) : Int), 0, 6, []) L st h := run_s rfl
theorem r_X8_nodeOfWay_6 : run E g mi_X8_nodeOfWay d lm RT F pm_X8_nodeOfWay (n + 1) 6 L st h = exI E d lm RT F (run E g mi_X8_nodeOfWay d lm RT F pm_X8_nodeOfWay n) (32, 3, ((18 : Nat) : Int), 9, []) L st h := run_s rfl
theorem r_X8_nodeOfWay_9 : run E g mi_X8_nodeOfWay d lm RT F pm_X8_nodeOfWay (n + 1) 9 L st h = exI E d lm RT F (run E g mi_X8_nodeOfWay d lm RT F pm_X8_nodeOfWay n) (2, ((0 : Nat) : Int), 0, 10, []) L st h := run_s rfl
theorem r_X8_nodeOfWay_10 : run E g mi_X8_nodeOfWay d lm RT F pm_X8_nodeOfWay (n + 1) 10 L st h = exI E d lm RT F (run E g mi_X8_nodeOfWay d lm RT F pm_X8_nodeOfWay n) (35, ((8 : Nat) : Int), ((7 : Nat) : Int), 13, []) L st h := run_s rfl
theorem r_X8_nodeOfWay_13 : run E g mi_X8_nodeOfWay d lm RT F pm_X8_nodeOfWay (n + 1) 13 L st h = exI E d lm RT F (run E g mi_X8_nodeOfWay d lm RT F pm_X8_nodeOfWay n) (1, ((1 : Nat) : Int), 0, 14, []) L st h := run_s rfl
theorem r_X8_nodeOfWay_14 : run E g mi_X8_nodeOfWay d lm RT F pm_X8_nodeOfWay (n + 1) 14 L st h = exI E d lm RT F (run E g mi_X8_nodeOfWay d lm RT F pm_X8_nodeOfWay n) (38, 0, 0, 15, []) L st h := run_s rfl
theorem r_X8_nodeOfWay_15 : run E g mi_X8_nodeOfWay d lm RT F pm_X8_nodeOfWay (n + 1) 15 L st h = exI E d lm RT F (run E g mi_X8_nodeOfWay d lm RT F pm_X8_nodeOfWay n) (33, ((20 : Nat) : Int), 0, 0, []) L st h := run_s rfl
theorem r_X8_nodeOfWay_18 : run E g mi_X8_nodeOfWay d lm RT F pm_X8_nodeOfWay (n + 1) 18 L st h = exI E d lm RT F (run E g mi_X8_nodeOfWay d lm RT F pm_X8_nodeOfWay n) (0, (-9), 0, 20, []) L st h := run_s rfl
theorem r_X8_nodeOfWay_20 : run E g mi_X8_nodeOfWay d lm RT F pm_X8_nodeOfWay (n + 1) 20 L st h = exI E d lm RT F (run E g mi_X8_nodeOfWay d lm RT F pm_X8_nodeOfWay n) (48, 0, 0, 0, []) L st h := run_s rfl
theorem e_X8_nodeOfWay (n : Nat) {pc : Nat} (hF : FOk E d F) (hx : run E g mi_X8_nodeOfWay d lm RT F pm_X8_nodeOfWay n pc L st h) : G E g mi_X8_nodeOfWay d lm RT pc L st h := run_sound hF pk_X8_nodeOfWay n pc L st h hx
end
