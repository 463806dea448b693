def mi_X9_ticks : MI := (9, cX9_ticks, 5, 0, false)
theorem mo_X9_ticks : miOk mi_X9_ticks (mt 133) = true := by decide +kernel
def tl_X9_ticks : List (Nat × PT) := [(0, (1, ((1 : Nat) : Int), 0, 1, [])),
  (1, (0, 0, 0, 2, [])),
  (2, (0, 200, 0, 5, [])),
  (5, (45, ((90 : Nat) : Int), ((3 : Nat) : Int), 8, [])),
  (8, (31, 1, ((14 : Nat) : Int), 11, [])),
  (11, (0, (-2), 0, 13, [])),
  (13, (48, 0, 0, 0, [])),
  (14, (0, 0, 0, 15, [])),
  (15, (4, ((2 : Nat) : Int), 0, 16, [])),
  (16, (0, 0, 0, 17, [])),
  (17, (4, ((3 : Nat) : Int), 0, 18, [])),
  (18, (1, ((3 : Nat) : Int), 0, 19, [])),
  (19, (1, ((1 : Nat) : Int), 0, 20, [])),
  (20, (32, 3, ((115 : Nat) : Int), 23, [])),
  (23, (2, ((0 : Nat) : Int), 0, 24, [])),
  (24, (28, 0, 0, 25, [])),
  (25, (35, ((9 : Nat) : Int), ((12 : Nat) : Int), 28, [])),
  (28, (0, 1, 0, 29, [])),
  (29, (8, 0, 0, 30, [])),
  (30, (36, ((9 : Nat) : Int), ((12 : Nat) : Int), 33, [0])),
  (33, (0, 0, 0, 34, [])),
  (34, (4, ((4 : Nat) : Int), 0, 36, [])),
  (36, (1, ((4 : Nat) : Int), 0, 38, [])),
  (38, (0, 12, 0, 40, [])),
  (40, (32, 3, ((109 : Nat) : Int), 43, [])),
  (43, (2, ((0 : Nat) : Int), 0, 44, [])),
  (44, (35, ((9 : Nat) : Int), ((17 : Nat) : Int), 47, [])),
  (47, (1, ((4 : Nat) : Int), 0, 49, [])),
  (49, (38, 1, 0, 50, [])),
  (50, (31, 0, ((103 : Nat) : Int), 53, [])),
  (53, (2, ((0 : Nat) : Int), 0, 54, [])),
  (54, (35, ((9 : Nat) : Int), ((24 : Nat) : Int), 57, [])),
  (57, (1, ((4 : Nat) : Int), 0, 59, [])),
  (59, (38, 0, 0, 60, [])),
  (60, (2, ((0 : Nat) : Int), 0, 61, [])),
  (61, (35, ((9 : Nat) : Int), ((12 : Nat) : Int), 64, [])),
  (64, (32, 1, ((103 : Nat) : Int), 67, [])),
  (67, (2, ((0 : Nat) : Int), 0, 68, [])),
  (68, (35, ((9 : Nat) : Int), ((21 : Nat) : Int), 71, [])),
  (71, (1, ((4 : Nat) : Int), 0, 73, [])),
  (73, (38, 1, 0, 74, [])),
  (74, (31, 0, ((97 : Nat) : Int), 77, [])),
  (77, (1, ((2 : Nat) : Int), 0, 78, [])),
  (78, (2, ((0 : Nat) : Int), 0, 79, [])),
  (79, (1, ((4 : Nat) : Int), 0, 81, [])),
  (81, (51, ((131 : Nat) : Int), ((2 : Nat) : Int), 84, [9])),
  (84, (31, 0, ((91 : Nat) : Int), 87, [])),
  (87, (0, 1, 0, 88, [])),
  (88, (33, ((92 : Nat) : Int), 0, 0, [])),
  (91, (0, 0, 0, 92, [])),
  (92, (8, 0, 0, 93, [])),
  (93, (4, ((2 : Nat) : Int), 0, 94, [])),
  (94, (33, ((103 : Nat) : Int), 0, 0, [])),
  (97, (2, ((0 : Nat) : Int), 0, 98, [])),
  (98, (1, ((4 : Nat) : Int), 0, 100, [])),
  (100, (51, ((132 : Nat) : Int), ((2 : Nat) : Int), 103, [9])),
  (103, (7, ((4 : Nat) : Int), 1, 106, [])),
  (106, (33, ((36 : Nat) : Int), 0, 0, [])),
  (109, (7, ((3 : Nat) : Int), 1, 112, [])),
  (112, (33, ((18 : Nat) : Int), 0, 0, [])),
  (115, (1, ((2 : Nat) : Int), 0, 116, [])),
  (116, (48, 0, 0, 0, []))]
theorem tk_X9_ticks_0 : tOk mi_X9_ticks ((tl_X9_ticks.drop 0).take 45) = true := by decide +kernel
theorem tk_X9_ticks_1 : tOk mi_X9_ticks ((tl_X9_ticks.drop 45).take 45) = true := by decide +kernel
theorem tk_X9_ticks : tOk mi_X9_ticks tl_X9_ticks = true := by
  refine tOk_cut 45 (by decide) (fun q hq => ?_)
  have hl : tl_X9_ticks.length = 62 := by decide +kernel
  rw [hl] at hq
  rcases (show q = 0 ∨ q = 1 by omega) with rfl | rfl
  · exact tk_X9_ticks_0
  · exact tk_X9_ticks_1
def pm_X9_ticks (pc : Nat) : Option PT := if [18, 36].contains pc then none else tl_X9_ticks.lookup pc
theorem pk_X9_ticks : ∀ pc pt, pm_X9_ticks pc = some pt → okPt mi_X9_ticks pc pt := fun pc pt h => tOk_pm tk_X9_ticks h
section
variable {E : ET} {g : GT} {d : Nat} {lm : Nat × Nat} {RT : RTy} {F : FT} {n : Nat} {L : LV} {st : List AV} {h : AH}
theorem r_X9_ticks_0 : run E g mi_X9_ticks d lm RT F pm_X9_ticks (n + 1) 0 L st h = exI E d lm RT F (run E g mi_X9_ticks d lm RT F pm_X9_ticks n) (1, ((1 : Nat) : Int), 0, 1, []) L st h := run_s rfl
theorem r_X9_ticks_1 : run E g mi_X9_ticks d lm RT F pm_X9_ticks (n + 1) 1 L st h = exI E d lm RT F (run E g mi_X9_ticks d lm RT F pm_X9_ticks n) (0, 0, 0, 2, []) L st h := run_s rfl
theorem r_X9_ticks_2 : run E g mi_X9_ticks d lm RT F pm_X9_ticks (n + 1) 2 L st h = exI E d lm RT F (run E g mi_X9_ticks d lm RT F pm_X9_ticks n) (0, 200, 0, 5, []) L st h := run_s rfl
theorem r_X9_ticks_5 : run E g mi_X9_ticks d lm RT F pm_X9_ticks (n + 1) 5 L st h = exI E d lm RT F (run E g mi_X9_ticks d lm RT F pm_X9_ticks n) (45, ((90 : Nat) : Int), ((3 : Nat) : Int), 8, []) L st h := run_s rfl
theorem r_X9_ticks_8 : run E g mi_X9_ticks d lm RT F pm_X9_ticks (n + 1) 8 L st h = exI E d lm RT F (run E g mi_X9_ticks d lm RT F pm_X9_ticks n) (31, 1, ((14 : Nat) : Int), 11, []) L st h := run_s rfl
theorem r_X9_ticks_11 : run E g mi_X9_ticks d lm RT F pm_X9_ticks (n + 1) 11 L st h = exI E d lm RT F (run E g mi_X9_ticks d lm RT F pm_X9_ticks n) (0, (-2), 0, 13, []) L st h := run_s rfl
theorem r_X9_ticks_13 : run E g mi_X9_ticks d lm RT F pm_X9_ticks (n + 1) 13 L st h = exI E d lm RT F (run E g mi_X9_ticks d lm RT F pm_X9_ticks n) (48, 0, 0, 0, []) L st h := run_s rfl
theorem r_X9_ticks_14 : run E g mi_X9_ticks d lm RT F pm_X9_ticks (n + 1) 14 L st h = exI E d lm RT F (run E g mi_X9_ticks d lm RT F pm_X9_ticks n) (0, 0, 0, 15, []) L st h := run_s rfl
theorem r_X9_ticks_15 : run E g mi_X9_ticks d lm RT F pm_X9_ticks (n + 1) 15 L st h = exI E d lm RT F (run E g mi_X9_ticks d lm RT F pm_X9_ticks n) (4, ((2 : Nat) : Int), 0, 16, []) L st h := run_s rfl
theorem r_X9_ticks_16 : run E g mi_X9_ticks d lm RT F pm_X9_ticks (n + 1) 16 L st h = exI E d lm RT F (run E g mi_X9_ticks d lm RT F pm_X9_ticks n) (0, 0, 0, 17, []) L st h := run_s rfl
theorem r_X9_ticks_17 : run E g mi_X9_ticks d lm RT F pm_X9_ticks (n + 1) 17 L st h = exI E d lm RT F (run E g mi_X9_ticks d lm RT F pm_X9_ticks n) (4, ((3 : Nat) : Int), 0, 18, []) L st h := run_s rfl
theorem r_X9_ticks_18 : run E g mi_X9_ticks d lm RT F pm_X9_ticks (n + 1) 18 L st h = G E g mi_X9_ticks d lm RT 18 L st h := run_c rfl
theorem q_X9_ticks_18 (n : Nat) (hF : FOk E d F) (hx : exI E d lm RT F (run E g mi_X9_ticks d lm RT F pm_X9_ticks n) (1, ((3 : Nat) : Int), 0, 19, []) L st h) : G E g mi_X9_ticks d lm RT 18 L st h := sstep hF (tOk_spec tk_X9_ticks (by decide +kernel)) (run_sound hF pk_X9_ticks n) hx
theorem r_X9_ticks_19 : run E g mi_X9_ticks d lm RT F pm_X9_ticks (n + 1) 19 L st h = exI E d lm RT F (run E g mi_X9_ticks d lm RT F pm_X9_ticks n) (1, ((1 : Nat) : Int), 0, 20, []) L st h := run_s rfl
theorem r_X9_ticks_20 : run E g mi_X9_ticks d lm RT F pm_X9_ticks (n + 1) 20 L st h = exI E d lm RT F (run E g mi_X9_ticks d lm RT F pm_X9_ticks n) (32, 3, ((115 : Nat) : Int), 23, []) L st h := run_s rfl
theorem r_X9_ticks_23 : run E g mi_X9_ticks d lm RT F pm_X9_ticks (n + 1) 23 L st h = exI E d lm RT F (run E g mi_X9_ticks d lm RT F pm_X9_ticks n) (2, ((0 : Nat) : Int), 0, 24, []) L st h := run_s rfl
theorem r_X9_ticks_24 : run E g mi_X9_ticks d lm RT F pm_X9_ticks (n + 1) 24 L st h = exI E d lm RT F (run E g mi_X9_ticks d lm RT F pm_X9_ticks n) (28, 0, 0, 25, []) L st h := run_s rfl
theorem r_X9_ticks_25 : run E g mi_X9_ticks d lm RT F pm_X9_ticks (n + 1) 25 L st h = exI E d lm RT F (run E g mi_X9_ticks d lm RT F pm_X9_ticks n) (35, ((9 : Nat) : Int), ((12 : Nat) : Int), 28, []) L st h := run_s rfl
theorem r_X9_ticks_28 : run E g mi_X9_ticks d lm RT F pm_X9_ticks (n + 1) 28 L st h = exI E d lm RT F (run E g mi_X9_ticks d lm RT F pm_X9_ticks n) (0, 1, 0, 29, []) L st h := run_s rfl
theorem r_X9_ticks_29 : run E g mi_X9_ticks d lm RT F pm_X9_ticks (n + 1) 29 L st h = exI E d lm RT F (run E g mi_X9_ticks d lm RT F pm_X9_ticks n) (8, 0, 0, 30, []) L st h := run_s rfl
theorem r_X9_ticks_30 : run E g mi_X9_ticks d lm RT F pm_X9_ticks (n + 1) 30 L st h = exI E d lm RT F (run E g mi_X9_ticks d lm RT F pm_X9_ticks n) (36, ((9 : Nat) : Int), ((12 : Nat) : Int), 33, [0]) L st h := run_s rfl
theorem r_X9_ticks_33 : run E g mi_X9_ticks d lm RT F pm_X9_ticks (n + 1) 33 L st h = exI E d lm RT F (run E g mi_X9_ticks d lm RT F pm_X9_ticks n) (0, 0, 0, 34, []) L st h := run_s rfl
theorem r_X9_ticks_34 : run E g mi_X9_ticks d lm RT F pm_X9_ticks (n + 1) 34 L st h = exI E d lm RT F (run E g mi_X9_ticks d lm RT F pm_X9_ticks n) (4, ((4 : Nat) : Int), 0, 36, []) L st h := run_s rfl
theorem r_X9_ticks_36 : run E g mi_X9_ticks d lm RT F pm_X9_ticks (n + 1) 36 L st h = G E g mi_X9_ticks d lm RT 36 L st h := run_c rfl
theorem q_X9_ticks_36 (n : Nat) (hF : FOk E d F) (hx : exI E d lm RT F (run E g mi_X9_ticks d lm RT F pm_X9_ticks n) (1, ((4 : Nat) : Int), 0, 38, []) L st h) : G E g mi_X9_ticks d lm RT 36 L st h := sstep hF (tOk_spec tk_X9_ticks (by decide +kernel)) (run_sound hF pk_X9_ticks n) hx
theorem r_X9_ticks_38 : run E g mi_X9_ticks d lm RT F pm_X9_ticks (n + 1) 38 L st h = exI E d lm RT F (run E g mi_X9_ticks d lm RT F pm_X9_ticks n) (0, 12, 0, 40, []) L st h := run_s rfl
theorem r_X9_ticks_40 : run E g mi_X9_ticks d lm RT F pm_X9_ticks (n + 1) 40 L st h = exI E d lm RT F (run E g mi_X9_ticks d lm RT F pm_X9_ticks n) (32, 3, ((109 : Nat) : Int), 43, []) L st h := run_s rfl
theorem r_X9_ticks_43 : run E g mi_X9_ticks d lm RT F pm_X9_ticks (n + 1) 43 L st h = exI E d lm RT F (run E g mi_X9_ticks d lm RT F pm_X9_ticks n) (2, ((0 : Nat) : Int), 0, 44, []) L st h := run_s rfl
theorem r_X9_ticks_44 : run E g mi_X9_ticks d lm RT F pm_X9_ticks (n + 1) 44 L st h = exI E d lm RT F (run E g mi_X9_ticks d lm RT F pm_X9_ticks n) (35, ((9 : Nat) : Int), ((17 : Nat) : Int), 47, []) L st h := run_s rfl
theorem r_X9_ticks_47 : run E g mi_X9_ticks d lm RT F pm_X9_ticks (n + 1) 47 L st h = exI E d lm RT F (run E g mi_X9_ticks d lm RT F pm_X9_ticks n) (1, ((4 : Nat) : Int), 0, 49, []) L st h := run_s rfl
theorem r_X9_ticks_49 : run E g mi_X9_ticks d lm RT F pm_X9_ticks (n + 1) 49 L st h = exI E d lm RT F (run E g mi_X9_ticks d lm RT F pm_X9_ticks n) (38, 1, 0, 50, []) L st h := run_s rfl
theorem r_X9_ticks_50 : run E g mi_X9_ticks d lm RT F pm_X9_ticks (n + 1) 50 L st h = exI E d lm RT F (run E g mi_X9_ticks d lm RT F pm_X9_ticks n) (31, 0, ((103 : Nat) : Int), 53, []) L st h := run_s rfl
theorem r_X9_ticks_53 : run E g mi_X9_ticks d lm RT F pm_X9_ticks (n + 1) 53 L st h = exI E d lm RT F (run E g mi_X9_ticks d lm RT F pm_X9_ticks n) (2, ((0 : Nat) : Int), 0, 54, []) L st h := run_s rfl
theorem r_X9_ticks_54 : run E g mi_X9_ticks d lm RT F pm_X9_ticks (n + 1) 54 L st h = exI E d lm RT F (run E g mi_X9_ticks d lm RT F pm_X9_ticks n) (35, ((9 : Nat) : Int), ((24 : Nat) : Int), 57, []) L st h := run_s rfl
theorem r_X9_ticks_57 : run E g mi_X9_ticks d lm RT F pm_X9_ticks (n + 1) 57 L st h = exI E d lm RT F (run E g mi_X9_ticks d lm RT F pm_X9_ticks n) (1, ((4 : Nat) : Int), 0, 59, []) L st h := run_s rfl
theorem r_X9_ticks_59 : run E g mi_X9_ticks d lm RT F pm_X9_ticks (n + 1) 59 L st h = exI E d lm RT F (run E g mi_X9_ticks d lm RT F pm_X9_ticks n) (38, 0, 0, 60, []) L st h := run_s rfl
theorem r_X9_ticks_60 : run E g mi_X9_ticks d lm RT F pm_X9_ticks (n + 1) 60 L st h = exI E d lm RT F (run E g mi_X9_ticks d lm RT F pm_X9_ticks n) (2, ((0 : Nat) : Int), 0, 61, []) L st h := run_s rfl
theorem r_X9_ticks_61 : run E g mi_X9_ticks d lm RT F pm_X9_ticks (n + 1) 61 L st h = exI E d lm RT F (run E g mi_X9_ticks d lm RT F pm_X9_ticks n) (35, ((9 : Nat) : Int), ((12 : Nat) : Int), 64, []) L st h := run_s rfl
theorem r_X9_ticks_64 : run E g mi_X9_ticks d lm RT F pm_X9_ticks (n + 1) 64 L st h = exI E d lm RT F (run E g mi_X9_ticks d lm RT F pm_X9_ticks n) (32, 1, ((103 : Nat) : Int), 67, []) L st h := run_s rfl
theorem r_X9_ticks_67 : run E g mi_X9_ticks d lm RT F pm_X9_ticks (n + 1) 67 L st h = exI E d lm RT F (run E g mi_X9_ticks d lm RT F pm_X9_ticks n) (2, ((0 : Nat) : Int), 0, 68, []) L st h := run_s rfl
theorem r_X9_ticks_68 : run E g mi_X9_ticks d lm RT F pm_X9_ticks (n + 1) 68 L st h = exI E d lm RT F (run E g mi_X9_ticks d lm RT F pm_X9_ticks n) (35, ((9 : Nat) : Int), ((21 : Nat) : Int), 71, []) L st h := run_s rfl
theorem r_X9_ticks_71 : run E g mi_X9_ticks d lm RT F pm_X9_ticks (n + 1) 71 L st h = exI E d lm RT F (run E g mi_X9_ticks d lm RT F pm_X9_ticks n) (1, ((4 : Nat) : Int), 0, 73, []) L st h := run_s rfl
theorem r_X9_ticks_73 : run E g mi_X9_ticks d lm RT F pm_X9_ticks (n + 1) 73 L st h = exI E d lm RT F (run E g mi_X9_ticks d lm RT F pm_X9_ticks n) (38, 1, 0, 74, []) L st h := run_s rfl
theorem r_X9_ticks_74 : run E g mi_X9_ticks d lm RT F pm_X9_ticks (n + 1) 74 L st h = exI E d lm RT F (run E g mi_X9_ticks d lm RT F pm_X9_ticks n) (31, 0, ((97 : Nat) : Int), 77, []) L st h := run_s rfl
theorem r_X9_ticks_77 : run E g mi_X9_ticks d lm RT F pm_X9_ticks (n + 1) 77 L st h = exI E d lm RT F (run E g mi_X9_ticks d lm RT F pm_X9_ticks n) (1, ((2 : Nat) : Int), 0, 78, []) L st h := run_s rfl
theorem r_X9_ticks_78 : run E g mi_X9_ticks d lm RT F pm_X9_ticks (n + 1) 78 L st h = exI E d lm RT F (run E g mi_X9_ticks d lm RT F pm_X9_ticks n) (2, ((0 : Nat) : Int), 0, 79, []) L st h := run_s rfl
theorem r_X9_ticks_79 : run E g mi_X9_ticks d lm RT F pm_X9_ticks (n + 1) 79 L st h = exI E d lm RT F (run E g mi_X9_ticks d lm RT F pm_X9_ticks n) (1, ((4 : Nat) : Int), 0, 81, []) L st h := run_s rfl
theorem r_X9_ticks_81 : run E g mi_X9_ticks d lm RT F pm_X9_ticks (n + 1) 81 L st h = exI E d lm RT F (run E g mi_X9_ticks d lm RT F pm_X9_ticks n) (51, ((131 : Nat) : Int), ((2 : Nat) : Int), 84, [9]) L st h := run_s rfl
theorem r_X9_ticks_84 : run E g mi_X9_ticks d lm RT F pm_X9_ticks (n + 1) 84 L st h = exI E d lm RT F (run E g mi_X9_ticks d lm RT F pm_X9_ticks n) (31, 0, ((91 : Nat) : Int), 87, []) L st h := run_s rfl
theorem r_X9_ticks_87 : run E g mi_X9_ticks d lm RT F pm_X9_ticks (n + 1) 87 L st h = exI E d lm RT F (run E g mi_X9_ticks d lm RT F pm_X9_ticks n) (0, 1, 0, 88, []) L st h := run_s rfl
theorem r_X9_ticks_88 : run E g mi_X9_ticks d lm RT F pm_X9_ticks (n + 1) 88 L st h = exI E d lm RT F (run E g mi_X9_ticks d lm RT F pm_X9_ticks n) (33, ((92 : Nat) : Int), 0, 0, []) L st h := run_s rfl
theorem r_X9_ticks_91 : run E g mi_X9_ticks d lm RT F pm_X9_ticks (n + 1) 91 L st h = exI E d lm RT F (run E g mi_X9_ticks d lm RT F pm_X9_ticks n) (0, 0, 0, 92, []) L st h := run_s rfl
theorem r_X9_ticks_92 : run E g mi_X9_ticks d lm RT F pm_X9_ticks (n + 1) 92 L st h = exI E d lm RT F (run E g mi_X9_ticks d lm RT F pm_X9_ticks n) (8, 0, 0, 93, []) L st h := run_s rfl
theorem r_X9_ticks_93 : run E g mi_X9_ticks d lm RT F pm_X9_ticks (n + 1) 93 L st h = exI E d lm RT F (run E g mi_X9_ticks d lm RT F pm_X9_ticks n) (4, ((2 : Nat) : Int), 0, 94, []) L st h := run_s rfl
theorem r_X9_ticks_94 : run E g mi_X9_ticks d lm RT F pm_X9_ticks (n + 1) 94 L st h = exI E d lm RT F (run E g mi_X9_ticks d lm RT F pm_X9_ticks n) (33, ((103 : Nat) : Int), 0, 0, []) L st h := run_s rfl
theorem r_X9_ticks_97 : run E g mi_X9_ticks d lm RT F pm_X9_ticks (n + 1) 97 L st h = exI E d lm RT F (run E g mi_X9_ticks d lm RT F pm_X9_ticks n) (2, ((0 : Nat) : Int), 0, 98, []) L st h := run_s rfl
theorem r_X9_ticks_98 : run E g mi_X9_ticks d lm RT F pm_X9_ticks (n + 1) 98 L st h = exI E d lm RT F (run E g mi_X9_ticks d lm RT F pm_X9_ticks n) (1, ((4 : Nat) : Int), 0, 100, []) L st h := run_s rfl
theorem r_X9_ticks_100 : run E g mi_X9_ticks d lm RT F pm_X9_ticks (n + 1) 100 L st h = exI E d lm RT F (run E g mi_X9_ticks d lm RT F pm_X9_ticks n) (51, ((132 : Nat) : Int), ((2 : Nat) : Int), 103, [9]) L st h := run_s rfl
theorem r_X9_ticks_103 : run E g mi_X9_ticks d lm RT F pm_X9_ticks (n + 1) 103 L st h = exI E d lm RT F (run E g mi_X9_ticks d lm RT F pm_X9_ticks n) (7, ((4 : Nat) : Int), 1, 106, []) L st h := run_s rfl
theorem r_X9_ticks_106 : run E g mi_X9_ticks d lm RT F pm_X9_ticks (n + 1) 106 L st h = exI E d lm RT F (run E g mi_X9_ticks d lm RT F pm_X9_ticks n) (33, ((36 : Nat) : Int), 0, 0, []) L st h := run_s rfl
theorem r_X9_ticks_109 : run E g mi_X9_ticks d lm RT F pm_X9_ticks (n + 1) 109 L st h = exI E d lm RT F (run E g mi_X9_ticks d lm RT F pm_X9_ticks n) (7, ((3 : Nat) : Int), 1, 112, []) L st h := run_s rfl
theorem r_X9_ticks_112 : run E g mi_X9_ticks d lm RT F pm_X9_ticks (n + 1) 112 L st h = exI E d lm RT F (run E g mi_X9_ticks d lm RT F pm_X9_ticks n) (33, ((18 : Nat) : Int), 0, 0, []) L st h := run_s rfl
theorem r_X9_ticks_115 : run E g mi_X9_ticks d lm RT F pm_X9_ticks (n + 1) 115 L st h = exI E d lm RT F (run E g mi_X9_ticks d lm RT F pm_X9_ticks n) (1, ((2 : Nat) : Int), 0, 116, []) L st h := run_s rfl
theorem r_X9_ticks_116 : run E g mi_X9_ticks d lm RT F pm_X9_ticks (n + 1) 116 L st h = exI E d lm RT F (run E g mi_X9_ticks d lm RT F pm_X9_ticks n) (48, 0, 0, 0, []) L st h := run_s rfl
theorem e_X9_ticks (n : Nat) {pc : Nat} (hF : FOk E d F) (hx : run E g mi_X9_ticks d lm RT F pm_X9_ticks n pc L st h) : G E g mi_X9_ticks d lm RT pc L st h := run_sound hF pk_X9_ticks n pc L st h hx
end
def mi_X9_walker : MI := (9, cX9_walker, 3, 0, false)
theorem mo_X9_walker : miOk mi_X9_walker (mt 135) = true := by decide +kernel
def tl_X9_walker : List (Nat × PT) := [(0, (2, ((0 : Nat) : Int), 0, 1, [])),
  (1, (1, ((1 : Nat) : Int), 0, 2, [])),
  (2, (52, ((134 : Nat) : Int), ((2 : Nat) : Int), 5, [9])),
  (5, (31, 1, ((10 : Nat) : Int), 8, [])),
  (8, (0, (-1), 0, 9, [])),
  (9, (48, 0, 0, 0, [])),
  (10, (1, ((2 : Nat) : Int), 0, 11, [])),
  (11, (34, 0, ((131 : Nat) : Int), 0, [60, 67, 74, 81, 96, 103, 110, 117, 124])),
  (60, (2, ((0 : Nat) : Int), 0, 61, [])),
  (61, (35, ((9 : Nat) : Int), ((18 : Nat) : Int), 64, [])),
  (64, (1, ((1 : Nat) : Int), 0, 65, [])),
  (65, (38, 0, 0, 66, [])),
  (66, (48, 0, 0, 0, [])),
  (67, (2, ((0 : Nat) : Int), 0, 68, [])),
  (68, (35, ((9 : Nat) : Int), ((19 : Nat) : Int), 71, [])),
  (71, (1, ((1 : Nat) : Int), 0, 72, [])),
  (72, (38, 0, 0, 73, [])),
  (73, (48, 0, 0, 0, [])),
  (74, (2, ((0 : Nat) : Int), 0, 75, [])),
  (75, (35, ((9 : Nat) : Int), ((20 : Nat) : Int), 78, [])),
  (78, (1, ((1 : Nat) : Int), 0, 79, [])),
  (79, (38, 0, 0, 80, [])),
  (80, (48, 0, 0, 0, [])),
  (81, (2, ((0 : Nat) : Int), 0, 82, [])),
  (82, (35, ((9 : Nat) : Int), ((21 : Nat) : Int), 85, [])),
  (85, (1, ((1 : Nat) : Int), 0, 86, [])),
  (86, (38, 1, 0, 87, [])),
  (87, (31, 0, ((94 : Nat) : Int), 90, [])),
  (90, (0, 1, 0, 91, [])),
  (91, (33, ((95 : Nat) : Int), 0, 0, [])),
  (94, (0, 0, 0, 95, [])),
  (95, (48, 0, 0, 0, [])),
  (96, (2, ((0 : Nat) : Int), 0, 97, [])),
  (97, (35, ((9 : Nat) : Int), ((22 : Nat) : Int), 100, [])),
  (100, (1, ((1 : Nat) : Int), 0, 101, [])),
  (101, (38, 0, 0, 102, [])),
  (102, (48, 0, 0, 0, [])),
  (103, (2, ((0 : Nat) : Int), 0, 104, [])),
  (104, (35, ((9 : Nat) : Int), ((23 : Nat) : Int), 107, [])),
  (107, (1, ((1 : Nat) : Int), 0, 108, [])),
  (108, (38, 0, 0, 109, [])),
  (109, (48, 0, 0, 0, [])),
  (110, (2, ((0 : Nat) : Int), 0, 111, [])),
  (111, (35, ((9 : Nat) : Int), ((24 : Nat) : Int), 114, [])),
  (114, (1, ((1 : Nat) : Int), 0, 115, [])),
  (115, (38, 0, 0, 116, [])),
  (116, (48, 0, 0, 0, [])),
  (117, (2, ((0 : Nat) : Int), 0, 118, [])),
  (118, (35, ((9 : Nat) : Int), ((26 : Nat) : Int), 121, [])),
  (121, (1, ((1 : Nat) : Int), 0, 122, [])),
  (122, (38, 0, 0, 123, [])),
  (123, (48, 0, 0, 0, [])),
  (124, (2, ((0 : Nat) : Int), 0, 125, [])),
  (125, (35, ((9 : Nat) : Int), ((25 : Nat) : Int), 128, [])),
  (128, (1, ((1 : Nat) : Int), 0, 129, [])),
  (129, (38, 0, 0, 130, [])),
  (130, (48, 0, 0, 0, [])),
  (131, (0, (-2), 0, 133, [])),
  (133, (48, 0, 0, 0, []))]
theorem tk_X9_walker_0 : tOk mi_X9_walker ((tl_X9_walker.drop 0).take 45) = true := by decide +kernel
theorem tk_X9_walker_1 : tOk mi_X9_walker ((tl_X9_walker.drop 45).take 45) = true := by decide +kernel
theorem tk_X9_walker : tOk mi_X9_walker tl_X9_walker = true := by
  refine tOk_cut 45 (by decide) (fun q hq => ?_)
  have hl : tl_X9_walker.length = 59 := by decide +kernel
  rw [hl] at hq
  rcases (show q = 0 ∨ q = 1 by omega) with rfl | rfl
  · exact tk_X9_walker_0
  · exact tk_X9_walker_1
def pm_X9_walker (pc : Nat) : Option PT := if [].contains pc then none else tl_X9_walker.lookup pc
theorem pk_X9_walker : ∀ pc pt, pm_X9_walker pc = some pt → okPt mi_X9_walker pc pt := fun pc pt h => tOk_pm tk_X9_walker h
section
variable {E : ET} {g : GT} {d : Nat} {lm : Nat × Nat} {RT : RTy} {F : FT} {n : Nat} {L : LV} {st : List AV} {h : AH}
theorem r_X9_walker_0 : run E g mi_X9_walker d lm RT F pm_X9_walker (n + 1) 0 L st h = exI E d lm RT F (run E g mi_X9_walker d lm RT F pm_X9_walker n) (2, ((0 : Nat) : Int), 0, 1, []) L st h := run_s rfl
theorem r_X9_walker_1 : run E g mi_X9_walker d lm RT F pm_X9_walker (n + 1) 1 L st h = exI E d lm RT F (run E g mi_X9_walker d lm RT F pm_X9_walker n) (1, ((1 : Nat) : Int), 0, 2, []) L st h := run_s rfl
theorem r_X9_walker_2 : run E g mi_X9_walker d lm RT F pm_X9_walker (n + 1) 2 L st h = exI E d lm RT F (run E g mi_X9_walker d lm RT F pm_X9_walker n) (52, ((134 : Nat) : Int), ((2 : Nat) : Int), 5, [9]) L st h := run_s rfl
theorem r_X9_walker_5 : run E g mi_X9_walker d lm RT F pm_X9_walker (n + 1) 5 L st h = exI E d lm RT F (run E g mi_X9_walker d lm RT F pm_X9_walker n) (31, 1, ((10 : Nat) : Int), 8, []) L st h := run_s rfl
theorem r_X9_walker_8 : run E g mi_X9_walker d lm RT F pm_X9_walker (n + 1) 8 L st h = exI E d lm RT F (run E g mi_X9_walker d lm RT F pm_X9_walker n) (0, (-1), 0, 9, []) L st h := run_s rfl
theorem r_X9_walker_9 : run E g mi_X9_walker d lm RT F pm_X9_walker (n + 1) 9 L st h = exI E d lm RT F (run E g mi_X9_walker d lm RT F pm_X9_walker n) (48, 0, 0, 0, []) L st h := run_s rfl
theorem r_X9_walker_10 : run E g mi_X9_walker d lm RT F pm_X9_walker (n + 1) 10 L st h = exI E d lm RT F (run E g mi_X9_walker d lm RT F pm_X9_walker n) (1, ((2 : Nat) : Int), 0, 11, []) L st h := run_s rfl
theorem r_X9_walker_11 : run E g mi_X9_walker d lm RT F pm_X9_walker (n + 1) 11 L st h = exI E d lm RT F (run E g mi_X9_walker d lm RT F pm_X9_walker n) (34, 0, ((131 : Nat) : Int), 0, [60, 67, 74, 81, 96, 103, 110, 117, 124]) L st h := run_s rfl
theorem r_X9_walker_60 : run E g mi_X9_walker d lm RT F pm_X9_walker (n + 1) 60 L st h = exI E d lm RT F (run E g mi_X9_walker d lm RT F pm_X9_walker n) (2, ((0 : Nat) : Int), 0, 61, []) L st h := run_s rfl
theorem r_X9_walker_61 : run E g mi_X9_walker d lm RT F pm_X9_walker (n + 1) 61 L st h = exI E d lm RT F (run E g mi_X9_walker d lm RT F pm_X9_walker n) (35, ((9 : Nat) : Int), ((18 : Nat) : Int), 64, []) L st h := run_s rfl
theorem r_X9_walker_64 : run E g mi_X9_walker d lm RT F pm_X9_walker (n + 1) 64 L st h = exI E d lm RT F (run E g mi_X9_walker d lm RT F pm_X9_walker n) (1, ((1 : Nat) : Int), 0, 65, []) L st h := run_s rfl
theorem r_X9_walker_65 : run E g mi_X9_walker d lm RT F pm_X9_walker (n + 1) 65 L st h = exI E d lm RT F (run E g mi_X9_walker d lm RT F pm_X9_walker n) (38, 0, 0, 66, []) L st h := run_s rfl
theorem r_X9_walker_66 : run E g mi_X9_walker d lm RT F pm_X9_walker (n + 1) 66 L st h = exI E d lm RT F (run E g mi_X9_walker d lm RT F pm_X9_walker n) (48, 0, 0, 0, []) L st h := run_s rfl
theorem r_X9_walker_67 : run E g mi_X9_walker d lm RT F pm_X9_walker (n + 1) 67 L st h = exI E d lm RT F (run E g mi_X9_walker d lm RT F pm_X9_walker n) (2, ((0 : Nat) : Int), 0, 68, []) L st h := run_s rfl
theorem r_X9_walker_68 : run E g mi_X9_walker d lm RT F pm_X9_walker (n + 1) 68 L st h = exI E d lm RT F (run E g mi_X9_walker d lm RT F pm_X9_walker n) (35, ((9 : Nat) : Int), ((19 : Nat) : Int), 71, []) L st h := run_s rfl
theorem r_X9_walker_71 : run E g mi_X9_walker d lm RT F pm_X9_walker (n + 1) 71 L st h = exI E d lm RT F (run E g mi_X9_walker d lm RT F pm_X9_walker n) (1, ((1 : Nat) : Int), 0, 72, []) L st h := run_s rfl
theorem r_X9_walker_72 : run E g mi_X9_walker d lm RT F pm_X9_walker (n + 1) 72 L st h = exI E d lm RT F (run E g mi_X9_walker d lm RT F pm_X9_walker n) (38, 0, 0, 73, []) L st h := run_s rfl
theorem r_X9_walker_73 : run E g mi_X9_walker d lm RT F pm_X9_walker (n + 1) 73 L st h = exI E d lm RT F (run E g mi_X9_walker d lm RT F pm_X9_walker n) (48, 0, 0, 0, []) L st h := run_s rfl
theorem r_X9_walker_74 : run E g mi_X9_walker d lm RT F pm_X9_walker (n + 1) 74 L st h = exI E d lm RT F (run E g mi_X9_walker d lm RT F pm_X9_walker n) (2, ((0 : Nat) : Int), 0, 75, []) L st h := run_s rfl
theorem r_X9_walker_75 : run E g mi_X9_walker d lm RT F pm_X9_walker (n + 1) 75 L st h = exI E d lm RT F (run E g mi_X9_walker d lm RT F pm_X9_walker n) (35, ((9 : Nat) : Int), ((20 : Nat) : Int), 78, []) L st h := run_s rfl
theorem r_X9_walker_78 : run E g mi_X9_walker d lm RT F pm_X9_walker (n + 1) 78 L st h = exI E d lm RT F (run E g mi_X9_walker d lm RT F pm_X9_walker n) (1, ((1 : Nat) : Int), 0, 79, []) L st h := run_s rfl
theorem r_X9_walker_79 : run E g mi_X9_walker d lm RT F pm_X9_walker (n + 1) 79 L st h = exI E d lm RT F (run E g mi_X9_walker d lm RT F pm_X9_walker n) (38, 0, 0, 80, []) L st h := run_s rfl
theorem r_X9_walker_80 : run E g mi_X9_walker d lm RT F pm_X9_walker (n + 1) 80 L st h = exI E d lm RT F (run E g mi_X9_walker d lm RT F pm_X9_walker n) (48, 0, 0, 0, []) L st h := run_s rfl
theorem r_X9_walker_81 : run E g mi_X9_walker d lm RT F pm_X9_walker (n + 1) 81 L st h = exI E d lm RT F (run E g mi_X9_walker d lm RT F pm_X9_walker n) (2, ((0 : Nat) : Int), 0, 82, []) L st h := run_s rfl
theorem r_X9_walker_82 : run E g mi_X9_walker d lm RT F pm_X9_walker (n + 1) 82 L st h = exI E d lm RT F (run E g mi_X9_walker d lm RT F pm_X9_walker n) (35, ((9 : Nat) : Int), ((21 : Nat) : Int), 85, []) L st h := run_s rfl
theorem r_X9_walker_85 : run E g mi_X9_walker d lm RT F pm_X9_walker (n + 1) 85 L st h = exI E d lm RT F (run E g mi_X9_walker d lm RT F pm_X9_walker n) (1, ((1 : Nat) : Int), 0, 86, []) L st h := run_s rfl
theorem r_X9_walker_86 : run E g mi_X9_walker d lm RT F pm_X9_walker (n + 1) 86 L st h = exI E d lm RT F (run E g mi_X9_walker d lm RT F pm_X9_walker n) (38, 1, 0, 87, []) L st h := run_s rfl
theorem r_X9_walker_87 : run E g mi_X9_walker d lm RT F pm_X9_walker (n + 1) 87 L st h = exI E d lm RT F (run E g mi_X9_walker d lm RT F pm_X9_walker n) (31, 0, ((94 : Nat) : Int), 90, []) L st h := run_s rfl
theorem r_X9_walker_90 : run E g mi_X9_walker d lm RT F pm_X9_walker (n + 1) 90 L st h = exI E d lm RT F (run E g mi_X9_walker d lm RT F pm_X9_walker n) (0, 1, 0, 91, []) L st h := run_s rfl
theorem r_X9_walker_91 : run E g mi_X9_walker d lm RT F pm_X9_walker (n + 1) 91 L st h = exI E d lm RT F (run E g mi_X9_walker d lm RT F pm_X9_walker n) (33, ((95 : Nat) : Int), 0, 0, []) L st h := run_s rfl
theorem r_X9_walker_94 : run E g mi_X9_walker d lm RT F pm_X9_walker (n + 1) 94 L st h = exI E d lm RT F (run E g mi_X9_walker d lm RT F pm_X9_walker n) (0, 0, 0, 95, []) L st h := run_s rfl
theorem r_X9_walker_95 : run E g mi_X9_walker d lm RT F pm_X9_walker (n + 1) 95 L st h = exI E d lm RT F (run E g mi_X9_walker d lm RT F pm_X9_walker n) (48, 0, 0, 0, []) L st h := run_s rfl
theorem r_X9_walker_96 : run E g mi_X9_walker d lm RT F pm_X9_walker (n + 1) 96 L st h = exI E d lm RT F (run E g mi_X9_walker d lm RT F pm_X9_walker n) (2, ((0 : Nat) : Int), 0, 97, []) L st h := run_s rfl
theorem r_X9_walker_97 : run E g mi_X9_walker d lm RT F pm_X9_walker (n + 1) 97 L st h = exI E d lm RT F (run E g mi_X9_walker d lm RT F pm_X9_walker n) (35, ((9 : Nat) : Int), ((22 : Nat) : Int), 100, []) L st h := run_s rfl
theorem r_X9_walker_100 : run E g mi_X9_walker d lm RT F pm_X9_walker (n + 1) 100 L st h = exI E d lm RT F (run E g mi_X9_walker d lm RT F pm_X9_walker n) (1, ((1 : Nat) : Int), 0, 101, []) L st h := run_s rfl
theorem r_X9_walker_101 : run E g mi_X9_walker d lm RT F pm_X9_walker (n + 1) 101 L st h = exI E d lm RT F (run E g mi_X9_walker d lm RT F pm_X9_walker n) (38, 0, 0, 102, []) L st h := run_s rfl
theorem r_X9_walker_102 : run E g mi_X9_walker d lm RT F pm_X9_walker (n + 1) 102 L st h = exI E d lm RT F (run E g mi_X9_walker d lm RT F pm_X9_walker n) (48, 0, 0, 0, []) L st h := run_s rfl
theorem r_X9_walker_103 : run E g mi_X9_walker d lm RT F pm_X9_walker (n + 1) 103 L st h = exI E d lm RT F (run E g mi_X9_walker d lm RT F pm_X9_walker n) (2, ((0 : Nat) : Int), 0, 104, []) L st h := run_s rfl
theorem r_X9_walker_104 : run E g mi_X9_walker d lm RT F pm_X9_walker (n + 1) 104 L st h = exI E d lm RT F (run E g mi_X9_walker d lm RT F pm_X9_walker n) (35, ((9 : Nat) : Int), ((23 : Nat) : Int), 107, []) L st h := run_s rfl
theorem r_X9_walker_107 : run E g mi_X9_walker d lm RT F pm_X9_walker (n + 1) 107 L st h = exI E d lm RT F (run E g mi_X9_walker d lm RT F pm_X9_walker n) (1, ((1 : Nat) : Int), 0, 108, []) L st h := run_s rfl
theorem r_X9_walker_108 : run E g mi_X9_walker d lm RT F pm_X9_walker (n + 1) 108 L st h = exI E d lm RT F (run E g mi_X9_walker d lm RT F pm_X9_walker n) (38, 0, 0, 109, []) L st h := run_s rfl
theorem r_X9_walker_109 : run E g mi_X9_walker d lm RT F pm_X9_walker (n + 1) 109 L st h = exI E d lm RT F (run E g mi_X9_walker d lm RT F pm_X9_walker n) (48, 0, 0, 0, []) L st h := run_s rfl
theorem r_X9_walker_110 : run E g mi_X9_walker d lm RT F pm_X9_walker (n + 1) 110 L st h = exI E d lm RT F (run E g mi_X9_walker d lm RT F pm_X9_walker n) (2, ((0 : Nat) : Int), 0, 111, []) L st h := run_s rfl
theorem r_X9_walker_111 : run E g mi_X9_walker d lm RT F pm_X9_walker (n + 1) 111 L st h = exI E d lm RT F (run E g mi_X9_walker d lm RT F pm_X9_walker n) (35, ((9 : Nat) : Int), ((24 : Nat) : Int), 114, []) L st h := run_s rfl
theorem r_X9_walker_114 : run E g mi_X9_walker d lm RT F pm_X9_walker (n + 1) 114 L st h = exI E d lm RT F (run E g mi_X9_walker d lm RT F pm_X9_walker n) (1, ((1 : Nat) : Int), 0, 115, []) L st h := run_s rfl
theorem r_X9_walker_115 : run E g mi_X9_walker d lm RT F pm_X9_walker (n + 1) 115 L st h = exI E d lm RT F (run E g mi_X9_walker d lm RT F pm_X9_walker n) (38, 0, 0, 116, []) L st h := run_s rfl
theorem r_X9_walker_116 : run E g mi_X9_walker d lm RT F pm_X9_walker (n + 1) 116 L st h = exI E d lm RT F (run E g mi_X9_walker d lm RT F pm_X9_walker n) (48, 0, 0, 0, []) L st h := run_s rfl
theorem r_X9_walker_117 : run E g mi_X9_walker d lm RT F pm_X9_walker (n + 1) 117 L st h = exI E d lm RT F (run E g mi_X9_walker d lm RT F pm_X9_walker n) (2, ((0 : Nat) : Int), 0, 118, []) L st h := run_s rfl
theorem r_X9_walker_118 : run E g mi_X9_walker d lm RT F pm_X9_walker (n + 1) 118 L st h = exI E d lm RT F (run E g mi_X9_walker d lm RT F pm_X9_walker n) (35, ((9 : Nat) : Int), ((26 : Nat) : Int), 121, []) L st h := run_s rfl
theorem r_X9_walker_121 : run E g mi_X9_walker d lm RT F pm_X9_walker (n + 1) 121 L st h = exI E d lm RT F (run E g mi_X9_walker d lm RT F pm_X9_walker n) (1, ((1 : Nat) : Int), 0, 122, []) L st h := run_s rfl
theorem r_X9_walker_122 : run E g mi_X9_walker d lm RT F pm_X9_walker (n + 1) 122 L st h = exI E d lm RT F (run E g mi_X9_walker d lm RT F pm_X9_walker n) (38, 0, 0, 123, []) L st h := run_s rfl
theorem r_X9_walker_123 : run E g mi_X9_walker d lm RT F pm_X9_walker (n + 1) 123 L st h = exI E d lm RT F (run E g mi_X9_walker d lm RT F pm_X9_walker n) (48, 0, 0, 0, []) L st h := run_s rfl
theorem r_X9_walker_124 : run E g mi_X9_walker d lm RT F pm_X9_walker (n + 1) 124 L st h = exI E d lm RT F (run E g mi_X9_walker d lm RT F pm_X9_walker n) (2, ((0 : Nat) : Int), 0, 125, []) L st h := run_s rfl
theorem r_X9_walker_125 : run E g mi_X9_walker d lm RT F pm_X9_walker (n + 1) 125 L st h = exI E d lm RT F (run E g mi_X9_walker d lm RT F pm_X9_walker n) (35, ((9 : Nat) : Int), ((25 : Nat) : Int), 128, []) L st h := run_s rfl
theorem r_X9_walker_128 : run E g mi_X9_walker d lm RT F pm_X9_walker (n + 1) 128 L st h = exI E d lm RT F (run E g mi_X9_walker d lm RT F pm_X9_walker n) (1, ((1 : Nat) : Int), 0, 129, []) L st h := run_s rfl
theorem r_X9_walker_129 : run E g mi_X9_walker d lm RT F pm_X9_walker (n + 1) 129 L st h = exI E d lm RT F (run E g mi_X9_walker d lm RT F pm_X9_walker n) (38, 0, 0, 130, []) L st h := run_s rfl
theorem r_X9_walker_130 : run E g mi_X9_walker d lm RT F pm_X9_walker (n + 1) 130 L st h = exI E d lm RT F (run E g mi_X9_walker d lm RT F pm_X9_walker n) (48, 0, 0, 0, []) L st h := run_s rfl
theorem r_X9_walker_131 : run E g mi_X9_walker d lm RT F pm_X9_walker (n + 1) 131 L st h = exI E d lm RT F (run E g mi_X9_walker d lm RT F pm_X9_walker n) (0, (-2), 0, 133, []) L st h := run_s rfl
theorem r_X9_walker_133 : run E g mi_X9_walker d lm RT F pm_X9_walker (n + 1) 133 L st h = exI E d lm RT F (run E g mi_X9_walker d lm RT F pm_X9_walker n) (48, 0, 0, 0, []) L st h := run_s rfl
theorem e_X9_walker (n : Nat) {pc : Nat} (hF : FOk E d F) (hx : run E g mi_X9_walker d lm RT F pm_X9_walker n pc L st h) : G E g mi_X9_walker d lm RT pc L st h := run_sound hF pk_X9_walker n pc L st h hx
end
def mi_X9_memory : MI := (9, cX9_memory, 4, 0, false)
theorem mo_X9_memory : miOk mi_X9_memory (mt 136) = true := by decide +kernel
def tl_X9_memory : List (Nat × PT) := [(0, (2, ((0 : Nat) : Int), 0, 1, [])),
  (1, (1, ((1 : Nat) : Int), 0, 2, [])),
  (2, (52, ((134 : Nat) : Int), ((2 : Nat) : Int), 5, [9])),
  (5, (31, 1, ((10 : Nat) : Int), 8, [])),
  (8, (0, (-1), 0, 9, [])),
  (9, (48, 0, 0, 0, [])),
  (10, (1, ((2 : Nat) : Int), 0, 11, [])),
  (11, (0, 0, 0, 12, [])),
  (12, (0, 7, 0, 14, [])),
  (14, (45, ((90 : Nat) : Int), ((3 : Nat) : Int), 17, [])),
  (17, (31, 0, ((29 : Nat) : Int), 20, [])),
  (20, (1, ((3 : Nat) : Int), 0, 21, [])),
  (21, (0, 0, 0, 22, [])),
  (22, (0, 1, 0, 23, [])),
  (23, (45, ((90 : Nat) : Int), ((3 : Nat) : Int), 26, [])),
  (26, (31, 1, ((32 : Nat) : Int), 29, [])),
  (29, (0, (-2), 0, 31, [])),
  (31, (48, 0, 0, 0, [])),
  (32, (1, ((2 : Nat) : Int), 0, 33, [])),
  (33, (2, ((0 : Nat) : Int), 0, 34, [])),
  (34, (35, ((9 : Nat) : Int), ((26 : Nat) : Int), 37, [])),
  (37, (1, ((1 : Nat) : Int), 0, 38, [])),
  (38, (38, 0, 0, 39, [])),
  (39, (32, 2, ((45 : Nat) : Int), 42, [])),
  (42, (0, (-9), 0, 44, [])),
  (44, (48, 0, 0, 0, [])),
  (45, (1, ((3 : Nat) : Int), 0, 46, [])),
  (46, (31, 1, ((63 : Nat) : Int), 49, [])),
  (49, (2, ((0 : Nat) : Int), 0, 50, [])),
  (50, (35, ((9 : Nat) : Int), ((27 : Nat) : Int), 53, [])),
  (53, (0, 8, 0, 55, [])),
  (55, (1, ((1 : Nat) : Int), 0, 56, [])),
  (56, (10, 0, 0, 57, [])),
  (57, (1, ((2 : Nat) : Int), 0, 58, [])),
  (58, (8, 0, 0, 59, [])),
  (59, (38, 0, 0, 60, [])),
  (60, (33, ((74 : Nat) : Int), 0, 0, [])),
  (63, (2, ((0 : Nat) : Int), 0, 64, [])),
  (64, (35, ((9 : Nat) : Int), ((28 : Nat) : Int), 67, [])),
  (67, (0, 8, 0, 69, [])),
  (69, (1, ((1 : Nat) : Int), 0, 70, [])),
  (70, (10, 0, 0, 71, [])),
  (71, (1, ((2 : Nat) : Int), 0, 72, [])),
  (72, (8, 0, 0, 73, [])),
  (73, (38, 0, 0, 74, [])),
  (74, (48, 0, 0, 0, []))]
theorem tk_X9_memory_0 : tOk mi_X9_memory ((tl_X9_memory.drop 0).take 45) = true := by decide +kernel
theorem tk_X9_memory_1 : tOk mi_X9_memory ((tl_X9_memory.drop 45).take 45) = true := by decide +kernel
theorem tk_X9_memory : tOk mi_X9_memory tl_X9_memory = true := by
  refine tOk_cut 45 (by decide) (fun q hq => ?_)
  have hl : tl_X9_memory.length = 46 := by decide +kernel
  rw [hl] at hq
  rcases (show q = 0 ∨ q = 1 by omega) with rfl | rfl
  · exact tk_X9_memory_0
  · exact tk_X9_memory_1
def pm_X9_memory (pc : Nat) : Option PT := if [].contains pc then none else tl_X9_memory.lookup pc
theorem pk_X9_memory : ∀ pc pt, pm_X9_memory pc = some pt → okPt mi_X9_memory pc pt := fun pc pt h => tOk_pm tk_X9_memory h
section
variable {E : ET} {g : GT} {d : Nat} {lm : Nat × Nat} {RT : RTy} {F : FT} {n : Nat} {L : LV} {st : List AV} {h : AH}
theorem r_X9_memory_0 : run E g mi_X9_memory d lm RT F pm_X9_memory (n + 1) 0 L st h = exI E d lm RT F (run E g mi_X9_memory d lm RT F pm_X9_memory n) (2, ((0 : Nat) : Int), 0, 1, []) L st h := run_s rfl
theorem r_X9_memory_1 : run E g mi_X9_memory d lm RT F pm_X9_memory (n + 1) 1 L st h = exI E d lm RT F (run E g mi_X9_memory d lm RT F pm_X9_memory n) (1, ((1 : Nat) : Int), 0, 2, []) L st h := run_s rfl
theorem r_X9_memory_2 : run E g mi_X9_memory d lm RT F pm_X9_memory (n + 1) 2 L st h = exI E d lm RT F (run E g mi_X9_memory d lm RT F pm_X9_memory n) (52, ((134 : Nat) : Int), ((2 : Nat) : Int), 5, [9]) L st h := run_s rfl
theorem r_X9_memory_5 : run E g mi_X9_memory d lm RT F pm_X9_memory (n + 1) 5 L st h = exI E d lm RT F (run E g mi_X9_memory d lm RT F pm_X9_memory n) (31, 1, ((10 : Nat) : Int), 8, []) L st h := run_s rfl
theorem r_X9_memory_8 : run E g mi_X9_memory d lm RT F pm_X9_memory (n + 1) 8 L st h = exI E d lm RT F (run E g mi_X9_memory d lm RT F pm_X9_memory n) (0, (-1), 0, 9, []) L st h := run_s rfl
theorem r_X9_memory_9 : run E g mi_X9_memory d lm RT F pm_X9_memory (n + 1) 9 L st h = exI E d lm RT F (run E g mi_X9_memory d lm RT F pm_X9_memory n) (48, 0, 0, 0, []) L st h := run_s rfl
theorem r_X9_memory_10 : run E g mi_X9_memory d lm RT F pm_X9_memory (n + 1) 10 L st h = exI E d lm RT F (run E g mi_X9_memory d lm RT F pm_X9_memory n) (1, ((2 : Nat) : Int), 0, 11, []) L st h := run_s rfl
theorem r_X9_memory_11 : run E g mi_X9_memory d lm RT F pm_X9_memory (n + 1) 11 L st h = exI E d lm RT F (run E g mi_X9_memory d lm RT F pm_X9_memory n) (0, 0, 0, 12, []) L st h := run_s rfl
theorem r_X9_memory_12 : run E g mi_X9_memory d lm RT F pm_X9_memory (n + 1) 12 L st h = exI E d lm RT F (run E g mi_X9_memory d lm RT F pm_X9_memory n) (0, 7, 0, 14, []) L st h := run_s rfl
theorem r_X9_memory_14 : run E g mi_X9_memory d lm RT F pm_X9_memory (n + 1) 14 L st h = exI E d lm RT F (run E g mi_X9_memory d lm RT F pm_X9_memory n) (45, ((90 : Nat) : Int), ((3 : Nat) : Int), 17, []) L st h := run_s rfl
theorem r_X9_memory_17 : run E g mi_X9_memory d lm RT F pm_X9_memory (n + 1) 17 L st h = exI E d lm RT F (run E g mi_X9_memory d lm RT F pm_X9_memory n) (31, 0, ((29 : Nat) : Int), 20, []) L st h := run_s rfl
theorem r_X9_memory_20 : run E g mi_X9_memory d lm RT F pm_X9_memory (n + 1) 20 L st h = exI E d lm RT F (run E g mi_X9_memory d lm RT F pm_X9_memory n) (1, ((3 : Nat) : Int), 0, 21, []) L st h := run_s rfl
theorem r_X9_memory_21 : run E g mi_X9_memory d lm RT F pm_X9_memory (n + 1) 21 L st h = exI E d lm RT F (run E g mi_X9_memory d lm RT F pm_X9_memory n) (0, 0, 0, 22, []) L st h := run_s rfl
theorem r_X9_memory_22 : run E g mi_X9_memory d lm RT F pm_X9_memory (n + 1) 22 L st h = exI E d lm RT F (run E g mi_X9_memory d lm RT F pm_X9_memory n) (0, 1, 0, 23, []) L st h := run_s rfl
theorem r_X9_memory_23 : run E g mi_X9_memory d lm RT F pm_X9_memory (n + 1) 23 L st h = exI E d lm RT F (run E g mi_X9_memory d lm RT F pm_X9_memory n) (45, ((90 : Nat) : Int), ((3 : Nat) : Int), 26, []) L st h := run_s rfl
theorem r_X9_memory_26 : run E g mi_X9_memory d lm RT F pm_X9_memory (n + 1) 26 L st h = exI E d lm RT F (run E g mi_X9_memory d lm RT F pm_X9_memory n) (31, 1, ((32 : Nat) : Int), 29, []) L st h := run_s rfl
theorem r_X9_memory_29 : run E g mi_X9_memory d lm RT F pm_X9_memory (n + 1) 29 L st h = exI E d lm RT F (run E g mi_X9_memory d lm RT F pm_X9_memory n) (0, (-2), 0, 31, []) L st h := run_s rfl
theorem r_X9_memory_31 : run E g mi_X9_memory d lm RT F pm_X9_memory (n + 1) 31 L st h = exI E d lm RT F (run E g mi_X9_memory d lm RT F pm_X9_memory n) (48, 0, 0, 0, []) L st h := run_s rfl
theorem r_X9_memory_32 : run E g mi_X9_memory d lm RT F pm_X9_memory (n + 1) 32 L st h = exI E d lm RT F (run E g mi_X9_memory d lm RT F pm_X9_memory n) (1, ((2 : Nat) : Int), 0, 33, []) L st h := run_s rfl
theorem r_X9_memory_33 : run E g mi_X9_memory d lm RT F pm_X9_memory (n + 1) 33 L st h = exI E d lm RT F (run E g mi_X9_memory d lm RT F pm_X9_memory n) (2, ((0 : Nat) : Int), 0, 34, []) L st h := run_s rfl
theorem r_X9_memory_34 : run E g mi_X9_memory d lm RT F pm_X9_memory (n + 1) 34 L st h = exI E d lm RT F (run E g mi_X9_memory d lm RT F pm_X9_memory n) (35, ((9 : Nat) : Int), ((26 : Nat) : Int), 37, []) L st h := run_s rfl
theorem r_X9_memory_37 : run E g mi_X9_memory d lm RT F pm_X9_memory (n + 1) 37 L st h = exI E d lm RT F (run E g mi_X9_memory d lm RT F pm_X9_memory n) (1, ((1 : Nat) : Int), 0, 38, []) L st h := run_s rfl
theorem r_X9_memory_38 : run E g mi_X9_memory d lm RT F pm_X9_memory (n + 1) 38 L st h = exI E d lm RT F (run E g mi_X9_memory d lm RT F pm_X9_memory n) (38, 0, 0, 39, []) L st h := run_s rfl
theorem r_X9_memory_39 : run E g mi_X9_memory d lm RT F pm_X9_memory (n + 1) 39 L st h = exI E d lm RT F (run E g mi_X9_memory d lm RT F pm_X9_memory n) (32, 2, ((45 : Nat) : Int), 42, []) L st h := run_s rfl
theorem r_X9_memory_42 : run E g mi_X9_memory d lm RT F pm_X9_memory (n + 1) 42 L st h = exI E d lm RT F (run E g mi_X9_memory d lm RT F pm_X9_memory n) (0, (-9), 0, 44, []) L st h := run_s rfl
theorem r_X9_memory_44 : run E g mi_X9_memory d lm RT F pm_X9_memory (n + 1) 44 L st h = exI E d lm RT F (run E g mi_X9_memory d lm RT F pm_X9_memory n) (48, 0, 0, 0, []) L st h := run_s rfl
theorem r_X9_memory_45 : run E g mi_X9_memory d lm RT F pm_X9_memory (n + 1) 45 L st h = exI E d lm RT F (run E g mi_X9_memory d lm RT F pm_X9_memory n) (1, ((3 : Nat) : Int), 0, 46, []) L st h := run_s rfl
theorem r_X9_memory_46 : run E g mi_X9_memory d lm RT F pm_X9_memory (n + 1) 46 L st h = exI E d lm RT F (run E g mi_X9_memory d lm RT F pm_X9_memory n) (31, 1, ((63 : Nat) : Int), 49, []) L st h := run_s rfl
theorem r_X9_memory_49 : run E g mi_X9_memory d lm RT F pm_X9_memory (n + 1) 49 L st h = exI E d lm RT F (run E g mi_X9_memory d lm RT F pm_X9_memory n) (2, ((0 : Nat) : Int), 0, 50, []) L st h := run_s rfl
theorem r_X9_memory_50 : run E g mi_X9_memory d lm RT F pm_X9_memory (n + 1) 50 L st h = exI E d lm RT F (run E g mi_X9_memory d lm RT F pm_X9_memory n) (35, ((9 : Nat) : Int), ((27 : Nat) : Int), 53, []) L st h := run_s rfl
theorem r_X9_memory_53 : run E g mi_X9_memory d lm RT F pm_X9_memory (n + 1) 53 L st h = exI E d lm RT F (run E g mi_X9_memory d lm RT F pm_X9_memory n) (0, 8, 0, 55, []) L st h := run_s rfl
theorem r_X9_memory_55 : run E g mi_X9_memory d lm RT F pm_X9_memory (n + 1) 55 L st h = exI E d lm RT F (run E g mi_X9_memory d lm RT F pm_X9_memory n) (1, ((1 : Nat) : Int), 0, 56, []) L st h := run_s rfl
theorem r_X9_memory_56 : run E g mi_X9_memory d lm RT F pm_X9_memory (n + 1) 56 L st h = exI E d lm RT F (run E g mi_X9_memory d lm RT F pm_X9_memory n) (10, 0, 0, 57, []) L st h := run_s rfl
theorem r_X9_memory_57 : run E g mi_X9_memory d lm RT F pm_X9_memory (n + 1) 57 L st h = exI E d lm RT F (run E g mi_X9_memory d lm RT F pm_X9_memory n) (1, ((2 : Nat) : Int), 0, 58, []) L st h := run_s rfl
theorem r_X9_memory_58 : run E g mi_X9_memory d lm RT F pm_X9_memory (n + 1) 58 L st h = exI E d lm RT F (run E g mi_X9_memory d lm RT F pm_X9_memory n) (8, 0, 0, 59, []) L st h := run_s rfl
theorem r_X9_memory_59 : run E g mi_X9_memory d lm RT F pm_X9_memory (n + 1) 59 L st h = exI E d lm RT F (run E g mi_X9_memory d lm RT F pm_X9_memory n) (38, 0, 0, 60, []) L st h := run_s rfl
theorem r_X9_memory_60 : run E g mi_X9_memory d lm RT F pm_X9_memory (n + 1) 60 L st h = exI E d lm RT F (run E g mi_X9_memory d lm RT F pm_X9_memory n) (33, ((74 : Nat) : Int), 0, 0, []) L st h := run_s rfl
theorem r_X9_memory_63 : run E g mi_X9_memory d lm RT F pm_X9_memory (n + 1) 63 L st h = exI E d lm RT F (run E g mi_X9_memory d lm RT F pm_X9_memory n) (2, ((0 : Nat) : Int), 0, 64, []) L st h := run_s rfl
theorem r_X9_memory_64 : run E g mi_X9_memory d lm RT F pm_X9_memory (n + 1) 64 L st h = exI E d lm RT F (run E g mi_X9_memory d lm RT F pm_X9_memory n) (35, ((9 : Nat) : Int), ((28 : Nat) : Int), 67, []) L st h := run_s rfl
theorem r_X9_memory_67 : run E g mi_X9_memory d lm RT F pm_X9_memory (n + 1) 67 L st h = exI E d lm RT F (run E g mi_X9_memory d lm RT F pm_X9_memory n) (0, 8, 0, 69, []) L st h := run_s rfl
theorem r_X9_memory_69 : run E g mi_X9_memory d lm RT F pm_X9_memory (n + 1) 69 L st h = exI E d lm RT F (run E g mi_X9_memory d lm RT F pm_X9_memory n) (1, ((1 : Nat) : Int), 0, 70, []) L st h := run_s rfl
theorem r_X9_memory_70 : run E g mi_X9_memory d lm RT F pm_X9_memory (n + 1) 70 L st h = exI E d lm RT F (run E g mi_X9_memory d lm RT F pm_X9_memory n) (10, 0, 0, 71, []) L st h := run_s rfl
theorem r_X9_memory_71 : run E g mi_X9_memory d lm RT F pm_X9_memory (n + 1) 71 L st h = exI E d lm RT F (run E g mi_X9_memory d lm RT F pm_X9_memory n) (1, ((2 : Nat) : Int), 0, 72, []) L st h := run_s rfl
theorem r_X9_memory_72 : run E g mi_X9_memory d lm RT F pm_X9_memory (n + 1) 72 L st h = exI E d lm RT F (run E g mi_X9_memory d lm RT F pm_X9_memory n) (8, 0, 0, 73, []) L st h := run_s rfl
theorem r_X9_memory_73 : run E g mi_X9_memory d lm RT F pm_X9_memory (n + 1) 73 L st h = exI E d lm RT F (run E g mi_X9_memory d lm RT F pm_X9_memory n) (38, 0, 0, 74, []) L st h := run_s rfl
theorem r_X9_memory_74 : run E g mi_X9_memory d lm RT F pm_X9_memory (n + 1) 74 L st h = exI E d lm RT F (run E g mi_X9_memory d lm RT F pm_X9_memory n) (48, 0, 0, 0, []) L st h := run_s rfl
theorem e_X9_memory (n : Nat) {pc : Nat} (hF : FOk E d F) (hx : run E g mi_X9_memory d lm RT F pm_X9_memory n pc L st h) : G E g mi_X9_memory d lm RT pc L st h := run_sound hF pk_X9_memory n pc L st h hx
end
def mi_X9_noted : MI := (9, cX9_noted, 7, 0, false)
theorem mo_X9_noted : miOk mi_X9_noted (mt 137) = true := by decide +kernel
def tl_X9_noted : List (Nat × PT) := [(0, (1, ((1 : Nat) : Int), 0, 1, [])),
  (1, (45, ((91 : Nat) : Int), ((1 : Nat) : Int), 4, [])),
  (4, (31, 0, ((14 : Nat) : Int), 7, [])),
  (7, (1, ((2 : Nat) : Int), 0, 8, [])),
  (8, (45, ((91 : Nat) : Int), ((1 : Nat) : Int), 11, [])),
  (11, (31, 1, ((16 : Nat) : Int), 14, [])),
  (14, (0, (-1), 0, 15, [])),
  (15, (48, 0, 0, 0, [])),
  (16, (1, ((3 : Nat) : Int), 0, 17, [])),
  (17, (0, 0, 0, 18, [])),
  (18, (0, 3, 0, 19, [])),
  (19, (45, ((90 : Nat) : Int), ((3 : Nat) : Int), 22, [])),
  (22, (31, 1, ((28 : Nat) : Int), 25, [])),
  (25, (0, (-2), 0, 27, [])),
  (27, (48, 0, 0, 0, [])),
  (28, (1, ((1 : Nat) : Int), 0, 29, [])),
  (29, (1, ((2 : Nat) : Int), 0, 30, [])),
  (30, (32, 1, ((36 : Nat) : Int), 33, [])),
  (33, (0, (-3), 0, 35, [])),
  (35, (48, 0, 0, 0, [])),
  (36, (0, 8, 0, 38, [])),
  (38, (1, ((1 : Nat) : Int), 0, 39, [])),
  (39, (10, 0, 0, 40, [])),
  (40, (1, ((2 : Nat) : Int), 0, 41, [])),
  (41, (8, 0, 0, 42, [])),
  (42, (4, ((4 : Nat) : Int), 0, 44, [])),
  (44, (0, 0, 0, 45, [])),
  (45, (4, ((5 : Nat) : Int), 0, 47, [])),
  (47, (0, 0, 0, 48, [])),
  (48, (4, ((6 : Nat) : Int), 0, 50, [])),
  (50, (1, ((6 : Nat) : Int), 0, 52, [])),
  (52, (2, ((0 : Nat) : Int), 0, 53, [])),
  (53, (35, ((9 : Nat) : Int), ((30 : Nat) : Int), 56, [])),
  (56, (1, ((4 : Nat) : Int), 0, 58, [])),
  (58, (38, 0, 0, 59, [])),
  (59, (32, 3, ((86 : Nat) : Int), 62, [])),
  (62, (1, ((5 : Nat) : Int), 0, 64, [])),
  (64, (2, ((0 : Nat) : Int), 0, 65, [])),
  (65, (35, ((9 : Nat) : Int), ((31 : Nat) : Int), 68, [])),
  (68, (0, 8, 0, 70, [])),
  (70, (1, ((4 : Nat) : Int), 0, 72, [])),
  (72, (10, 0, 0, 73, [])),
  (73, (1, ((6 : Nat) : Int), 0, 75, [])),
  (75, (8, 0, 0, 76, [])),
  (76, (38, 0, 0, 77, [])),
  (77, (8, 0, 0, 78, [])),
  (78, (4, ((5 : Nat) : Int), 0, 80, [])),
  (80, (7, ((6 : Nat) : Int), 1, 83, [])),
  (83, (33, ((50 : Nat) : Int), 0, 0, [])),
  (86, (1, ((3 : Nat) : Int), 0, 87, [])),
  (87, (34, 0, ((163 : Nat) : Int), 0, [112, 120, 127])),
  (112, (2, ((0 : Nat) : Int), 0, 113, [])),
  (113, (35, ((9 : Nat) : Int), ((30 : Nat) : Int), 116, [])),
  (116, (1, ((4 : Nat) : Int), 0, 118, [])),
  (118, (38, 0, 0, 119, [])),
  (119, (48, 0, 0, 0, [])),
  (120, (2, ((0 : Nat) : Int), 0, 121, [])),
  (121, (1, ((4 : Nat) : Int), 0, 123, [])),
  (123, (51, ((130 : Nat) : Int), ((2 : Nat) : Int), 126, [9])),
  (126, (48, 0, 0, 0, [])),
  (127, (2, ((0 : Nat) : Int), 0, 128, [])),
  (128, (35, ((9 : Nat) : Int), ((30 : Nat) : Int), 131, [])),
  (131, (1, ((4 : Nat) : Int), 0, 133, [])),
  (133, (38, 0, 0, 134, [])),
  (134, (31, 1, ((142 : Nat) : Int), 137, [])),
  (137, (0, (-9), 0, 139, [])),
  (139, (33, ((162 : Nat) : Int), 0, 0, [])),
  (142, (2, ((0 : Nat) : Int), 0, 143, [])),
  (143, (35, ((9 : Nat) : Int), ((31 : Nat) : Int), 146, [])),
  (146, (0, 8, 0, 148, [])),
  (148, (1, ((4 : Nat) : Int), 0, 150, [])),
  (150, (10, 0, 0, 151, [])),
  (151, (2, ((0 : Nat) : Int), 0, 152, [])),
  (152, (35, ((9 : Nat) : Int), ((30 : Nat) : Int), 155, [])),
  (155, (1, ((4 : Nat) : Int), 0, 157, [])),
  (157, (38, 0, 0, 158, [])),
  (158, (8, 0, 0, 159, [])),
  (159, (0, 1, 0, 160, [])),
  (160, (9, 0, 0, 161, [])),
  (161, (38, 0, 0, 162, [])),
  (162, (48, 0, 0, 0, [])),
  (163, (1, ((5 : Nat) : Int), 0, 165, [])),
  (165, (48, 0, 0, 0, []))]
theorem tk_X9_noted_0 : tOk mi_X9_noted ((tl_X9_noted.drop 0).take 45) = true := by decide +kernel
theorem tk_X9_noted_1 : tOk mi_X9_noted ((tl_X9_noted.drop 45).take 45) = true := by decide +kernel
theorem tk_X9_noted : tOk mi_X9_noted tl_X9_noted = true := by
  refine tOk_cut 45 (by decide) (fun q hq => ?_)
  have hl : tl_X9_noted.length = 83 := by decide +kernel
  rw [hl] at hq
  rcases (show q = 0 ∨ q = 1 by omega) with rfl | rfl
  · exact tk_X9_noted_0
  · exact tk_X9_noted_1
def pm_X9_noted (pc : Nat) : Option PT := if [50].contains pc then none else tl_X9_noted.lookup pc
theorem pk_X9_noted : ∀ pc pt, pm_X9_noted pc = some pt → okPt mi_X9_noted pc pt := fun pc pt h => tOk_pm tk_X9_noted h
section
variable {E : ET} {g : GT} {d : Nat} {lm : Nat × Nat} {RT : RTy} {F : FT} {n : Nat} {L : LV} {st : List AV} {h : AH}
theorem r_X9_noted_0 : run E g mi_X9_noted d lm RT F pm_X9_noted (n + 1) 0 L st h = exI E d lm RT F (run E g mi_X9_noted d lm RT F pm_X9_noted n) (1, ((1 : Nat) : Int), 0, 1, []) L st h := run_s rfl
theorem r_X9_noted_1 : run E g mi_X9_noted d lm RT F pm_X9_noted (n + 1) 1 L st h = exI E d lm RT F (run E g mi_X9_noted d lm RT F pm_X9_noted n) (45, ((91 : Nat) : Int), ((1 : Nat) : Int), 4, []) L st h := run_s rfl
theorem r_X9_noted_4 : run E g mi_X9_noted d lm RT F pm_X9_noted (n + 1) 4 L st h = exI E d lm RT F (run E g mi_X9_noted d lm RT F pm_X9_noted n) (31, 0, ((14 : Nat) : Int), 7, []) L st h := run_s rfl
theorem r_X9_noted_7 : run E g mi_X9_noted d lm RT F pm_X9_noted (n + 1) 7 L st h = exI E d lm RT F (run E g mi_X9_noted d lm RT F pm_X9_noted n) (1, ((2 : Nat) : Int), 0, 8, []) L st h := run_s rfl
theorem r_X9_noted_8 : run E g mi_X9_noted d lm RT F pm_X9_noted (n + 1) 8 L st h = exI E d lm RT F (run E g mi_X9_noted d lm RT F pm_X9_noted n) (45, ((91 : Nat) : Int), ((1 : Nat) : Int), 11, []) L st h := run_s rfl
theorem r_X9_noted_11 : run E g mi_X9_noted d lm RT F pm_X9_noted (n + 1) 11 L st h = exI E d lm RT F (run E g mi_X9_noted d lm RT F pm_X9_noted n) (31, 1, ((16 : Nat) : Int), 14, []) L st h := run_s rfl
theorem r_X9_noted_14 : run E g mi_X9_noted d lm RT F pm_X9_noted (n + 1) 14 L st h = exI E d lm RT F (run E g mi_X9_noted d lm RT F pm_X9_noted n) (0, (-1), 0, 15, []) L st h := run_s rfl
theorem r_X9_noted_15 : run E g mi_X9_noted d lm RT F pm_X9_noted (n + 1) 15 L st h = exI E d lm RT F (run E g mi_X9_noted d lm RT F pm_X9_noted n) (48, 0, 0, 0, []) L st h := run_s rfl
theorem r_X9_noted_16 : run E g mi_X9_noted d lm RT F pm_X9_noted (n + 1) 16 L st h = exI E d lm RT F (run E g mi_X9_noted d lm RT F pm_X9_noted n) (1, ((3 : Nat) : Int), 0, 17, []) L st h := run_s rfl
theorem r_X9_noted_17 : run E g mi_X9_noted d lm RT F pm_X9_noted (n + 1) 17 L st h = exI E d lm RT F (run E g mi_X9_noted d lm RT F pm_X9_noted n) (0, 0, 0, 18, []) L st h := run_s rfl
theorem r_X9_noted_18 : run E g mi_X9_noted d lm RT F pm_X9_noted (n + 1) 18 L st h = exI E d lm RT F (run E g mi_X9_noted d lm RT F pm_X9_noted n) (0, 3, 0, 19, []) L st h := run_s rfl
theorem r_X9_noted_19 : run E g mi_X9_noted d lm RT F pm_X9_noted (n + 1) 19 L st h = exI E d lm RT F (run E g mi_X9_noted d lm RT F pm_X9_noted n) (45, ((90 : Nat) : Int), ((3 : Nat) : Int), 22, []) L st h := run_s rfl
theorem r_X9_noted_22 : run E g mi_X9_noted d lm RT F pm_X9_noted (n + 1) 22 L st h = exI E d lm RT F (run E g mi_X9_noted d lm RT F pm_X9_noted n) (31, 1, ((28 : Nat) : Int), 25, []) L st h := run_s rfl
theorem r_X9_noted_25 : run E g mi_X9_noted d lm RT F pm_X9_noted (n + 1) 25 L st h = exI E d lm RT F (run E g mi_X9_noted d lm RT F pm_X9_noted n) (0, (-2), 0, 27, []) L st h := run_s rfl
theorem r_X9_noted_27 : run E g mi_X9_noted d lm RT F pm_X9_noted (n + 1) 27 L st h = exI E d lm RT F (run E g mi_X9_noted d lm RT F pm_X9_noted n) (48, 0, 0, 0, []) L st h := run_s rfl
theorem r_X9_noted_28 : run E g mi_X9_noted d lm RT F pm_X9_noted (n + 1) 28 L st h = exI E d lm RT F (run E g mi_X9_noted d lm RT F pm_X9_noted n) (1, ((1 : Nat) : Int), 0, 29, []) L st h := run_s rfl
theorem r_X9_noted_29 : run E g mi_X9_noted d lm RT F pm_X9_noted (n + 1) 29 L st h = exI E d lm RT F (run E g mi_X9_noted d lm RT F pm_X9_noted n) (1, ((2 : Nat) : Int), 0, 30, []) L st h := run_s rfl
theorem r_X9_noted_30 : run E g mi_X9_noted d lm RT F pm_X9_noted (n + 1) 30 L st h = exI E d lm RT F (run E g mi_X9_noted d lm RT F pm_X9_noted n) (32, 1, ((36 : Nat) : Int), 33, []) L st h := run_s rfl
theorem r_X9_noted_33 : run E g mi_X9_noted d lm RT F pm_X9_noted (n + 1) 33 L st h = exI E d lm RT F (run E g mi_X9_noted d lm RT F pm_X9_noted n) (0, (-3), 0, 35, []) L st h := run_s rfl
theorem r_X9_noted_35 : run E g mi_X9_noted d lm RT F pm_X9_noted (n + 1) 35 L st h = exI E d lm RT F (run E g mi_X9_noted d lm RT F pm_X9_noted n) (48, 0, 0, 0, []) L st h := run_s rfl
theorem r_X9_noted_36 : run E g mi_X9_noted d lm RT F pm_X9_noted (n + 1) 36 L st h = exI E d lm RT F (run E g mi_X9_noted d lm RT F pm_X9_noted n) (0, 8, 0, 38, []) L st h := run_s rfl
theorem r_X9_noted_38 : run E g mi_X9_noted d lm RT F pm_X9_noted (n + 1) 38 L st h = exI E d lm RT F (run E g mi_X9_noted d lm RT F pm_X9_noted n) (1, ((1 : Nat) : Int), 0, 39, []) L st h := run_s rfl
theorem r_X9_noted_39 : run E g mi_X9_noted d lm RT F pm_X9_noted (n + 1) 39 L st h = exI E d lm RT F (run E g mi_X9_noted d lm RT F pm_X9_noted n) (10, 0, 0, 40, []) L st h := run_s rfl
theorem r_X9_noted_40 : run E g mi_X9_noted d lm RT F pm_X9_noted (n + 1) 40 L st h = exI E d lm RT F (run E g mi_X9_noted d lm RT F pm_X9_noted n) (1, ((2 : Nat) : Int), 0, 41, []) L st h := run_s rfl
theorem r_X9_noted_41 : run E g mi_X9_noted d lm RT F pm_X9_noted (n + 1) 41 L st h = exI E d lm RT F (run E g mi_X9_noted d lm RT F pm_X9_noted n) (8, 0, 0, 42, []) L st h := run_s rfl
theorem r_X9_noted_42 : run E g mi_X9_noted d lm RT F pm_X9_noted (n + 1) 42 L st h = exI E d lm RT F (run E g mi_X9_noted d lm RT F pm_X9_noted n) (4, ((4 : Nat) : Int), 0, 44, []) L st h := run_s rfl
theorem r_X9_noted_44 : run E g mi_X9_noted d lm RT F pm_X9_noted (n + 1) 44 L st h = exI E d lm RT F (run E g mi_X9_noted d lm RT F pm_X9_noted n) (0, 0, 0, 45, []) L st h := run_s rfl
theorem r_X9_noted_45 : run E g mi_X9_noted d lm RT F pm_X9_noted (n + 1) 45 L st h = exI E d lm RT F (run E g mi_X9_noted d lm RT F pm_X9_noted n) (4, ((5 : Nat) : Int), 0, 47, []) L st h := run_s rfl
theorem r_X9_noted_47 : run E g mi_X9_noted d lm RT F pm_X9_noted (n + 1) 47 L st h = exI E d lm RT F (run E g mi_X9_noted d lm RT F pm_X9_noted n) (0, 0, 0, 48, []) L st h := run_s rfl
theorem r_X9_noted_48 : run E g mi_X9_noted d lm RT F pm_X9_noted (n + 1) 48 L st h = exI E d lm RT F (run E g mi_X9_noted d lm RT F pm_X9_noted n) (4, ((6 : Nat) : Int), 0, 50, []) L st h := run_s rfl
theorem r_X9_noted_50 : run E g mi_X9_noted d lm RT F pm_X9_noted (n + 1) 50 L st h = G E g mi_X9_noted d lm RT 50 L st h := run_c rfl
theorem q_X9_noted_50 (n : Nat) (hF : FOk E d F) (hx : exI E d lm RT F (run E g mi_X9_noted d lm RT F pm_X9_noted n) (1, ((6 : Nat) : Int), 0, 52, []) L st h) : G E g mi_X9_noted d lm RT 50 L st h := sstep hF (tOk_spec tk_X9_noted (by decide +kernel)) (run_sound hF pk_X9_noted n) hx
theorem r_X9_noted_52 : run E g mi_X9_noted d lm RT F pm_X9_noted (n + 1) 52 L st h = exI E d lm RT F (run E g mi_X9_noted d lm RT F pm_X9_noted n) (2, ((0 : Nat) : Int), 0, 53, []) L st h := run_s rfl
theorem r_X9_noted_53 : run E g mi_X9_noted d lm RT F pm_X9_noted (n + 1) 53 L st h = exI E d lm RT F (run E g mi_X9_noted d lm RT F pm_X9_noted n) (35, ((9 : Nat) : Int), ((30 : Nat) : Int), 56, []) L st h := run_s rfl
theorem r_X9_noted_56 : run E g mi_X9_noted d lm RT F pm_X9_noted (n + 1) 56 L st h = exI E d lm RT F (run E g mi_X9_noted d lm RT F pm_X9_noted n) (1, ((4 : Nat) : Int), 0, 58, []) L st h := run_s rfl
theorem r_X9_noted_58 : run E g mi_X9_noted d lm RT F pm_X9_noted (n + 1) 58 L st h = exI E d lm RT F (run E g mi_X9_noted d lm RT F pm_X9_noted n) (38, 0, 0, 59, []) L st h := run_s rfl
theorem r_X9_noted_59 : run E g mi_X9_noted d lm RT F pm_X9_noted (n + 1) 59 L st h = exI E d lm RT F (run E g mi_X9_noted d lm RT F pm_X9_noted n) (32, 3, ((86 : Nat) : Int), 62, []) L st h := run_s rfl
theorem r_X9_noted_62 : run E g mi_X9_noted d lm RT F pm_X9_noted (n + 1) 62 L st h = exI E d lm RT F (run E g mi_X9_noted d lm RT F pm_X9_noted n) (1, ((5 : Nat) : Int), 0, 64, []) L st h := run_s rfl
theorem r_X9_noted_64 : run E g mi_X9_noted d lm RT F pm_X9_noted (n + 1) 64 L st h = exI E d lm RT F (run E g mi_X9_noted d lm RT F pm_X9_noted n) (2, ((0 : Nat) : Int), 0, 65, []) L st h := run_s rfl
theorem r_X9_noted_65 : run E g mi_X9_noted d lm RT F pm_X9_noted (n + 1) 65 L st h = exI E d lm RT F (run E g mi_X9_noted d lm RT F pm_X9_noted n) (35, ((9 : Nat) : Int), ((31 : Nat) : Int), 68, []) L st h := run_s rfl
theorem r_X9_noted_68 : run E g mi_X9_noted d lm RT F pm_X9_noted (n + 1) 68 L st h = exI E d lm RT F (run E g mi_X9_noted d lm RT F pm_X9_noted n) (0, 8, 0, 70, []) L st h := run_s rfl
theorem r_X9_noted_70 : run E g mi_X9_noted d lm RT F pm_X9_noted (n + 1) 70 L st h = exI E d lm RT F (run E g mi_X9_noted d lm RT F pm_X9_noted n) (1, ((4 : Nat) : Int), 0, 72, []) L st h := run_s rfl
theorem r_X9_noted_72 : run E g mi_X9_noted d lm RT F pm_X9_noted (n + 1) 72 L st h = exI E d lm RT F (run E g mi_X9_noted d lm RT F pm_X9_noted n) (10, 0, 0, 73, []) L st h := run_s rfl
theorem r_X9_noted_73 : run E g mi_X9_noted d lm RT F pm_X9_noted (n + 1) 73 L st h = exI E d lm RT F (run E g mi_X9_noted d lm RT F pm_X9_noted n) (1, ((6 : Nat) : Int), 0, 75, []) L st h := run_s rfl
theorem r_X9_noted_75 : run E g mi_X9_noted d lm RT F pm_X9_noted (n + 1) 75 L st h = exI E d lm RT F (run E g mi_X9_noted d lm RT F pm_X9_noted n) (8, 0, 0, 76, []) L st h := run_s rfl
theorem r_X9_noted_76 : run E g mi_X9_noted d lm RT F pm_X9_noted (n + 1) 76 L st h = exI E d lm RT F (run E g mi_X9_noted d lm RT F pm_X9_noted n) (38, 0, 0, 77, []) L st h := run_s rfl
theorem r_X9_noted_77 : run E g mi_X9_noted d lm RT F pm_X9_noted (n + 1) 77 L st h = exI E d lm RT F (run E g mi_X9_noted d lm RT F pm_X9_noted n) (8, 0, 0, 78, []) L st h := run_s rfl
theorem r_X9_noted_78 : run E g mi_X9_noted d lm RT F pm_X9_noted (n + 1) 78 L st h = exI E d lm RT F (run E g mi_X9_noted d lm RT F pm_X9_noted n) (4, ((5 : Nat) : Int), 0, 80, []) L st h := run_s rfl
theorem r_X9_noted_80 : run E g mi_X9_noted d lm RT F pm_X9_noted (n + 1) 80 L st h = exI E d lm RT F (run E g mi_X9_noted d lm RT F pm_X9_noted n) (7, ((6 : Nat) : Int), 1, 83, []) L st h := run_s rfl
theorem r_X9_noted_83 : run E g mi_X9_noted d lm RT F pm_X9_noted (n + 1) 83 L st h = exI E d lm RT F (run E g mi_X9_noted d lm RT F pm_X9_noted n) (33, ((50 : Nat) : Int), 0, 0, []) L st h := run_s rfl
theorem r_X9_noted_86 : run E g mi_X9_noted d lm RT F pm_X9_noted (n + 1) 86 L st h = exI E d lm RT F (run E g mi_X9_noted d lm RT F pm_X9_noted n) (1, ((3 : Nat) : Int), 0, 87, []) L st h := run_s rfl
theorem r_X9_noted_87 : run E g mi_X9_noted d lm RT F pm_X9_noted (n + 1) 87 L st h = exI E d lm RT F (run E g mi_X9_noted d lm RT F pm_X9_noted n) (34, 0, ((163 : Nat) : Int), 0, [112, 120, 127]) L st h := run_s rfl
theorem r_X9_noted_112 : run E g mi_X9_noted d lm RT F pm_X9_noted (n + 1) 112 L st h = exI E d lm RT F (run E g mi_X9_noted d lm RT F pm_X9_noted n) (2, ((0 : Nat) : Int), 0, 113, []) L st h := run_s rfl
theorem r_X9_noted_113 : run E g mi_X9_noted d lm RT F pm_X9_noted (n + 1) 113 L st h = exI E d lm RT F (run E g mi_X9_noted d lm RT F pm_X9_noted n) (35, ((9 : Nat) : Int), ((30 : Nat) : Int), 116, []) L st h := run_s rfl
theorem r_X9_noted_116 : run E g mi_X9_noted d lm RT F pm_X9_noted (n + 1) 116 L st h = exI E d lm RT F (run E g mi_X9_noted d lm RT F pm_X9_noted n) (1, ((4 : Nat) : Int), 0, 118, []) L st h := run_s rfl
theorem r_X9_noted_118 : run E g mi_X9_noted d lm RT F pm_X9_noted (n + 1) 118 L st h = exI E d lm RT F (run E g mi_X9_noted d lm RT F pm_X9_noted n) (38, 0, 0, 119, []) L st h := run_s rfl
theorem r_X9_noted_119 : run E g mi_X9_noted d lm RT F pm_X9_noted (n + 1) 119 L st h = exI E d lm RT F (run E g mi_X9_noted d lm RT F pm_X9_noted n) (48, 0, 0, 0, []) L st h := run_s rfl
theorem r_X9_noted_120 : run E g mi_X9_noted d lm RT F pm_X9_noted (n + 1) 120 L st h = exI E d lm RT F (run E g mi_X9_noted d lm RT F pm_X9_noted n) (2, ((0 : Nat) : Int), 0, 121, []) L st h := run_s rfl
theorem r_X9_noted_121 : run E g mi_X9_noted d lm RT F pm_X9_noted (n + 1) 121 L st h = exI E d lm RT F (run E g mi_X9_noted d lm RT F pm_X9_noted n) (1, ((4 : Nat) : Int), 0, 123, []) L st h := run_s rfl
theorem r_X9_noted_123 : run E g mi_X9_noted d lm RT F pm_X9_noted (n + 1) 123 L st h = exI E d lm RT F (run E g mi_X9_noted d lm RT F pm_X9_noted n) (51, ((130 : Nat) : Int), ((2 : Nat) : Int), 126, [9]) L st h := run_s rfl
theorem r_X9_noted_126 : run E g mi_X9_noted d lm RT F pm_X9_noted (n + 1) 126 L st h = exI E d lm RT F (run E g mi_X9_noted d lm RT F pm_X9_noted n) (48, 0, 0, 0, []) L st h := run_s rfl
theorem r_X9_noted_127 : run E g mi_X9_noted d lm RT F pm_X9_noted (n + 1) 127 L st h = exI E d lm RT F (run E g mi_X9_noted d lm RT F pm_X9_noted n) (2, ((0 : Nat) : Int), 0, 128, []) L st h := run_s rfl
theorem r_X9_noted_128 : run E g mi_X9_noted d lm RT F pm_X9_noted (n + 1) 128 L st h = exI E d lm RT F (run E g mi_X9_noted d lm RT F pm_X9_noted n) (35, ((9 : Nat) : Int), ((30 : Nat) : Int), 131, []) L st h := run_s rfl
theorem r_X9_noted_131 : run E g mi_X9_noted d lm RT F pm_X9_noted (n + 1) 131 L st h = exI E d lm RT F (run E g mi_X9_noted d lm RT F pm_X9_noted n) (1, ((4 : Nat) : Int), 0, 133, []) L st h := run_s rfl
theorem r_X9_noted_133 : run E g mi_X9_noted d lm RT F pm_X9_noted (n + 1) 133 L st h = exI E d lm RT F (run E g mi_X9_noted d lm RT F pm_X9_noted n) (38, 0, 0, 134, []) L st h := run_s rfl
theorem r_X9_noted_134 : run E g mi_X9_noted d lm RT F pm_X9_noted (n + 1) 134 L st h = exI E d lm RT F (run E g mi_X9_noted d lm RT F pm_X9_noted n) (31, 1, ((142 : Nat) : Int), 137, []) L st h := run_s rfl
theorem r_X9_noted_137 : run E g mi_X9_noted d lm RT F pm_X9_noted (n + 1) 137 L st h = exI E d lm RT F (run E g mi_X9_noted d lm RT F pm_X9_noted n) (0, (-9), 0, 139, []) L st h := run_s rfl
theorem r_X9_noted_139 : run E g mi_X9_noted d lm RT F pm_X9_noted (n + 1) 139 L st h = exI E d lm RT F (run E g mi_X9_noted d lm RT F pm_X9_noted n) (33, ((162 : Nat) : Int), 0, 0, []) L st h := run_s rfl
theorem r_X9_noted_142 : run E g mi_X9_noted d lm RT F pm_X9_noted (n + 1) 142 L st h = exI E d lm RT F (run E g mi_X9_noted d lm RT F pm_X9_noted n) (2, ((0 : Nat) : Int), 0, 143, []) L st h := run_s rfl
theorem r_X9_noted_143 : run E g mi_X9_noted d lm RT F pm_X9_noted (n + 1) 143 L st h = exI E d lm RT F (run E g mi_X9_noted d lm RT F pm_X9_noted n) (35, ((9 : Nat) : Int), ((31 : Nat) : Int), 146, []) L st h := run_s rfl
theorem r_X9_noted_146 : run E g mi_X9_noted d lm RT F pm_X9_noted (n + 1) 146 L st h = exI E d lm RT F (run E g mi_X9_noted d lm RT F pm_X9_noted n) (0, 8, 0, 148, []) L st h := run_s rfl
theorem r_X9_noted_148 : run E g mi_X9_noted d lm RT F pm_X9_noted (n + 1) 148 L st h = exI E d lm RT F (run E g mi_X9_noted d lm RT F pm_X9_noted n) (1, ((4 : Nat) : Int), 0, 150, []) L st h := run_s rfl
theorem r_X9_noted_150 : run E g mi_X9_noted d lm RT F pm_X9_noted (n + 1) 150 L st h = exI E d lm RT F (run E g mi_X9_noted d lm RT F pm_X9_noted n) (10, 0, 0, 151, []) L st h := run_s rfl
theorem r_X9_noted_151 : run E g mi_X9_noted d lm RT F pm_X9_noted (n + 1) 151 L st h = exI E d lm RT F (run E g mi_X9_noted d lm RT F pm_X9_noted n) (2, ((0 : Nat) : Int), 0, 152, []) L st h := run_s rfl
theorem r_X9_noted_152 : run E g mi_X9_noted d lm RT F pm_X9_noted (n + 1) 152 L st h = exI E d lm RT F (run E g mi_X9_noted d lm RT F pm_X9_noted n) (35, ((9 : Nat) : Int), ((30 : Nat) : Int), 155, []) L st h := run_s rfl
theorem r_X9_noted_155 : run E g mi_X9_noted d lm RT F pm_X9_noted (n + 1) 155 L st h = exI E d lm RT F (run E g mi_X9_noted d lm RT F pm_X9_noted n) (1, ((4 : Nat) : Int), 0, 157, []) L st h := run_s rfl
theorem r_X9_noted_157 : run E g mi_X9_noted d lm RT F pm_X9_noted (n + 1) 157 L st h = exI E d lm RT F (run E g mi_X9_noted d lm RT F pm_X9_noted n) (38, 0, 0, 158, []) L st h := run_s rfl
theorem r_X9_noted_158 : run E g mi_X9_noted d lm RT F pm_X9_noted (n + 1) 158 L st h = exI E d lm RT F (run E g mi_X9_noted d lm RT F pm_X9_noted n) (8, 0, 0, 159, []) L st h := run_s rfl
theorem r_X9_noted_159 : run E g mi_X9_noted d lm RT F pm_X9_noted (n + 1) 159 L st h = exI E d lm RT F (run E g mi_X9_noted d lm RT F pm_X9_noted n) (0, 1, 0, 160, []) L st h := run_s rfl
theorem r_X9_noted_160 : run E g mi_X9_noted d lm RT F pm_X9_noted (n + 1) 160 L st h = exI E d lm RT F (run E g mi_X9_noted d lm RT F pm_X9_noted n) (9, 0, 0, 161, []) L st h := run_s rfl
theorem r_X9_noted_161 : run E g mi_X9_noted d lm RT F pm_X9_noted (n + 1) 161 L st h = exI E d lm RT F (run E g mi_X9_noted d lm RT F pm_X9_noted n) (38, 0, 0, 162, []) L st h := run_s rfl
theorem r_X9_noted_162 : run E g mi_X9_noted d lm RT F pm_X9_noted (n + 1) 162 L st h = exI E d lm RT F (run E g mi_X9_noted d lm RT F pm_X9_noted n) (48, 0, 0, 0, []) L st h := run_s rfl
theorem r_X9_noted_163 : run E g mi_X9_noted d lm RT F pm_X9_noted (n + 1) 163 L st h = exI E d lm RT F (run E g mi_X9_noted d lm RT F pm_X9_noted n) (1, ((5 : Nat) : Int), 0, 165, []) L st h := run_s rfl
theorem r_X9_noted_165 : run E g mi_X9_noted d lm RT F pm_X9_noted (n + 1) 165 L st h = exI E d lm RT F (run E g mi_X9_noted d lm RT F pm_X9_noted n) (48, 0, 0, 0, []) L st h := run_s rfl
theorem e_X9_noted (n : Nat) {pc : Nat} (hF : FOk E d F) (hx : run E g mi_X9_noted d lm RT F pm_X9_noted n pc L st h) : G E g mi_X9_noted d lm RT pc L st h := run_sound hF pk_X9_noted n pc L st h hx
end
def mi_X9_findLearnt : MI := (9, cX9_findLearnt, 6, 0, false)
theorem mo_X9_findLearnt : miOk mi_X9_findLearnt (mt 138) = true := by decide +kernel
def tl_X9_findLearnt : List (Nat × PT) := [(0, (0, 1, 0, 1, [])),
  (1, (1, ((1 : Nat) : Int), 0, 2, [])),
  (2, (16, 0, 0, 3, [])),
  (3, (4, ((3 : Nat) : Int), 0, 4, [])),
  (4, (0, 0, 0, 5, [])),
  (5, (4, ((4 : Nat) : Int), 0, 7, [])),
  (7, (2, ((0 : Nat) : Int), 0, 8, [])),
  (8, (35, ((9 : Nat) : Int), ((32 : Nat) : Int), 11, [])),
  (11, (0, 0, 0, 12, [])),
  (12, (1, ((1 : Nat) : Int), 0, 13, [])),
  (13, (39, 0, 0, 14, [])),
  (14, (2, ((0 : Nat) : Int), 0, 15, [])),
  (15, (35, ((9 : Nat) : Int), ((32 : Nat) : Int), 18, [])),
  (18, (1, ((4 : Nat) : Int), 0, 20, [])),
  (20, (38, 0, 0, 21, [])),
  (21, (1, ((2 : Nat) : Int), 0, 22, [])),
  (22, (32, 0, ((91 : Nat) : Int), 25, [])),
  (25, (2, ((0 : Nat) : Int), 0, 26, [])),
  (26, (2, ((0 : Nat) : Int), 0, 27, [])),
  (27, (35, ((9 : Nat) : Int), ((32 : Nat) : Int), 30, [])),
  (30, (1, ((4 : Nat) : Int), 0, 32, [])),
  (32, (38, 0, 0, 33, [])),
  (33, (2, ((0 : Nat) : Int), 0, 34, [])),
  (34, (35, ((9 : Nat) : Int), ((32 : Nat) : Int), 37, [])),
  (37, (1, ((4 : Nat) : Int), 0, 39, [])),
  (39, (38, 0, 0, 40, [])),
  (40, (1, ((2 : Nat) : Int), 0, 41, [])),
  (41, (45, ((94 : Nat) : Int), ((2 : Nat) : Int), 44, [])),
  (44, (51, ((110 : Nat) : Int), ((3 : Nat) : Int), 47, [9])),
  (47, (4, ((5 : Nat) : Int), 0, 49, [])),
  (49, (1, ((5 : Nat) : Int), 0, 51, [])),
  (51, (0, (-9), 0, 53, [])),
  (53, (32, 0, ((66 : Nat) : Int), 56, [])),
  (56, (1, ((3 : Nat) : Int), 0, 57, [])),
  (57, (1, ((5 : Nat) : Int), 0, 59, [])),
  (59, (17, 0, 0, 60, [])),
  (60, (0, 1, 0, 61, [])),
  (61, (13, 0, 0, 62, [])),
  (62, (0, 1, 0, 63, [])),
  (63, (32, 1, ((69 : Nat) : Int), 66, [])),
  (66, (0, (-9), 0, 68, [])),
  (68, (48, 0, 0, 0, [])),
  (69, (1, ((3 : Nat) : Int), 0, 70, [])),
  (70, (0, 1, 0, 71, [])),
  (71, (1, ((5 : Nat) : Int), 0, 73, [])),
  (73, (16, 0, 0, 74, [])),
  (74, (14, 0, 0, 75, [])),
  (75, (4, ((3 : Nat) : Int), 0, 76, [])),
  (76, (7, ((4 : Nat) : Int), 1, 79, [])),
  (79, (2, ((0 : Nat) : Int), 0, 80, [])),
  (80, (35, ((9 : Nat) : Int), ((32 : Nat) : Int), 83, [])),
  (83, (1, ((4 : Nat) : Int), 0, 85, [])),
  (85, (1, ((5 : Nat) : Int), 0, 87, [])),
  (87, (39, 0, 0, 88, [])),
  (88, (33, ((14 : Nat) : Int), 0, 0, [])),
  (91, (1, ((4 : Nat) : Int), 0, 93, [])),
  (93, (48, 0, 0, 0, []))]
theorem tk_X9_findLearnt_0 : tOk mi_X9_findLearnt ((tl_X9_findLearnt.drop 0).take 45) = true := by decide +kernel
theorem tk_X9_findLearnt_1 : tOk mi_X9_findLearnt ((tl_X9_findLearnt.drop 45).take 45) = true := by decide +kernel
theorem tk_X9_findLearnt : tOk mi_X9_findLearnt tl_X9_findLearnt = true := by
  refine tOk_cut 45 (by decide) (fun q hq => ?_)
  have hl : tl_X9_findLearnt.length = 57 := by decide +kernel
  rw [hl] at hq
  rcases (show q = 0 ∨ q = 1 by omega) with rfl | rfl
  · exact tk_X9_findLearnt_0
  · exact tk_X9_findLearnt_1
def pm_X9_findLearnt (pc : Nat) : Option PT := if [14].contains pc then none else tl_X9_findLearnt.lookup pc
theorem pk_X9_findLearnt : ∀ pc pt, pm_X9_findLearnt pc = some pt → okPt mi_X9_findLearnt pc pt := fun pc pt h => tOk_pm tk_X9_findLearnt h
section
variable {E : ET} {g : GT} {d : Nat} {lm : Nat × Nat} {RT : RTy} {F : FT} {n : Nat} {L : LV} {st : List AV} {h : AH}
theorem r_X9_findLearnt_0 : run E g mi_X9_findLearnt d lm RT F pm_X9_findLearnt (n + 1) 0 L st h = exI E d lm RT F (run E g mi_X9_findLearnt d lm RT F pm_X9_findLearnt n) (0, 1, 0, 1, []) L st h := run_s rfl
theorem r_X9_findLearnt_1 : run E g mi_X9_findLearnt d lm RT F pm_X9_findLearnt (n + 1) 1 L st h = exI E d lm RT F (run E g mi_X9_findLearnt d lm RT F pm_X9_findLearnt n) (1, ((1 : Nat) : Int), 0, 2, []) L st h := run_s rfl
theorem r_X9_findLearnt_2 : run E g mi_X9_findLearnt d lm RT F pm_X9_findLearnt (n + 1) 2 L st h = exI E d lm RT F (run E g mi_X9_findLearnt d lm RT F pm_X9_findLearnt n) (16, 0, 0, 3, []) L st h := run_s rfl
theorem r_X9_findLearnt_3 : run E g mi_X9_findLearnt d lm RT F pm_X9_findLearnt (n + 1) 3 L st h = exI E d lm RT F (run E g mi_X9_findLearnt d lm RT F pm_X9_findLearnt n) (4, ((3 : Nat) : Int), 0, 4, []) L st h := run_s rfl
theorem r_X9_findLearnt_4 : run E g mi_X9_findLearnt d lm RT F pm_X9_findLearnt (n + 1) 4 L st h = exI E d lm RT F (run E g mi_X9_findLearnt d lm RT F pm_X9_findLearnt n) (0, 0, 0, 5, []) L st h := run_s rfl
theorem r_X9_findLearnt_5 : run E g mi_X9_findLearnt d lm RT F pm_X9_findLearnt (n + 1) 5 L st h = exI E d lm RT F (run E g mi_X9_findLearnt d lm RT F pm_X9_findLearnt n) (4, ((4 : Nat) : Int), 0, 7, []) L st h := run_s rfl
theorem r_X9_findLearnt_7 : run E g mi_X9_findLearnt d lm RT F pm_X9_findLearnt (n + 1) 7 L st h = exI E d lm RT F (run E g mi_X9_findLearnt d lm RT F pm_X9_findLearnt n) (2, ((0 : Nat) : Int), 0, 8, []) L st h := run_s rfl
theorem r_X9_findLearnt_8 : run E g mi_X9_findLearnt d lm RT F pm_X9_findLearnt (n + 1) 8 L st h = exI E d lm RT F (run E g mi_X9_findLearnt d lm RT F pm_X9_findLearnt n) (35, ((9 : Nat) : Int), ((32 : Nat) : Int), 11, []) L st h := run_s rfl
theorem r_X9_findLearnt_11 : run E g mi_X9_findLearnt d lm RT F pm_X9_findLearnt (n + 1) 11 L st h = exI E d lm RT F (run E g mi_X9_findLearnt d lm RT F pm_X9_findLearnt n) (0, 0, 0, 12, []) L st h := run_s rfl
theorem r_X9_findLearnt_12 : run E g mi_X9_findLearnt d lm RT F pm_X9_findLearnt (n + 1) 12 L st h = exI E d lm RT F (run E g mi_X9_findLearnt d lm RT F pm_X9_findLearnt n) (1, ((1 : Nat) : Int), 0, 13, []) L st h := run_s rfl
theorem r_X9_findLearnt_13 : run E g mi_X9_findLearnt d lm RT F pm_X9_findLearnt (n + 1) 13 L st h = exI E d lm RT F (run E g mi_X9_findLearnt d lm RT F pm_X9_findLearnt n) (39, 0, 0, 14, []) L st h := run_s rfl
theorem r_X9_findLearnt_14 : run E g mi_X9_findLearnt d lm RT F pm_X9_findLearnt (n + 1) 14 L st h = G E g mi_X9_findLearnt d lm RT 14 L st h := run_c rfl
theorem q_X9_findLearnt_14 (n : Nat) (hF : FOk E d F) (hx : exI E d lm RT F (run E g mi_X9_findLearnt d lm RT F pm_X9_findLearnt n) (2, ((0 : Nat) : Int), 0, 15, []) L st h) : G E g mi_X9_findLearnt d lm RT 14 L st h := sstep hF (tOk_spec tk_X9_findLearnt (by decide +kernel)) (run_sound hF pk_X9_findLearnt n) hx
theorem r_X9_findLearnt_15 : run E g mi_X9_findLearnt d lm RT F pm_X9_findLearnt (n + 1) 15 L st h = exI E d lm RT F (run E g mi_X9_findLearnt d lm RT F pm_X9_findLearnt n) (35, ((9 : Nat) : Int), ((32 : Nat) : Int), 18, []) L st h := run_s rfl
theorem r_X9_findLearnt_18 : run E g mi_X9_findLearnt d lm RT F pm_X9_findLearnt (n + 1) 18 L st h = exI E d lm RT F (run E g mi_X9_findLearnt d lm RT F pm_X9_findLearnt n) (1, ((4 : Nat) : Int), 0, 20, []) L st h := run_s rfl
theorem r_X9_findLearnt_20 : run E g mi_X9_findLearnt d lm RT F pm_X9_findLearnt (n + 1) 20 L st h = exI E d lm RT F (run E g mi_X9_findLearnt d lm RT F pm_X9_findLearnt n) (38, 0, 0, 21, []) L st h := run_s rfl
theorem r_X9_findLearnt_21 : run E g mi_X9_findLearnt d lm RT F pm_X9_findLearnt (n + 1) 21 L st h = exI E d lm RT F (run E g mi_X9_findLearnt d lm RT F pm_X9_findLearnt n) (1, ((2 : Nat) : Int), 0, 22, []) L st h := run_s rfl
theorem r_X9_findLearnt_22 : run E g mi_X9_findLearnt d lm RT F pm_X9_findLearnt (n + 1) 22 L st h = exI E d lm RT F (run E g mi_X9_findLearnt d lm RT F pm_X9_findLearnt n) (32, 0, ((91 : Nat) : Int), 25, []) L st h := run_s rfl
theorem r_X9_findLearnt_25 : run E g mi_X9_findLearnt d lm RT F pm_X9_findLearnt (n + 1) 25 L st h = exI E d lm RT F (run E g mi_X9_findLearnt d lm RT F pm_X9_findLearnt n) (2, ((0 : Nat) : Int), 0, 26, []) L st h := run_s rfl
theorem r_X9_findLearnt_26 : run E g mi_X9_findLearnt d lm RT F pm_X9_findLearnt (n + 1) 26 L st h = exI E d lm RT F (run E g mi_X9_findLearnt d lm RT F pm_X9_findLearnt n) (2, ((0 : Nat) : Int), 0, 27, []) L st h := run_s rfl
theorem r_X9_findLearnt_27 : run E g mi_X9_findLearnt d lm RT F pm_X9_findLearnt (n + 1) 27 L st h = exI E d lm RT F (run E g mi_X9_findLearnt d lm RT F pm_X9_findLearnt n) (35, ((9 : Nat) : Int), ((32 : Nat) : Int), 30, []) L st h := run_s rfl
theorem r_X9_findLearnt_30 : run E g mi_X9_findLearnt d lm RT F pm_X9_findLearnt (n + 1) 30 L st h = exI E d lm RT F (run E g mi_X9_findLearnt d lm RT F pm_X9_findLearnt n) (1, ((4 : Nat) : Int), 0, 32, []) L st h := run_s rfl
theorem r_X9_findLearnt_32 : run E g mi_X9_findLearnt d lm RT F pm_X9_findLearnt (n + 1) 32 L st h = exI E d lm RT F (run E g mi_X9_findLearnt d lm RT F pm_X9_findLearnt n) (38, 0, 0, 33, []) L st h := run_s rfl
theorem r_X9_findLearnt_33 : run E g mi_X9_findLearnt d lm RT F pm_X9_findLearnt (n + 1) 33 L st h = exI E d lm RT F (run E g mi_X9_findLearnt d lm RT F pm_X9_findLearnt n) (2, ((0 : Nat) : Int), 0, 34, []) L st h := run_s rfl
theorem r_X9_findLearnt_34 : run E g mi_X9_findLearnt d lm RT F pm_X9_findLearnt (n + 1) 34 L st h = exI E d lm RT F (run E g mi_X9_findLearnt d lm RT F pm_X9_findLearnt n) (35, ((9 : Nat) : Int), ((32 : Nat) : Int), 37, []) L st h := run_s rfl
theorem r_X9_findLearnt_37 : run E g mi_X9_findLearnt d lm RT F pm_X9_findLearnt (n + 1) 37 L st h = exI E d lm RT F (run E g mi_X9_findLearnt d lm RT F pm_X9_findLearnt n) (1, ((4 : Nat) : Int), 0, 39, []) L st h := run_s rfl
theorem r_X9_findLearnt_39 : run E g mi_X9_findLearnt d lm RT F pm_X9_findLearnt (n + 1) 39 L st h = exI E d lm RT F (run E g mi_X9_findLearnt d lm RT F pm_X9_findLearnt n) (38, 0, 0, 40, []) L st h := run_s rfl
theorem r_X9_findLearnt_40 : run E g mi_X9_findLearnt d lm RT F pm_X9_findLearnt (n + 1) 40 L st h = exI E d lm RT F (run E g mi_X9_findLearnt d lm RT F pm_X9_findLearnt n) (1, ((2 : Nat) : Int), 0, 41, []) L st h := run_s rfl
theorem r_X9_findLearnt_41 : run E g mi_X9_findLearnt d lm RT F pm_X9_findLearnt (n + 1) 41 L st h = exI E d lm RT F (run E g mi_X9_findLearnt d lm RT F pm_X9_findLearnt n) (45, ((94 : Nat) : Int), ((2 : Nat) : Int), 44, []) L st h := run_s rfl
theorem r_X9_findLearnt_44 : run E g mi_X9_findLearnt d lm RT F pm_X9_findLearnt (n + 1) 44 L st h = exI E d lm RT F (run E g mi_X9_findLearnt d lm RT F pm_X9_findLearnt n) (51, ((110 : Nat) : Int), ((3 : Nat) : Int), 47, [9]) L st h := run_s rfl
theorem r_X9_findLearnt_47 : run E g mi_X9_findLearnt d lm RT F pm_X9_findLearnt (n + 1) 47 L st h = exI E d lm RT F (run E g mi_X9_findLearnt d lm RT F pm_X9_findLearnt n) (4, ((5 : Nat) : Int), 0, 49, []) L st h := run_s rfl
theorem r_X9_findLearnt_49 : run E g mi_X9_findLearnt d lm RT F pm_X9_findLearnt (n + 1) 49 L st h = exI E d lm RT F (run E g mi_X9_findLearnt d lm RT F pm_X9_findLearnt n) (1, ((5 : Nat) : Int), 0, 51, []) L st h := run_s rfl
theorem r_X9_findLearnt_51 : run E g mi_X9_findLearnt d lm RT F pm_X9_findLearnt (n + 1) 51 L st h = exI E d lm RT F (run E g mi_X9_findLearnt d lm RT F pm_X9_findLearnt n) (0, (-9), 0, 53, []) L st h := run_s rfl
theorem r_X9_findLearnt_53 : run E g mi_X9_findLearnt d lm RT F pm_X9_findLearnt (n + 1) 53 L st h = exI E d lm RT F (run E g mi_X9_findLearnt d lm RT F pm_X9_findLearnt n) (32, 0, ((66 : Nat) : Int), 56, []) L st h := run_s rfl
theorem r_X9_findLearnt_56 : run E g mi_X9_findLearnt d lm RT F pm_X9_findLearnt (n + 1) 56 L st h = exI E d lm RT F (run E g mi_X9_findLearnt d lm RT F pm_X9_findLearnt n) (1, ((3 : Nat) : Int), 0, 57, []) L st h := run_s rfl
theorem r_X9_findLearnt_57 : run E g mi_X9_findLearnt d lm RT F pm_X9_findLearnt (n + 1) 57 L st h = exI E d lm RT F (run E g mi_X9_findLearnt d lm RT F pm_X9_findLearnt n) (1, ((5 : Nat) : Int), 0, 59, []) L st h := run_s rfl
theorem r_X9_findLearnt_59 : run E g mi_X9_findLearnt d lm RT F pm_X9_findLearnt (n + 1) 59 L st h = exI E d lm RT F (run E g mi_X9_findLearnt d lm RT F pm_X9_findLearnt n) (17, 0, 0, 60, []) L st h := run_s rfl
theorem r_X9_findLearnt_60 : run E g mi_X9_findLearnt d lm RT F pm_X9_findLearnt (n + 1) 60 L st h = exI E d lm RT F (run E g mi_X9_findLearnt d lm RT F pm_X9_findLearnt n) (0, 1, 0, 61, []) L st h := run_s rfl
theorem r_X9_findLearnt_61 : run E g mi_X9_findLearnt d lm RT F pm_X9_findLearnt (n + 1) 61 L st h = exI E d lm RT F (run E g mi_X9_findLearnt d lm RT F pm_X9_findLearnt n) (13, 0, 0, 62, []) L st h := run_s rfl
theorem r_X9_findLearnt_62 : run E g mi_X9_findLearnt d lm RT F pm_X9_findLearnt (n + 1) 62 L st h = exI E d lm RT F (run E g mi_X9_findLearnt d lm RT F pm_X9_findLearnt n) (0, 1, 0, 63, []) L st h := run_s rfl
theorem r_X9_findLearnt_63 : run E g mi_X9_findLearnt d lm RT F pm_X9_findLearnt (n + 1) 63 L st h = exI E d lm RT F (run E g mi_X9_findLearnt d lm RT F pm_X9_findLearnt n) (32, 1, ((69 : Nat) : Int), 66, []) L st h := run_s rfl
theorem r_X9_findLearnt_66 : run E g mi_X9_findLearnt d lm RT F pm_X9_findLearnt (n + 1) 66 L st h = exI E d lm RT F (run E g mi_X9_findLearnt d lm RT F pm_X9_findLearnt n) (0, (-9), 0, 68, []) L st h := run_s rfl
theorem r_X9_findLearnt_68 : run E g mi_X9_findLearnt d lm RT F pm_X9_findLearnt (n + 1) 68 L st h = exI E d lm RT F (run E g mi_X9_findLearnt d lm RT F pm_X9_findLearnt n) (48, 0, 0, 0, []) L st h := run_s rfl
theorem r_X9_findLearnt_69 : run E g mi_X9_findLearnt d lm RT F pm_X9_findLearnt (n + 1) 69 L st h = exI E d lm RT F (run E g mi_X9_findLearnt d lm RT F pm_X9_findLearnt n) (1, ((3 : Nat) : Int), 0, 70, []) L st h := run_s rfl
theorem r_X9_findLearnt_70 : run E g mi_X9_findLearnt d lm RT F pm_X9_findLearnt (n + 1) 70 L st h = exI E d lm RT F (run E g mi_X9_findLearnt d lm RT F pm_X9_findLearnt n) (0, 1, 0, 71, []) L st h := run_s rfl
theorem r_X9_findLearnt_71 : run E g mi_X9_findLearnt d lm RT F pm_X9_findLearnt (n + 1) 71 L st h = exI E d lm RT F (run E g mi_X9_findLearnt d lm RT F pm_X9_findLearnt n) (1, ((5 : Nat) : Int), 0, 73, []) L st h := run_s rfl
theorem r_X9_findLearnt_73 : run E g mi_X9_findLearnt d lm RT F pm_X9_findLearnt (n + 1) 73 L st h = exI E d lm RT F (run E g mi_X9_findLearnt d lm RT F pm_X9_findLearnt n) (16, 0, 0, 74, []) L st h := run_s rfl
theorem r_X9_findLearnt_74 : run E g mi_X9_findLearnt d lm RT F pm_X9_findLearnt (n + 1) 74 L st h = exI E d lm RT F (run E g mi_X9_findLearnt d lm RT F pm_X9_findLearnt n) (14, 0, 0, 75, []) L st h := run_s rfl
theorem r_X9_findLearnt_75 : run E g mi_X9_findLearnt d lm RT F pm_X9_findLearnt (n + 1) 75 L st h = exI E d lm RT F (run E g mi_X9_findLearnt d lm RT F pm_X9_findLearnt n) (4, ((3 : Nat) : Int), 0, 76, []) L st h := run_s rfl
theorem r_X9_findLearnt_76 : run E g mi_X9_findLearnt d lm RT F pm_X9_findLearnt (n + 1) 76 L st h = exI E d lm RT F (run E g mi_X9_findLearnt d lm RT F pm_X9_findLearnt n) (7, ((4 : Nat) : Int), 1, 79, []) L st h := run_s rfl
theorem r_X9_findLearnt_79 : run E g mi_X9_findLearnt d lm RT F pm_X9_findLearnt (n + 1) 79 L st h = exI E d lm RT F (run E g mi_X9_findLearnt d lm RT F pm_X9_findLearnt n) (2, ((0 : Nat) : Int), 0, 80, []) L st h := run_s rfl
theorem r_X9_findLearnt_80 : run E g mi_X9_findLearnt d lm RT F pm_X9_findLearnt (n + 1) 80 L st h = exI E d lm RT F (run E g mi_X9_findLearnt d lm RT F pm_X9_findLearnt n) (35, ((9 : Nat) : Int), ((32 : Nat) : Int), 83, []) L st h := run_s rfl
theorem r_X9_findLearnt_83 : run E g mi_X9_findLearnt d lm RT F pm_X9_findLearnt (n + 1) 83 L st h = exI E d lm RT F (run E g mi_X9_findLearnt d lm RT F pm_X9_findLearnt n) (1, ((4 : Nat) : Int), 0, 85, []) L st h := run_s rfl
theorem r_X9_findLearnt_85 : run E g mi_X9_findLearnt d lm RT F pm_X9_findLearnt (n + 1) 85 L st h = exI E d lm RT F (run E g mi_X9_findLearnt d lm RT F pm_X9_findLearnt n) (1, ((5 : Nat) : Int), 0, 87, []) L st h := run_s rfl
theorem r_X9_findLearnt_87 : run E g mi_X9_findLearnt d lm RT F pm_X9_findLearnt (n + 1) 87 L st h = exI E d lm RT F (run E g mi_X9_findLearnt d lm RT F pm_X9_findLearnt n) (39, 0, 0, 88, []) L st h := run_s rfl
theorem r_X9_findLearnt_88 : run E g mi_X9_findLearnt d lm RT F pm_X9_findLearnt (n + 1) 88 L st h = exI E d lm RT F (run E g mi_X9_findLearnt d lm RT F pm_X9_findLearnt n) (33, ((14 : Nat) : Int), 0, 0, []) L st h := run_s rfl
theorem r_X9_findLearnt_91 : run E g mi_X9_findLearnt d lm RT F pm_X9_findLearnt (n + 1) 91 L st h = exI E d lm RT F (run E g mi_X9_findLearnt d lm RT F pm_X9_findLearnt n) (1, ((4 : Nat) : Int), 0, 93, []) L st h := run_s rfl
theorem r_X9_findLearnt_93 : run E g mi_X9_findLearnt d lm RT F pm_X9_findLearnt (n + 1) 93 L st h = exI E d lm RT F (run E g mi_X9_findLearnt d lm RT F pm_X9_findLearnt n) (48, 0, 0, 0, []) L st h := run_s rfl
theorem e_X9_findLearnt (n : Nat) {pc : Nat} (hF : FOk E d F) (hx : run E g mi_X9_findLearnt d lm RT F pm_X9_findLearnt n pc L st h) : G E g mi_X9_findLearnt d lm RT pc L st h := run_sound hF pk_X9_findLearnt n pc L st h hx
end
def mi_X9_learnt : MI := (9, cX9_learnt, 8, 0, false)
theorem mo_X9_learnt : miOk mi_X9_learnt (mt 139) = true := by decide +kernel
def tl_X9_learnt : List (Nat × PT) := [(0, (1, ((1 : Nat) : Int), 0, 1, [])),
  (1, (45, ((91 : Nat) : Int), ((1 : Nat) : Int), 4, [])),
  (4, (31, 0, ((14 : Nat) : Int), 7, [])),
  (7, (1, ((2 : Nat) : Int), 0, 8, [])),
  (8, (45, ((91 : Nat) : Int), ((1 : Nat) : Int), 11, [])),
  (11, (31, 1, ((16 : Nat) : Int), 14, [])),
  (14, (0, (-1), 0, 15, [])),
  (15, (48, 0, 0, 0, [])),
  (16, (1, ((3 : Nat) : Int), 0, 17, [])),
  (17, (0, 0, 0, 18, [])),
  (18, (0, 2, 0, 19, [])),
  (19, (45, ((90 : Nat) : Int), ((3 : Nat) : Int), 22, [])),
  (22, (31, 1, ((39 : Nat) : Int), 25, [])),
  (25, (1, ((3 : Nat) : Int), 0, 26, [])),
  (26, (0, 10, 0, 28, [])),
  (28, (0, 17, 0, 30, [])),
  (30, (45, ((90 : Nat) : Int), ((3 : Nat) : Int), 33, [])),
  (33, (31, 1, ((39 : Nat) : Int), 36, [])),
  (36, (0, (-2), 0, 38, [])),
  (38, (48, 0, 0, 0, [])),
  (39, (1, ((1 : Nat) : Int), 0, 40, [])),
  (40, (1, ((2 : Nat) : Int), 0, 41, [])),
  (41, (32, 1, ((47 : Nat) : Int), 44, [])),
  (44, (0, (-3), 0, 46, [])),
  (46, (48, 0, 0, 0, [])),
  (47, (2, ((0 : Nat) : Int), 0, 48, [])),
  (48, (1, ((1 : Nat) : Int), 0, 49, [])),
  (49, (1, ((2 : Nat) : Int), 0, 50, [])),
  (50, (51, ((138 : Nat) : Int), ((3 : Nat) : Int), 53, [9])),
  (53, (4, ((4 : Nat) : Int), 0, 55, [])),
  (55, (1, ((4 : Nat) : Int), 0, 57, [])),
  (57, (0, (-9), 0, 59, [])),
  (59, (32, 0, ((71 : Nat) : Int), 62, [])),
  (62, (1, ((3 : Nat) : Int), 0, 63, [])),
  (63, (0, 10, 0, 65, [])),
  (65, (1, ((4 : Nat) : Int), 0, 67, [])),
  (67, (8, 0, 0, 68, [])),
  (68, (32, 5, ((74 : Nat) : Int), 71, [])),
  (71, (0, (-9), 0, 73, [])),
  (73, (48, 0, 0, 0, [])),
  (74, (0, 0, 0, 75, [])),
  (75, (4, ((5 : Nat) : Int), 0, 77, [])),
  (77, (0, 1, 0, 78, [])),
  (78, (1, ((1 : Nat) : Int), 0, 79, [])),
  (79, (16, 0, 0, 80, [])),
  (80, (4, ((6 : Nat) : Int), 0, 82, [])),
  (82, (0, 0, 0, 83, [])),
  (83, (4, ((7 : Nat) : Int), 0, 85, [])),
  (85, (1, ((7 : Nat) : Int), 0, 87, [])),
  (87, (1, ((4 : Nat) : Int), 0, 89, [])),
  (89, (32, 3, ((149 : Nat) : Int), 92, [])),
  (92, (1, ((5 : Nat) : Int), 0, 94, [])),
  (94, (2, ((0 : Nat) : Int), 0, 95, [])),
  (95, (35, ((9 : Nat) : Int), ((3 : Nat) : Int), 98, [])),
  (98, (2, ((0 : Nat) : Int), 0, 99, [])),
  (99, (35, ((9 : Nat) : Int), ((4 : Nat) : Int), 102, [])),
  (102, (0, 8, 0, 104, [])),
  (104, (2, ((0 : Nat) : Int), 0, 105, [])),
  (105, (35, ((9 : Nat) : Int), ((32 : Nat) : Int), 108, [])),
  (108, (1, ((7 : Nat) : Int), 0, 110, [])),
  (110, (38, 0, 0, 111, [])),
  (111, (10, 0, 0, 112, [])),
  (112, (2, ((0 : Nat) : Int), 0, 113, [])),
  (113, (35, ((9 : Nat) : Int), ((32 : Nat) : Int), 116, [])),
  (116, (1, ((7 : Nat) : Int), 0, 118, [])),
  (118, (0, 1, 0, 119, [])),
  (119, (8, 0, 0, 120, [])),
  (120, (38, 0, 0, 121, [])),
  (121, (8, 0, 0, 122, [])),
  (122, (38, 0, 0, 123, [])),
  (123, (38, 0, 0, 124, [])),
  (124, (8, 0, 0, 125, [])),
  (125, (4, ((5 : Nat) : Int), 0, 127, [])),
  (127, (1, ((6 : Nat) : Int), 0, 129, [])),
  (129, (0, 1, 0, 130, [])),
  (130, (2, ((0 : Nat) : Int), 0, 131, [])),
  (131, (35, ((9 : Nat) : Int), ((32 : Nat) : Int), 134, [])),
  (134, (1, ((7 : Nat) : Int), 0, 136, [])),
  (136, (0, 1, 0, 137, [])),
  (137, (8, 0, 0, 138, [])),
  (138, (38, 0, 0, 139, [])),
  (139, (16, 0, 0, 140, [])),
  (140, (14, 0, 0, 141, [])),
  (141, (4, ((6 : Nat) : Int), 0, 143, [])),
  (143, (7, ((7 : Nat) : Int), 1, 146, [])),
  (146, (33, ((85 : Nat) : Int), 0, 0, [])),
  (149, (1, ((3 : Nat) : Int), 0, 150, [])),
  (150, (31, 1, ((158 : Nat) : Int), 153, [])),
  (153, (1, ((5 : Nat) : Int), 0, 155, [])),
  (155, (33, ((187 : Nat) : Int), 0, 0, [])),
  (158, (1, ((3 : Nat) : Int), 0, 159, [])),
  (159, (0, 1, 0, 160, [])),
  (160, (32, 1, ((168 : Nat) : Int), 163, [])),
  (163, (1, ((4 : Nat) : Int), 0, 165, [])),
  (165, (33, ((187 : Nat) : Int), 0, 0, [])),
  (168, (1, ((3 : Nat) : Int), 0, 169, [])),
  (169, (0, 2, 0, 170, [])),
  (170, (32, 1, ((178 : Nat) : Int), 173, [])),
  (173, (1, ((6 : Nat) : Int), 0, 175, [])),
  (175, (33, ((187 : Nat) : Int), 0, 0, [])),
  (178, (2, ((0 : Nat) : Int), 0, 179, [])),
  (179, (35, ((9 : Nat) : Int), ((32 : Nat) : Int), 182, [])),
  (182, (1, ((3 : Nat) : Int), 0, 183, [])),
  (183, (0, 10, 0, 185, [])),
  (185, (9, 0, 0, 186, [])),
  (186, (38, 0, 0, 187, [])),
  (187, (48, 0, 0, 0, []))]
theorem tk_X9_learnt_0 : tOk mi_X9_learnt ((tl_X9_learnt.drop 0).take 45) = true := by decide +kernel
theorem tk_X9_learnt_1 : tOk mi_X9_learnt ((tl_X9_learnt.drop 45).take 45) = true := by decide +kernel
theorem tk_X9_learnt_2 : tOk mi_X9_learnt ((tl_X9_learnt.drop 90).take 45) = true := by decide +kernel
theorem tk_X9_learnt : tOk mi_X9_learnt tl_X9_learnt = true := by
  refine tOk_cut 45 (by decide) (fun q hq => ?_)
  have hl : tl_X9_learnt.length = 107 := by decide +kernel
  rw [hl] at hq
  rcases (show q = 0 ∨ q = 1 ∨ q = 2 by omega) with rfl | rfl | rfl
  · exact tk_X9_learnt_0
  · exact tk_X9_learnt_1
  · exact tk_X9_learnt_2
def pm_X9_learnt (pc : Nat) : Option PT := if [85].contains pc then none else tl_X9_learnt.lookup pc
theorem pk_X9_learnt : ∀ pc pt, pm_X9_learnt pc = some pt → okPt mi_X9_learnt pc pt := fun pc pt h => tOk_pm tk_X9_learnt h
section
variable {E : ET} {g : GT} {d : Nat} {lm : Nat × Nat} {RT : RTy} {F : FT} {n : Nat} {L : LV} {st : List AV} {h : AH}
theorem r_X9_learnt_0 : run E g mi_X9_learnt d lm RT F pm_X9_learnt (n + 1) 0 L st h = exI E d lm RT F (run E g mi_X9_learnt d lm RT F pm_X9_learnt n) (1, ((1 : Nat) : Int), 0, 1, []) L st h := run_s rfl
theorem r_X9_learnt_1 : run E g mi_X9_learnt d lm RT F pm_X9_learnt (n + 1) 1 L st h = exI E d lm RT F (run E g mi_X9_learnt d lm RT F pm_X9_learnt n) (45, ((91 : Nat) : Int), ((1 : Nat) : Int), 4, []) L st h := run_s rfl
theorem r_X9_learnt_4 : run E g mi_X9_learnt d lm RT F pm_X9_learnt (n + 1) 4 L st h = exI E d lm RT F (run E g mi_X9_learnt d lm RT F pm_X9_learnt n) (31, 0, ((14 : Nat) : Int), 7, []) L st h := run_s rfl
theorem r_X9_learnt_7 : run E g mi_X9_learnt d lm RT F pm_X9_learnt (n + 1) 7 L st h = exI E d lm RT F (run E g mi_X9_learnt d lm RT F pm_X9_learnt n) (1, ((2 : Nat) : Int), 0, 8, []) L st h := run_s rfl
theorem r_X9_learnt_8 : run E g mi_X9_learnt d lm RT F pm_X9_learnt (n + 1) 8 L st h = exI E d lm RT F (run E g mi_X9_learnt d lm RT F pm_X9_learnt n) (45, ((91 : Nat) : Int), ((1 : Nat) : Int), 11, []) L st h := run_s rfl
theorem r_X9_learnt_11 : run E g mi_X9_learnt d lm RT F pm_X9_learnt (n + 1) 11 L st h = exI E d lm RT F (run E g mi_X9_learnt d lm RT F pm_X9_learnt n) (31, 1, ((16 : Nat) : Int), 14, []) L st h := run_s rfl
theorem r_X9_learnt_14 : run E g mi_X9_learnt d lm RT F pm_X9_learnt (n + 1) 14 L st h = exI E d lm RT F (run E g mi_X9_learnt d lm RT F pm_X9_learnt n) (0, (-1), 0, 15, []) L st h := run_s rfl
theorem r_X9_learnt_15 : run E g mi_X9_learnt d lm RT F pm_X9_learnt (n + 1) 15 L st h = exI E d lm RT F (run E g mi_X9_learnt d lm RT F pm_X9_learnt n) (48, 0, 0, 0, []) L st h := run_s rfl
theorem r_X9_learnt_16 : run E g mi_X9_learnt d lm RT F pm_X9_learnt (n + 1) 16 L st h = exI E d lm RT F (run E g mi_X9_learnt d lm RT F pm_X9_learnt n) (1, ((3 : Nat) : Int), 0, 17, []) L st h := run_s rfl
theorem r_X9_learnt_17 : run E g mi_X9_learnt d lm RT F pm_X9_learnt (n + 1) 17 L st h = exI E d lm RT F (run E g mi_X9_learnt d lm RT F pm_X9_learnt n) (0, 0, 0, 18, []) L st h := run_s rfl
theorem r_X9_learnt_18 : run E g mi_X9_learnt d lm RT F pm_X9_learnt (n + 1) 18 L st h = exI E d lm RT F (run E g mi_X9_learnt d lm RT F pm_X9_learnt n) (0, 2, 0, 19, []) L st h := run_s rfl
theorem r_X9_learnt_19 : run E g mi_X9_learnt d lm RT F pm_X9_learnt (n + 1) 19 L st h = exI E d lm RT F (run E g mi_X9_learnt d lm RT F pm_X9_learnt n) (45, ((90 : Nat) : Int), ((3 : Nat) : Int), 22, []) L st h := run_s rfl
theorem r_X9_learnt_22 : run E g mi_X9_learnt d lm RT F pm_X9_learnt (n + 1) 22 L st h = exI E d lm RT F (run E g mi_X9_learnt d lm RT F pm_X9_learnt n) (31, 1, ((39 : Nat) : Int), 25, []) L st h := run_s rfl
theorem r_X9_learnt_25 : run E g mi_X9_learnt d lm RT F pm_X9_learnt (n + 1) 25 L st h = exI E d lm RT F (run E g mi_X9_learnt d lm RT F pm_X9_learnt n) (1, ((3 : Nat) : Int), 0, 26, []) L st h := run_s rfl
theorem r_X9_learnt_26 : run E g mi_X9_learnt d lm RT F pm_X9_learnt (n + 1) 26 L st h = exI E d lm RT F (run E g mi_X9_learnt d lm RT F pm_X9_learnt n) (0, 10, 0, 28, []) L st h := run_s rfl
theorem r_X9_learnt_28 : run E g mi_X9_learnt d lm RT F pm_X9_learnt (n + 1) 28 L st h = exI E d lm RT F (run E g mi_X9_learnt d lm RT F pm_X9_learnt n) (0, 17, 0, 30, []) L st h := run_s rfl
theorem r_X9_learnt_30 : run E g mi_X9_learnt d lm RT F pm_X9_learnt (n + 1) 30 L st h = exI E d lm RT F (run E g mi_X9_learnt d lm RT F pm_X9_learnt n) (45, ((90 : Nat) : Int), ((3 : Nat) : Int), 33, []) L st h := run_s rfl
theorem r_X9_learnt_33 : run E g mi_X9_learnt d lm RT F pm_X9_learnt (n + 1) 33 L st h = exI E d lm RT F (run E g mi_X9_learnt d lm RT F pm_X9_learnt n) (31, 1, ((39 : Nat) : Int), 36, []) L st h := run_s rfl
theorem r_X9_learnt_36 : run E g mi_X9_learnt d lm RT F pm_X9_learnt (n + 1) 36 L st h = exI E d lm RT F (run E g mi_X9_learnt d lm RT F pm_X9_learnt n) (0, (-2), 0, 38, []) L st h := run_s rfl
theorem r_X9_learnt_38 : run E g mi_X9_learnt d lm RT F pm_X9_learnt (n + 1) 38 L st h = exI E d lm RT F (run E g mi_X9_learnt d lm RT F pm_X9_learnt n) (48, 0, 0, 0, []) L st h := run_s rfl
theorem r_X9_learnt_39 : run E g mi_X9_learnt d lm RT F pm_X9_learnt (n + 1) 39 L st h = exI E d lm RT F (run E g mi_X9_learnt d lm RT F pm_X9_learnt n) (1, ((1 : Nat) : Int), 0, 40, []) L st h := run_s rfl
theorem r_X9_learnt_40 : run E g mi_X9_learnt d lm RT F pm_X9_learnt (n + 1) 40 L st h = exI E d lm RT F (run E g mi_X9_learnt d lm RT F pm_X9_learnt n) (1, ((2 : Nat) : Int), 0, 41, []) L st h := run_s rfl
theorem r_X9_learnt_41 : run E g mi_X9_learnt d lm RT F pm_X9_learnt (n + 1) 41 L st h = exI E d lm RT F (run E g mi_X9_learnt d lm RT F pm_X9_learnt n) (32, 1, ((47 : Nat) : Int), 44, []) L st h := run_s rfl
theorem r_X9_learnt_44 : run E g mi_X9_learnt d lm RT F pm_X9_learnt (n + 1) 44 L st h = exI E d lm RT F (run E g mi_X9_learnt d lm RT F pm_X9_learnt n) (0, (-3), 0, 46, []) L st h := run_s rfl
theorem r_X9_learnt_46 : run E g mi_X9_learnt d lm RT F pm_X9_learnt (n + 1) 46 L st h = exI E d lm RT F (run E g mi_X9_learnt d lm RT F pm_X9_learnt n) (48, 0, 0, 0, []) L st h := run_s rfl
theorem r_X9_learnt_47 : run E g mi_X9_learnt d lm RT F pm_X9_learnt (n + 1) 47 L st h = exI E d lm RT F (run E g mi_X9_learnt d lm RT F pm_X9_learnt n) (2, ((0 : Nat) : Int), 0, 48, []) L st h := run_s rfl
theorem r_X9_learnt_48 : run E g mi_X9_learnt d lm RT F pm_X9_learnt (n + 1) 48 L st h = exI E d lm RT F (run E g mi_X9_learnt d lm RT F pm_X9_learnt n) (1, ((1 : Nat) : Int), 0, 49, []) L st h := run_s rfl
theorem r_X9_learnt_49 : run E g mi_X9_learnt d lm RT F pm_X9_learnt (n + 1) 49 L st h = exI E d lm RT F (run E g mi_X9_learnt d lm RT F pm_X9_learnt n) (1, ((2 : Nat) : Int), 0, 50, []) L st h := run_s rfl
theorem r_X9_learnt_50 : run E g mi_X9_learnt d lm RT F pm_X9_learnt (n + 1) 50 L st h = exI E d lm RT F (run E g mi_X9_learnt d lm RT F pm_X9_learnt n) (51, ((138 : Nat) : Int), ((3 : Nat) : Int), 53, [9]) L st h := run_s rfl
theorem r_X9_learnt_53 : run E g mi_X9_learnt d lm RT F pm_X9_learnt (n + 1) 53 L st h = exI E d lm RT F (run E g mi_X9_learnt d lm RT F pm_X9_learnt n) (4, ((4 : Nat) : Int), 0, 55, []) L st h := run_s rfl
theorem r_X9_learnt_55 : run E g mi_X9_learnt d lm RT F pm_X9_learnt (n + 1) 55 L st h = exI E d lm RT F (run E g mi_X9_learnt d lm RT F pm_X9_learnt n) (1, ((4 : Nat) : Int), 0, 57, []) L st h := run_s rfl
theorem r_X9_learnt_57 : run E g mi_X9_learnt d lm RT F pm_X9_learnt (n + 1) 57 L st h = exI E d lm RT F (run E g mi_X9_learnt d lm RT F pm_X9_learnt n) (0, (-9), 0, 59, []) L st h := run_s rfl
theorem r_X9_learnt_59 : run E g mi_X9_learnt d lm RT F pm_X9_learnt (n + 1) 59 L st h = exI E d lm RT F (run E g mi_X9_learnt d lm RT F pm_X9_learnt n) (32, 0, ((71 : Nat) : Int), 62, []) L st h := run_s rfl
theorem r_X9_learnt_62 : run E g mi_X9_learnt d lm RT F pm_X9_learnt (n + 1) 62 L st h = exI E d lm RT F (run E g mi_X9_learnt d lm RT F pm_X9_learnt n) (1, ((3 : Nat) : Int), 0, 63, []) L st h := run_s rfl
theorem r_X9_learnt_63 : run E g mi_X9_learnt d lm RT F pm_X9_learnt (n + 1) 63 L st h = exI E d lm RT F (run E g mi_X9_learnt d lm RT F pm_X9_learnt n) (0, 10, 0, 65, []) L st h := run_s rfl
theorem r_X9_learnt_65 : run E g mi_X9_learnt d lm RT F pm_X9_learnt (n + 1) 65 L st h = exI E d lm RT F (run E g mi_X9_learnt d lm RT F pm_X9_learnt n) (1, ((4 : Nat) : Int), 0, 67, []) L st h := run_s rfl
theorem r_X9_learnt_67 : run E g mi_X9_learnt d lm RT F pm_X9_learnt (n + 1) 67 L st h = exI E d lm RT F (run E g mi_X9_learnt d lm RT F pm_X9_learnt n) (8, 0, 0, 68, []) L st h := run_s rfl
theorem r_X9_learnt_68 : run E g mi_X9_learnt d lm RT F pm_X9_learnt (n + 1) 68 L st h = exI E d lm RT F (run E g mi_X9_learnt d lm RT F pm_X9_learnt n) (32, 5, ((74 : Nat) : Int), 71, []) L st h := run_s rfl
theorem r_X9_learnt_71 : run E g mi_X9_learnt d lm RT F pm_X9_learnt (n + 1) 71 L st h = exI E d lm RT F (run E g mi_X9_learnt d lm RT F pm_X9_learnt n) (0, (-9), 0, 73, []) L st h := run_s rfl
theorem r_X9_learnt_73 : run E g mi_X9_learnt d lm RT F pm_X9_learnt (n + 1) 73 L st h = exI E d lm RT F (run E g mi_X9_learnt d lm RT F pm_X9_learnt n) (48, 0, 0, 0, []) L st h := run_s rfl
theorem r_X9_learnt_74 : run E g mi_X9_learnt d lm RT F pm_X9_learnt (n + 1) 74 L st h = exI E d lm RT F (run E g mi_X9_learnt d lm RT F pm_X9_learnt n) (0, 0, 0, 75, []) L st h := run_s rfl
theorem r_X9_learnt_75 : run E g mi_X9_learnt d lm RT F pm_X9_learnt (n + 1) 75 L st h = exI E d lm RT F (run E g mi_X9_learnt d lm RT F pm_X9_learnt n) (4, ((5 : Nat) : Int), 0, 77, []) L st h := run_s rfl
theorem r_X9_learnt_77 : run E g mi_X9_learnt d lm RT F pm_X9_learnt (n + 1) 77 L st h = exI E d lm RT F (run E g mi_X9_learnt d lm RT F pm_X9_learnt n) (0, 1, 0, 78, []) L st h := run_s rfl
theorem r_X9_learnt_78 : run E g mi_X9_learnt d lm RT F pm_X9_learnt (n + 1) 78 L st h = exI E d lm RT F (run E g mi_X9_learnt d lm RT F pm_X9_learnt n) (1, ((1 : Nat) : Int), 0, 79, []) L st h := run_s rfl
theorem r_X9_learnt_79 : run E g mi_X9_learnt d lm RT F pm_X9_learnt (n + 1) 79 L st h = exI E d lm RT F (run E g mi_X9_learnt d lm RT F pm_X9_learnt n) (16, 0, 0, 80, []) L st h := run_s rfl
theorem r_X9_learnt_80 : run E g mi_X9_learnt d lm RT F pm_X9_learnt (n + 1) 80 L st h = exI E d lm RT F (run E g mi_X9_learnt d lm RT F pm_X9_learnt n) (4, ((6 : Nat) : Int), 0, 82, []) L st h := run_s rfl
theorem r_X9_learnt_82 : run E g mi_X9_learnt d lm RT F pm_X9_learnt (n + 1) 82 L st h = exI E d lm RT F (run E g mi_X9_learnt d lm RT F pm_X9_learnt n) (0, 0, 0, 83, []) L st h := run_s rfl
theorem r_X9_learnt_83 : run E g mi_X9_learnt d lm RT F pm_X9_learnt (n + 1) 83 L st h = exI E d lm RT F (run E g mi_X9_learnt d lm RT F pm_X9_learnt n) (4, ((7 : Nat) : Int), 0, 85, []) L st h := run_s rfl
theorem r_X9_learnt_85 : run E g mi_X9_learnt d lm RT F pm_X9_learnt (n + 1) 85 L st h = G E g mi_X9_learnt d lm RT 85 L st h := run_c rfl
theorem q_X9_learnt_85 (n : Nat) (hF : FOk E d F) (hx : exI E d lm RT F (run E g mi_X9_learnt d lm RT F pm_X9_learnt n) (1, ((7 : Nat) : Int), 0, 87, []) L st h) : G E g mi_X9_learnt d lm RT 85 L st h := sstep hF (tOk_spec tk_X9_learnt (by decide +kernel)) (run_sound hF pk_X9_learnt n) hx
theorem r_X9_learnt_87 : run E g mi_X9_learnt d lm RT F pm_X9_learnt (n + 1) 87 L st h = exI E d lm RT F (run E g mi_X9_learnt d lm RT F pm_X9_learnt n) (1, ((4 : Nat) : Int), 0, 89, []) L st h := run_s rfl
theorem r_X9_learnt_89 : run E g mi_X9_learnt d lm RT F pm_X9_learnt (n + 1) 89 L st h = exI E d lm RT F (run E g mi_X9_learnt d lm RT F pm_X9_learnt n) (32, 3, ((149 : Nat) : Int), 92, []) L st h := run_s rfl
theorem r_X9_learnt_92 : run E g mi_X9_learnt d lm RT F pm_X9_learnt (n + 1) 92 L st h = exI E d lm RT F (run E g mi_X9_learnt d lm RT F pm_X9_learnt n) (1, ((5 : Nat) : Int), 0, 94, []) L st h := run_s rfl
theorem r_X9_learnt_94 : run E g mi_X9_learnt d lm RT F pm_X9_learnt (n + 1) 94 L st h = exI E d lm RT F (run E g mi_X9_learnt d lm RT F pm_X9_learnt n) (2, ((0 : Nat) : Int), 0, 95, []) L st h := run_s rfl
theorem r_X9_learnt_95 : run E g mi_X9_learnt d lm RT F pm_X9_learnt (n + 1) 95 L st h = exI E d lm RT F (run E g mi_X9_learnt d lm RT F pm_X9_learnt n) (35, ((9 : Nat) : Int), ((3 : Nat) : Int), 98, []) L st h := run_s rfl
theorem r_X9_learnt_98 : run E g mi_X9_learnt d lm RT F pm_X9_learnt (n + 1) 98 L st h = exI E d lm RT F (run E g mi_X9_learnt d lm RT F pm_X9_learnt n) (2, ((0 : Nat) : Int), 0, 99, []) L st h := run_s rfl
theorem r_X9_learnt_99 : run E g mi_X9_learnt d lm RT F pm_X9_learnt (n + 1) 99 L st h = exI E d lm RT F (run E g mi_X9_learnt d lm RT F pm_X9_learnt n) (35, ((9 : Nat) : Int), ((4 : Nat) : Int), 102, []) L st h := run_s rfl
theorem r_X9_learnt_102 : run E g mi_X9_learnt d lm RT F pm_X9_learnt (n + 1) 102 L st h = exI E d lm RT F (run E g mi_X9_learnt d lm RT F pm_X9_learnt n) (0, 8, 0, 104, []) L st h := run_s rfl
theorem r_X9_learnt_104 : run E g mi_X9_learnt d lm RT F pm_X9_learnt (n + 1) 104 L st h = exI E d lm RT F (run E g mi_X9_learnt d lm RT F pm_X9_learnt n) (2, ((0 : Nat) : Int), 0, 105, []) L st h := run_s rfl
theorem r_X9_learnt_105 : run E g mi_X9_learnt d lm RT F pm_X9_learnt (n + 1) 105 L st h = exI E d lm RT F (run E g mi_X9_learnt d lm RT F pm_X9_learnt n) (35, ((9 : Nat) : Int), ((32 : Nat) : Int), 108, []) L st h := run_s rfl
theorem r_X9_learnt_108 : run E g mi_X9_learnt d lm RT F pm_X9_learnt (n + 1) 108 L st h = exI E d lm RT F (run E g mi_X9_learnt d lm RT F pm_X9_learnt n) (1, ((7 : Nat) : Int), 0, 110, []) L st h := run_s rfl
theorem r_X9_learnt_110 : run E g mi_X9_learnt d lm RT F pm_X9_learnt (n + 1) 110 L st h = exI E d lm RT F (run E g mi_X9_learnt d lm RT F pm_X9_learnt n) (38, 0, 0, 111, []) L st h := run_s rfl
theorem r_X9_learnt_111 : run E g mi_X9_learnt d lm RT F pm_X9_learnt (n + 1) 111 L st h = exI E d lm RT F (run E g mi_X9_learnt d lm RT F pm_X9_learnt n) (10, 0, 0, 112, []) L st h := run_s rfl
theorem r_X9_learnt_112 : run E g mi_X9_learnt d lm RT F pm_X9_learnt (n + 1) 112 L st h = exI E d lm RT F (run E g mi_X9_learnt d lm RT F pm_X9_learnt n) (2, ((0 : Nat) : Int), 0, 113, []) L st h := run_s rfl
theorem r_X9_learnt_113 : run E g mi_X9_learnt d lm RT F pm_X9_learnt (n + 1) 113 L st h = exI E d lm RT F (run E g mi_X9_learnt d lm RT F pm_X9_learnt n) (35, ((9 : Nat) : Int), ((32 : Nat) : Int), 116, []) L st h := run_s rfl
theorem r_X9_learnt_116 : run E g mi_X9_learnt d lm RT F pm_X9_learnt (n + 1) 116 L st h = exI E d lm RT F (run E g mi_X9_learnt d lm RT F pm_X9_learnt n) (1, ((7 : Nat) : Int), 0, 118, []) L st h := run_s rfl
theorem r_X9_learnt_118 : run E g mi_X9_learnt d lm RT F pm_X9_learnt (n + 1) 118 L st h = exI E d lm RT F (run E g mi_X9_learnt d lm RT F pm_X9_learnt n) (0, 1, 0, 119, []) L st h := run_s rfl
theorem r_X9_learnt_119 : run E g mi_X9_learnt d lm RT F pm_X9_learnt (n + 1) 119 L st h = exI E d lm RT F (run E g mi_X9_learnt d lm RT F pm_X9_learnt n) (8, 0, 0, 120, []) L st h := run_s rfl
theorem r_X9_learnt_120 : run E g mi_X9_learnt d lm RT F pm_X9_learnt (n + 1) 120 L st h = exI E d lm RT F (run E g mi_X9_learnt d lm RT F pm_X9_learnt n) (38, 0, 0, 121, []) L st h := run_s rfl
theorem r_X9_learnt_121 : run E g mi_X9_learnt d lm RT F pm_X9_learnt (n + 1) 121 L st h = exI E d lm RT F (run E g mi_X9_learnt d lm RT F pm_X9_learnt n) (8, 0, 0, 122, []) L st h := run_s rfl
theorem r_X9_learnt_122 : run E g mi_X9_learnt d lm RT F pm_X9_learnt (n + 1) 122 L st h = exI E d lm RT F (run E g mi_X9_learnt d lm RT F pm_X9_learnt n) (38, 0, 0, 123, []) L st h := run_s rfl
theorem r_X9_learnt_123 : run E g mi_X9_learnt d lm RT F pm_X9_learnt (n + 1) 123 L st h = exI E d lm RT F (run E g mi_X9_learnt d lm RT F pm_X9_learnt n) (38, 0, 0, 124, []) L st h := run_s rfl
theorem r_X9_learnt_124 : run E g mi_X9_learnt d lm RT F pm_X9_learnt (n + 1) 124 L st h = exI E d lm RT F (run E g mi_X9_learnt d lm RT F pm_X9_learnt n) (8, 0, 0, 125, []) L st h := run_s rfl
theorem r_X9_learnt_125 : run E g mi_X9_learnt d lm RT F pm_X9_learnt (n + 1) 125 L st h = exI E d lm RT F (run E g mi_X9_learnt d lm RT F pm_X9_learnt n) (4, ((5 : Nat) : Int), 0, 127, []) L st h := run_s rfl
theorem r_X9_learnt_127 : run E g mi_X9_learnt d lm RT F pm_X9_learnt (n + 1) 127 L st h = exI E d lm RT F (run E g mi_X9_learnt d lm RT F pm_X9_learnt n) (1, ((6 : Nat) : Int), 0, 129, []) L st h := run_s rfl
theorem r_X9_learnt_129 : run E g mi_X9_learnt d lm RT F pm_X9_learnt (n + 1) 129 L st h = exI E d lm RT F (run E g mi_X9_learnt d lm RT F pm_X9_learnt n) (0, 1, 0, 130, []) L st h := run_s rfl
theorem r_X9_learnt_130 : run E g mi_X9_learnt d lm RT F pm_X9_learnt (n + 1) 130 L st h = exI E d lm RT F (run E g mi_X9_learnt d lm RT F pm_X9_learnt n) (2, ((0 : Nat) : Int), 0, 131, []) L st h := run_s rfl
theorem r_X9_learnt_131 : run E g mi_X9_learnt d lm RT F pm_X9_learnt (n + 1) 131 L st h = exI E d lm RT F (run E g mi_X9_learnt d lm RT F pm_X9_learnt n) (35, ((9 : Nat) : Int), ((32 : Nat) : Int), 134, []) L st h := run_s rfl
theorem r_X9_learnt_134 : run E g mi_X9_learnt d lm RT F pm_X9_learnt (n + 1) 134 L st h = exI E d lm RT F (run E g mi_X9_learnt d lm RT F pm_X9_learnt n) (1, ((7 : Nat) : Int), 0, 136, []) L st h := run_s rfl
theorem r_X9_learnt_136 : run E g mi_X9_learnt d lm RT F pm_X9_learnt (n + 1) 136 L st h = exI E d lm RT F (run E g mi_X9_learnt d lm RT F pm_X9_learnt n) (0, 1, 0, 137, []) L st h := run_s rfl
theorem r_X9_learnt_137 : run E g mi_X9_learnt d lm RT F pm_X9_learnt (n + 1) 137 L st h = exI E d lm RT F (run E g mi_X9_learnt d lm RT F pm_X9_learnt n) (8, 0, 0, 138, []) L st h := run_s rfl
theorem r_X9_learnt_138 : run E g mi_X9_learnt d lm RT F pm_X9_learnt (n + 1) 138 L st h = exI E d lm RT F (run E g mi_X9_learnt d lm RT F pm_X9_learnt n) (38, 0, 0, 139, []) L st h := run_s rfl
theorem r_X9_learnt_139 : run E g mi_X9_learnt d lm RT F pm_X9_learnt (n + 1) 139 L st h = exI E d lm RT F (run E g mi_X9_learnt d lm RT F pm_X9_learnt n) (16, 0, 0, 140, []) L st h := run_s rfl
theorem r_X9_learnt_140 : run E g mi_X9_learnt d lm RT F pm_X9_learnt (n + 1) 140 L st h = exI E d lm RT F (run E g mi_X9_learnt d lm RT F pm_X9_learnt n) (14, 0, 0, 141, []) L st h := run_s rfl
theorem r_X9_learnt_141 : run E g mi_X9_learnt d lm RT F pm_X9_learnt (n + 1) 141 L st h = exI E d lm RT F (run E g mi_X9_learnt d lm RT F pm_X9_learnt n) (4, ((6 : Nat) : Int), 0, 143, []) L st h := run_s rfl
theorem r_X9_learnt_143 : run E g mi_X9_learnt d lm RT F pm_X9_learnt (n + 1) 143 L st h = exI E d lm RT F (run E g mi_X9_learnt d lm RT F pm_X9_learnt n) (7, ((7 : Nat) : Int), 1, 146, []) L st h := run_s rfl
theorem r_X9_learnt_146 : run E g mi_X9_learnt d lm RT F pm_X9_learnt (n + 1) 146 L st h = exI E d lm RT F (run E g mi_X9_learnt d lm RT F pm_X9_learnt n) (33, ((85 : Nat) : Int), 0, 0, []) L st h := run_s rfl
theorem r_X9_learnt_149 : run E g mi_X9_learnt d lm RT F pm_X9_learnt (n + 1) 149 L st h = exI E d lm RT F (run E g mi_X9_learnt d lm RT F pm_X9_learnt n) (1, ((3 : Nat) : Int), 0, 150, []) L st h := run_s rfl
theorem r_X9_learnt_150 : run E g mi_X9_learnt d lm RT F pm_X9_learnt (n + 1) 150 L st h = exI E d lm RT F (run E g mi_X9_learnt d lm RT F pm_X9_learnt n) (31, 1, ((158 : Nat) : Int), 153, []) L st h := run_s rfl
theorem r_X9_learnt_153 : run E g mi_X9_learnt d lm RT F pm_X9_learnt (n + 1) 153 L st h = exI E d lm RT F (run E g mi_X9_learnt d lm RT F pm_X9_learnt n) (1, ((5 : Nat) : Int), 0, 155, []) L st h := run_s rfl
theorem r_X9_learnt_155 : run E g mi_X9_learnt d lm RT F pm_X9_learnt (n + 1) 155 L st h = exI E d lm RT F (run E g mi_X9_learnt d lm RT F pm_X9_learnt n) (33, ((187 : Nat) : Int), 0, 0, []) L st h := run_s rfl
theorem r_X9_learnt_158 : run E g mi_X9_learnt d lm RT F pm_X9_learnt (n + 1) 158 L st h = exI E d lm RT F (run E g mi_X9_learnt d lm RT F pm_X9_learnt n) (1, ((3 : Nat) : Int), 0, 159, []) L st h := run_s rfl
theorem r_X9_learnt_159 : run E g mi_X9_learnt d lm RT F pm_X9_learnt (n + 1) 159 L st h = exI E d lm RT F (run E g mi_X9_learnt d lm RT F pm_X9_learnt n) (0, 1, 0, 160, []) L st h := run_s rfl
theorem r_X9_learnt_160 : run E g mi_X9_learnt d lm RT F pm_X9_learnt (n + 1) 160 L st h = exI E d lm RT F (run E g mi_X9_learnt d lm RT F pm_X9_learnt n) (32, 1, ((168 : Nat) : Int), 163, []) L st h := run_s rfl
theorem r_X9_learnt_163 : run E g mi_X9_learnt d lm RT F pm_X9_learnt (n + 1) 163 L st h = exI E d lm RT F (run E g mi_X9_learnt d lm RT F pm_X9_learnt n) (1, ((4 : Nat) : Int), 0, 165, []) L st h := run_s rfl
theorem r_X9_learnt_165 : run E g mi_X9_learnt d lm RT F pm_X9_learnt (n + 1) 165 L st h = exI E d lm RT F (run E g mi_X9_learnt d lm RT F pm_X9_learnt n) (33, ((187 : Nat) : Int), 0, 0, []) L st h := run_s rfl
theorem r_X9_learnt_168 : run E g mi_X9_learnt d lm RT F pm_X9_learnt (n + 1) 168 L st h = exI E d lm RT F (run E g mi_X9_learnt d lm RT F pm_X9_learnt n) (1, ((3 : Nat) : Int), 0, 169, []) L st h := run_s rfl
theorem r_X9_learnt_169 : run E g mi_X9_learnt d lm RT F pm_X9_learnt (n + 1) 169 L st h = exI E d lm RT F (run E g mi_X9_learnt d lm RT F pm_X9_learnt n) (0, 2, 0, 170, []) L st h := run_s rfl
theorem r_X9_learnt_170 : run E g mi_X9_learnt d lm RT F pm_X9_learnt (n + 1) 170 L st h = exI E d lm RT F (run E g mi_X9_learnt d lm RT F pm_X9_learnt n) (32, 1, ((178 : Nat) : Int), 173, []) L st h := run_s rfl
theorem r_X9_learnt_173 : run E g mi_X9_learnt d lm RT F pm_X9_learnt (n + 1) 173 L st h = exI E d lm RT F (run E g mi_X9_learnt d lm RT F pm_X9_learnt n) (1, ((6 : Nat) : Int), 0, 175, []) L st h := run_s rfl
theorem r_X9_learnt_175 : run E g mi_X9_learnt d lm RT F pm_X9_learnt (n + 1) 175 L st h = exI E d lm RT F (run E g mi_X9_learnt d lm RT F pm_X9_learnt n) (33, ((187 : Nat) : Int), 0, 0, []) L st h := run_s rfl
theorem r_X9_learnt_178 : run E g mi_X9_learnt d lm RT F pm_X9_learnt (n + 1) 178 L st h = exI E d lm RT F (run E g mi_X9_learnt d lm RT F pm_X9_learnt n) (2, ((0 : Nat) : Int), 0, 179, []) L st h := run_s rfl
theorem r_X9_learnt_179 : run E g mi_X9_learnt d lm RT F pm_X9_learnt (n + 1) 179 L st h = exI E d lm RT F (run E g mi_X9_learnt d lm RT F pm_X9_learnt n) (35, ((9 : Nat) : Int), ((32 : Nat) : Int), 182, []) L st h := run_s rfl
theorem r_X9_learnt_182 : run E g mi_X9_learnt d lm RT F pm_X9_learnt (n + 1) 182 L st h = exI E d lm RT F (run E g mi_X9_learnt d lm RT F pm_X9_learnt n) (1, ((3 : Nat) : Int), 0, 183, []) L st h := run_s rfl
theorem r_X9_learnt_183 : run E g mi_X9_learnt d lm RT F pm_X9_learnt (n + 1) 183 L st h = exI E d lm RT F (run E g mi_X9_learnt d lm RT F pm_X9_learnt n) (0, 10, 0, 185, []) L st h := run_s rfl
theorem r_X9_learnt_185 : run E g mi_X9_learnt d lm RT F pm_X9_learnt (n + 1) 185 L st h = exI E d lm RT F (run E g mi_X9_learnt d lm RT F pm_X9_learnt n) (9, 0, 0, 186, []) L st h := run_s rfl
theorem r_X9_learnt_186 : run E g mi_X9_learnt d lm RT F pm_X9_learnt (n + 1) 186 L st h = exI E d lm RT F (run E g mi_X9_learnt d lm RT F pm_X9_learnt n) (38, 0, 0, 187, []) L st h := run_s rfl
theorem r_X9_learnt_187 : run E g mi_X9_learnt d lm RT F pm_X9_learnt (n + 1) 187 L st h = exI E d lm RT F (run E g mi_X9_learnt d lm RT F pm_X9_learnt n) (48, 0, 0, 0, []) L st h := run_s rfl
theorem e_X9_learnt (n : Nat) {pc : Nat} (hF : FOk E d F) (hx : run E g mi_X9_learnt d lm RT F pm_X9_learnt n pc L st h) : G E g mi_X9_learnt d lm RT pc L st h := run_sound hF pk_X9_learnt n pc L st h hx
end
def mi_X9_findFar : MI := (9, cX9_findFar, 4, 4, false)
theorem mo_X9_findFar : miOk mi_X9_findFar (mt 140) = true := by decide +kernel
def tl_X9_findFar : List (Nat × PT) := [(0, (0, 0, 0, 1, [])),
  (1, (4, ((1 : Nat) : Int), 0, 2, [])),
  (2, (1, ((1 : Nat) : Int), 0, 3, [])),
  (3, (0, 64, 0, 5, [])),
  (5, (32, 3, ((62 : Nat) : Int), 8, [])),
  (8, (2, ((0 : Nat) : Int), 0, 9, [])),
  (9, (35, ((9 : Nat) : Int), ((33 : Nat) : Int), 12, [])),
  (12, (1, ((1 : Nat) : Int), 0, 13, [])),
  (13, (1, ((1 : Nat) : Int), 0, 14, [])),
  (14, (0, 8, 0, 16, [])),
  (16, (11, 0, 0, 17, [])),
  (17, (1, ((1 : Nat) : Int), 0, 18, [])),
  (18, (0, 8, 0, 20, [])),
  (20, (12, 0, 0, 21, [])),
  (21, (32, 1, ((28 : Nat) : Int), 24, [])),
  (24, (0, 0, 0, 25, [])),
  (25, (33, ((55 : Nat) : Int), 0, 0, [])),
  (28, (2, ((0 : Nat) : Int), 0, 29, [])),
  (29, (35, ((9 : Nat) : Int), ((4 : Nat) : Int), 32, [])),
  (32, (1, ((1 : Nat) : Int), 0, 33, [])),
  (33, (38, 0, 0, 34, [])),
  (34, (0, (-9), 0, 36, [])),
  (36, (32, 1, ((44 : Nat) : Int), 39, [])),
  (39, (0, 1000000, 0, 41, [])),
  (41, (33, ((55 : Nat) : Int), 0, 0, [])),
  (44, (2, ((0 : Nat) : Int), 0, 45, [])),
  (45, (35, ((9 : Nat) : Int), ((3 : Nat) : Int), 48, [])),
  (48, (2, ((0 : Nat) : Int), 0, 49, [])),
  (49, (35, ((9 : Nat) : Int), ((4 : Nat) : Int), 52, [])),
  (52, (1, ((1 : Nat) : Int), 0, 53, [])),
  (53, (38, 0, 0, 54, [])),
  (54, (38, 0, 0, 55, [])),
  (55, (39, 0, 0, 56, [])),
  (56, (7, ((1 : Nat) : Int), 1, 59, [])),
  (59, (33, ((2 : Nat) : Int), 0, 0, [])),
  (62, (0, 0, 0, 63, [])),
  (63, (4, ((1 : Nat) : Int), 0, 64, [])),
  (64, (1, ((1 : Nat) : Int), 0, 65, [])),
  (65, (0, 8, 0, 67, [])),
  (67, (32, 3, ((146 : Nat) : Int), 70, [])),
  (70, (0, 0, 0, 71, [])),
  (71, (4, ((2 : Nat) : Int), 0, 72, [])),
  (72, (1, ((2 : Nat) : Int), 0, 73, [])),
  (73, (0, 64, 0, 75, [])),
  (75, (32, 3, ((140 : Nat) : Int), 78, [])),
  (78, (2, ((0 : Nat) : Int), 0, 79, [])),
  (79, (35, ((9 : Nat) : Int), ((33 : Nat) : Int), 82, [])),
  (82, (1, ((2 : Nat) : Int), 0, 83, [])),
  (83, (0, 8, 0, 85, [])),
  (85, (11, 0, 0, 86, [])),
  (86, (0, 8, 0, 88, [])),
  (88, (10, 0, 0, 89, [])),
  (89, (1, ((1 : Nat) : Int), 0, 90, [])),
  (90, (8, 0, 0, 91, [])),
  (91, (38, 0, 0, 92, [])),
  (92, (2, ((0 : Nat) : Int), 0, 93, [])),
  (93, (35, ((9 : Nat) : Int), ((33 : Nat) : Int), 96, [])),
  (96, (0, 8, 0, 98, [])),
  (98, (1, ((1 : Nat) : Int), 0, 99, [])),
  (99, (10, 0, 0, 100, [])),
  (100, (1, ((2 : Nat) : Int), 0, 101, [])),
  (101, (0, 8, 0, 103, [])),
  (103, (12, 0, 0, 104, [])),
  (104, (8, 0, 0, 105, [])),
  (105, (38, 0, 0, 106, [])),
  (106, (8, 0, 0, 107, [])),
  (107, (4, ((3 : Nat) : Int), 0, 108, [])),
  (108, (2, ((0 : Nat) : Int), 0, 109, [])),
  (109, (35, ((9 : Nat) : Int), ((33 : Nat) : Int), 112, [])),
  (112, (1, ((2 : Nat) : Int), 0, 113, [])),
  (113, (1, ((3 : Nat) : Int), 0, 114, [])),
  (114, (2, ((0 : Nat) : Int), 0, 115, [])),
  (115, (35, ((9 : Nat) : Int), ((33 : Nat) : Int), 118, [])),
  (118, (1, ((2 : Nat) : Int), 0, 119, [])),
  (119, (38, 0, 0, 120, [])),
  (120, (32, 3, ((127 : Nat) : Int), 123, [])),
  (123, (1, ((3 : Nat) : Int), 0, 124, [])),
  (124, (33, ((133 : Nat) : Int), 0, 0, [])),
  (127, (2, ((0 : Nat) : Int), 0, 128, [])),
  (128, (35, ((9 : Nat) : Int), ((33 : Nat) : Int), 131, [])),
  (131, (1, ((2 : Nat) : Int), 0, 132, [])),
  (132, (38, 0, 0, 133, [])),
  (133, (39, 0, 0, 134, [])),
  (134, (7, ((2 : Nat) : Int), 1, 137, [])),
  (137, (33, ((72 : Nat) : Int), 0, 0, [])),
  (140, (7, ((1 : Nat) : Int), 1, 143, [])),
  (143, (33, ((64 : Nat) : Int), 0, 0, [])),
  (146, (48, 4, 0, 0, []))]
theorem tk_X9_findFar_0 : tOk mi_X9_findFar ((tl_X9_findFar.drop 0).take 45) = true := by decide +kernel
theorem tk_X9_findFar_1 : tOk mi_X9_findFar ((tl_X9_findFar.drop 45).take 45) = true := by decide +kernel
theorem tk_X9_findFar : tOk mi_X9_findFar tl_X9_findFar = true := by
  refine tOk_cut 45 (by decide) (fun q hq => ?_)
  have hl : tl_X9_findFar.length = 88 := by decide +kernel
  rw [hl] at hq
  rcases (show q = 0 ∨ q = 1 by omega) with rfl | rfl
  · exact tk_X9_findFar_0
  · exact tk_X9_findFar_1
def pm_X9_findFar (pc : Nat) : Option PT := if [2, 64, 72].contains pc then none else tl_X9_findFar.lookup pc
theorem pk_X9_findFar : ∀ pc pt, pm_X9_findFar pc = some pt → okPt mi_X9_findFar pc pt := fun pc pt h => tOk_pm tk_X9_findFar h
section
variable {E : ET} {g : GT} {d : Nat} {lm : Nat × Nat} {RT : RTy} {F : FT} {n : Nat} {L : LV} {st : List AV} {h : AH}
theorem r_X9_findFar_0 : run E g mi_X9_findFar d lm RT F pm_X9_findFar (n + 1) 0 L st h = exI E d lm RT F (run E g mi_X9_findFar d lm RT F pm_X9_findFar n) (0, 0, 0, 1, []) L st h := run_s rfl
theorem r_X9_findFar_1 : run E g mi_X9_findFar d lm RT F pm_X9_findFar (n + 1) 1 L st h = exI E d lm RT F (run E g mi_X9_findFar d lm RT F pm_X9_findFar n) (4, ((1 : Nat) : Int), 0, 2, []) L st h := run_s rfl
theorem r_X9_findFar_2 : run E g mi_X9_findFar d lm RT F pm_X9_findFar (n + 1) 2 L st h = G E g mi_X9_findFar d lm RT 2 L st h := run_c rfl
theorem q_X9_findFar_2 (n : Nat) (hF : FOk E d F) (hx : exI E d lm RT F (run E g mi_X9_findFar d lm RT F pm_X9_findFar n) (1, ((1 : Nat) : Int), 0, 3, []) L st h) : G E g mi_X9_findFar d lm RT 2 L st h := sstep hF (tOk_spec tk_X9_findFar (by decide +kernel)) (run_sound hF pk_X9_findFar n) hx
theorem r_X9_findFar_3 : run E g mi_X9_findFar d lm RT F pm_X9_findFar (n + 1) 3 L st h = exI E d lm RT F (run E g mi_X9_findFar d lm RT F pm_X9_findFar n) (0, 64, 0, 5, []) L st h := run_s rfl
theorem r_X9_findFar_5 : run E g mi_X9_findFar d lm RT F pm_X9_findFar (n + 1) 5 L st h = exI E d lm RT F (run E g mi_X9_findFar d lm RT F pm_X9_findFar n) (32, 3, ((62 : Nat) : Int), 8, []) L st h := run_s rfl
theorem r_X9_findFar_8 : run E g mi_X9_findFar d lm RT F pm_X9_findFar (n + 1) 8 L st h = exI E d lm RT F (run E g mi_X9_findFar d lm RT F pm_X9_findFar n) (2, ((0 : Nat) : Int), 0, 9, []) L st h := run_s rfl
theorem r_X9_findFar_9 : run E g mi_X9_findFar d lm RT F pm_X9_findFar (n + 1) 9 L st h = exI E d lm RT F (run E g mi_X9_findFar d lm RT F pm_X9_findFar n) (35, ((9 : Nat) : Int), ((33 : Nat) : Int), 12, []) L st h := run_s rfl
theorem r_X9_findFar_12 : run E g mi_X9_findFar d lm RT F pm_X9_findFar (n + 1) 12 L st h = exI E d lm RT F (run E g mi_X9_findFar d lm RT F pm_X9_findFar n) (1, ((1 : Nat) : Int), 0, 13, []) L st h := run_s rfl
theorem r_X9_findFar_13 : run E g mi_X9_findFar d lm RT F pm_X9_findFar (n + 1) 13 L st h = exI E d lm RT F (run E g mi_X9_findFar d lm RT F pm_X9_findFar n) (1, ((1 : Nat) : Int), 0, 14, []) L st h := run_s rfl
theorem r_X9_findFar_14 : run E g mi_X9_findFar d lm RT F pm_X9_findFar (n + 1) 14 L st h = exI E d lm RT F (run E g mi_X9_findFar d lm RT F pm_X9_findFar n) (0, 8, 0, 16, []) L st h := run_s rfl
theorem r_X9_findFar_16 : run E g mi_X9_findFar d lm RT F pm_X9_findFar (n + 1) 16 L st h = exI E d lm RT F (run E g mi_X9_findFar d lm RT F pm_X9_findFar n) (11, 0, 0, 17, []) L st h := run_s rfl
theorem r_X9_findFar_17 : run E g mi_X9_findFar d lm RT F pm_X9_findFar (n + 1) 17 L st h = exI E d lm RT F (run E g mi_X9_findFar d lm RT F pm_X9_findFar n) (1, ((1 : Nat) : Int), 0, 18, []) L st h := run_s rfl
theorem r_X9_findFar_18 : run E g mi_X9_findFar d lm RT F pm_X9_findFar (n + 1) 18 L st h = exI E d lm RT F (run E g mi_X9_findFar d lm RT F pm_X9_findFar n) (0, 8, 0, 20, []) L st h := run_s rfl
theorem r_X9_findFar_20 : run E g mi_X9_findFar d lm RT F pm_X9_findFar (n + 1) 20 L st h = exI E d lm RT F (run E g mi_X9_findFar d lm RT F pm_X9_findFar n) (12, 0, 0, 21, []) L st h := run_s rfl
theorem r_X9_findFar_21 : run E g mi_X9_findFar d lm RT F pm_X9_findFar (n + 1) 21 L st h = exI E d lm RT F (run E g mi_X9_findFar d lm RT F pm_X9_findFar n) (32, 1, ((28 : Nat) : Int), 24, []) L st h := run_s rfl
theorem r_X9_findFar_24 : run E g mi_X9_findFar d lm RT F pm_X9_findFar (n + 1) 24 L st h = exI E d lm RT F (run E g mi_X9_findFar d lm RT F pm_X9_findFar n) (0, 0, 0, 25, []) L st h := run_s rfl
theorem r_X9_findFar_25 : run E g mi_X9_findFar d lm RT F pm_X9_findFar (n + 1) 25 L st h = exI E d lm RT F (run E g mi_X9_findFar d lm RT F pm_X9_findFar n) (33, ((55 : Nat) : Int), 0, 0, []) L st h := run_s rfl
theorem r_X9_findFar_28 : run E g mi_X9_findFar d lm RT F pm_X9_findFar (n + 1) 28 L st h = exI E d lm RT F (run E g mi_X9_findFar d lm RT F pm_X9_findFar n) (2, ((0 : Nat) : Int), 0, 29, []) L st h := run_s rfl
theorem r_X9_findFar_29 : run E g mi_X9_findFar d lm RT F pm_X9_findFar (n + 1) 29 L st h = exI E d lm RT F (run E g mi_X9_findFar d lm RT F pm_X9_findFar n) (35, ((9 : Nat) : Int), ((4 : Nat) : Int), 32, []) L st h := run_s rfl
theorem r_X9_findFar_32 : run E g mi_X9_findFar d lm RT F pm_X9_findFar (n + 1) 32 L st h = exI E d lm RT F (run E g mi_X9_findFar d lm RT F pm_X9_findFar n) (1, ((1 : Nat) : Int), 0, 33, []) L st h := run_s rfl
theorem r_X9_findFar_33 : run E g mi_X9_findFar d lm RT F pm_X9_findFar (n + 1) 33 L st h = exI E d lm RT F (run E g mi_X9_findFar d lm RT F pm_X9_findFar n) (38, 0, 0, 34, []) L st h := run_s rfl
theorem r_X9_findFar_34 : run E g mi_X9_findFar d lm RT F pm_X9_findFar (n + 1) 34 L st h = exI E d lm RT F (run E g mi_X9_findFar d lm RT F pm_X9_findFar n) (0, (-9), 0, 36, []) L st h := run_s rfl
theorem r_X9_findFar_36 : run E g mi_X9_findFar d lm RT F pm_X9_findFar (n + 1) 36 L st h = exI E d lm RT F (run E g mi_X9_findFar d lm RT F pm_X9_findFar n) (32, 1, ((44 : Nat) : Int), 39, []) L st h := run_s rfl
theorem r_X9_findFar_39 : run E g mi_X9_findFar d lm RT F pm_X9_findFar (n + 1) 39 L st h = exI E d lm RT F (run E g mi_X9_findFar d lm RT F pm_X9_findFar n) (0, 1000000, 0, 41, []) L st h := run_s rfl
theorem r_X9_findFar_41 : run E g mi_X9_findFar d lm RT F pm_X9_findFar (n + 1) 41 L st h = exI E d lm RT F (run E g mi_X9_findFar d lm RT F pm_X9_findFar n) (33, ((55 : Nat) : Int), 0, 0, []) L st h := run_s rfl
theorem r_X9_findFar_44 : run E g mi_X9_findFar d lm RT F pm_X9_findFar (n + 1) 44 L st h = exI E d lm RT F (run E g mi_X9_findFar d lm RT F pm_X9_findFar n) (2, ((0 : Nat) : Int), 0, 45, []) L st h := run_s rfl
theorem r_X9_findFar_45 : run E g mi_X9_findFar d lm RT F pm_X9_findFar (n + 1) 45 L st h = exI E d lm RT F (run E g mi_X9_findFar d lm RT F pm_X9_findFar n) (35, ((9 : Nat) : Int), ((3 : Nat) : Int), 48, []) L st h := run_s rfl
theorem r_X9_findFar_48 : run E g mi_X9_findFar d lm RT F pm_X9_findFar (n + 1) 48 L st h = exI E d lm RT F (run E g mi_X9_findFar d lm RT F pm_X9_findFar n) (2, ((0 : Nat) : Int), 0, 49, []) L st h := run_s rfl
theorem r_X9_findFar_49 : run E g mi_X9_findFar d lm RT F pm_X9_findFar (n + 1) 49 L st h = exI E d lm RT F (run E g mi_X9_findFar d lm RT F pm_X9_findFar n) (35, ((9 : Nat) : Int), ((4 : Nat) : Int), 52, []) L st h := run_s rfl
theorem r_X9_findFar_52 : run E g mi_X9_findFar d lm RT F pm_X9_findFar (n + 1) 52 L st h = exI E d lm RT F (run E g mi_X9_findFar d lm RT F pm_X9_findFar n) (1, ((1 : Nat) : Int), 0, 53, []) L st h := run_s rfl
theorem r_X9_findFar_53 : run E g mi_X9_findFar d lm RT F pm_X9_findFar (n + 1) 53 L st h = exI E d lm RT F (run E g mi_X9_findFar d lm RT F pm_X9_findFar n) (38, 0, 0, 54, []) L st h := run_s rfl
theorem r_X9_findFar_54 : run E g mi_X9_findFar d lm RT F pm_X9_findFar (n + 1) 54 L st h = exI E d lm RT F (run E g mi_X9_findFar d lm RT F pm_X9_findFar n) (38, 0, 0, 55, []) L st h := run_s rfl
theorem r_X9_findFar_55 : run E g mi_X9_findFar d lm RT F pm_X9_findFar (n + 1) 55 L st h = exI E d lm RT F (run E g mi_X9_findFar d lm RT F pm_X9_findFar n) (39, 0, 0, 56, []) L st h := run_s rfl
theorem r_X9_findFar_56 : run E g mi_X9_findFar d lm RT F pm_X9_findFar (n + 1) 56 L st h = exI E d lm RT F (run E g mi_X9_findFar d lm RT F pm_X9_findFar n) (7, ((1 : Nat) : Int), 1, 59, []) L st h := run_s rfl
theorem r_X9_findFar_59 : run E g mi_X9_findFar d lm RT F pm_X9_findFar (n + 1) 59 L st h = exI E d lm RT F (run E g mi_X9_findFar d lm RT F pm_X9_findFar n) (33, ((2 : Nat) : Int), 0, 0, []) L st h := run_s rfl
theorem r_X9_findFar_62 : run E g mi_X9_findFar d lm RT F pm_X9_findFar (n + 1) 62 L st h = exI E d lm RT F (run E g mi_X9_findFar d lm RT F pm_X9_findFar n) (0, 0, 0, 63, []) L st h := run_s rfl
theorem r_X9_findFar_63 : run E g mi_X9_findFar d lm RT F pm_X9_findFar (n + 1) 63 L st h = exI E d lm RT F (run E g mi_X9_findFar d lm RT F pm_X9_findFar n) (4, ((1 : Nat) : Int), 0, 64, []) L st h := run_s rfl
theorem r_X9_findFar_64 : run E g mi_X9_findFar d lm RT F pm_X9_findFar (n + 1) 64 L st h = G E g mi_X9_findFar d lm RT 64 L st h := run_c rfl
theorem q_X9_findFar_64 (n : Nat) (hF : FOk E d F) (hx : exI E d lm RT F (run E g mi_X9_findFar d lm RT F pm_X9_findFar n) (1, ((1 : Nat) : Int), 0, 65, []) L st h) : G E g mi_X9_findFar d lm RT 64 L st h := sstep hF (tOk_spec tk_X9_findFar (by decide +kernel)) (run_sound hF pk_X9_findFar n) hx
theorem r_X9_findFar_65 : run E g mi_X9_findFar d lm RT F pm_X9_findFar (n + 1) 65 L st h = exI E d lm RT F (run E g mi_X9_findFar d lm RT F pm_X9_findFar n) (0, 8, 0, 67, []) L st h := run_s rfl
theorem r_X9_findFar_67 : run E g mi_X9_findFar d lm RT F pm_X9_findFar (n + 1) 67 L st h = exI E d lm RT F (run E g mi_X9_findFar d lm RT F pm_X9_findFar n) (32, 3, ((146 : Nat) : Int), 70, []) L st h := run_s rfl
theorem r_X9_findFar_70 : run E g mi_X9_findFar d lm RT F pm_X9_findFar (n + 1) 70 L st h = exI E d lm RT F (run E g mi_X9_findFar d lm RT F pm_X9_findFar n) (0, 0, 0, 71, []) L st h := run_s rfl
theorem r_X9_findFar_71 : run E g mi_X9_findFar d lm RT F pm_X9_findFar (n + 1) 71 L st h = exI E d lm RT F (run E g mi_X9_findFar d lm RT F pm_X9_findFar n) (4, ((2 : Nat) : Int), 0, 72, []) L st h := run_s rfl
theorem r_X9_findFar_72 : run E g mi_X9_findFar d lm RT F pm_X9_findFar (n + 1) 72 L st h = G E g mi_X9_findFar d lm RT 72 L st h := run_c rfl
theorem q_X9_findFar_72 (n : Nat) (hF : FOk E d F) (hx : exI E d lm RT F (run E g mi_X9_findFar d lm RT F pm_X9_findFar n) (1, ((2 : Nat) : Int), 0, 73, []) L st h) : G E g mi_X9_findFar d lm RT 72 L st h := sstep hF (tOk_spec tk_X9_findFar (by decide +kernel)) (run_sound hF pk_X9_findFar n) hx
theorem r_X9_findFar_73 : run E g mi_X9_findFar d lm RT F pm_X9_findFar (n + 1) 73 L st h = exI E d lm RT F (run E g mi_X9_findFar d lm RT F pm_X9_findFar n) (0, 64, 0, 75, []) L st h := run_s rfl
theorem r_X9_findFar_75 : run E g mi_X9_findFar d lm RT F pm_X9_findFar (n + 1) 75 L st h = exI E d lm RT F (run E g mi_X9_findFar d lm RT F pm_X9_findFar n) (32, 3, ((140 : Nat) : Int), 78, []) L st h := run_s rfl
theorem r_X9_findFar_78 : run E g mi_X9_findFar d lm RT F pm_X9_findFar (n + 1) 78 L st h = exI E d lm RT F (run E g mi_X9_findFar d lm RT F pm_X9_findFar n) (2, ((0 : Nat) : Int), 0, 79, []) L st h := run_s rfl
theorem r_X9_findFar_79 : run E g mi_X9_findFar d lm RT F pm_X9_findFar (n + 1) 79 L st h = exI E d lm RT F (run E g mi_X9_findFar d lm RT F pm_X9_findFar n) (35, ((9 : Nat) : Int), ((33 : Nat) : Int), 82, []) L st h := run_s rfl
theorem r_X9_findFar_82 : run E g mi_X9_findFar d lm RT F pm_X9_findFar (n + 1) 82 L st h = exI E d lm RT F (run E g mi_X9_findFar d lm RT F pm_X9_findFar n) (1, ((2 : Nat) : Int), 0, 83, []) L st h := run_s rfl
theorem r_X9_findFar_83 : run E g mi_X9_findFar d lm RT F pm_X9_findFar (n + 1) 83 L st h = exI E d lm RT F (run E g mi_X9_findFar d lm RT F pm_X9_findFar n) (0, 8, 0, 85, []) L st h := run_s rfl
theorem r_X9_findFar_85 : run E g mi_X9_findFar d lm RT F pm_X9_findFar (n + 1) 85 L st h = exI E d lm RT F (run E g mi_X9_findFar d lm RT F pm_X9_findFar n) (11, 0, 0, 86, []) L st h := run_s rfl
theorem r_X9_findFar_86 : run E g mi_X9_findFar d lm RT F pm_X9_findFar (n + 1) 86 L st h = exI E d lm RT F (run E g mi_X9_findFar d lm RT F pm_X9_findFar n) (0, 8, 0, 88, []) L st h := run_s rfl
theorem r_X9_findFar_88 : run E g mi_X9_findFar d lm RT F pm_X9_findFar (n + 1) 88 L st h = exI E d lm RT F (run E g mi_X9_findFar d lm RT F pm_X9_findFar n) (10, 0, 0, 89, []) L st h := run_s rfl
theorem r_X9_findFar_89 : run E g mi_X9_findFar d lm RT F pm_X9_findFar (n + 1) 89 L st h = exI E d lm RT F (run E g mi_X9_findFar d lm RT F pm_X9_findFar n) (1, ((1 : Nat) : Int), 0, 90, []) L st h := run_s rfl
theorem r_X9_findFar_90 : run E g mi_X9_findFar d lm RT F pm_X9_findFar (n + 1) 90 L st h = exI E d lm RT F (run E g mi_X9_findFar d lm RT F pm_X9_findFar n) (8, 0, 0, 91, []) L st h := run_s rfl
theorem r_X9_findFar_91 : run E g mi_X9_findFar d lm RT F pm_X9_findFar (n + 1) 91 L st h = exI E d lm RT F (run E g mi_X9_findFar d lm RT F pm_X9_findFar n) (38, 0, 0, 92, []) L st h := run_s rfl
theorem r_X9_findFar_92 : run E g mi_X9_findFar d lm RT F pm_X9_findFar (n + 1) 92 L st h = exI E d lm RT F (run E g mi_X9_findFar d lm RT F pm_X9_findFar n) (2, ((0 : Nat) : Int), 0, 93, []) L st h := run_s rfl
theorem r_X9_findFar_93 : run E g mi_X9_findFar d lm RT F pm_X9_findFar (n + 1) 93 L st h = exI E d lm RT F (run E g mi_X9_findFar d lm RT F pm_X9_findFar n) (35, ((9 : Nat) : Int), ((33 : Nat) : Int), 96, []) L st h := run_s rfl
theorem r_X9_findFar_96 : run E g mi_X9_findFar d lm RT F pm_X9_findFar (n + 1) 96 L st h = exI E d lm RT F (run E g mi_X9_findFar d lm RT F pm_X9_findFar n) (0, 8, 0, 98, []) L st h := run_s rfl
theorem r_X9_findFar_98 : run E g mi_X9_findFar d lm RT F pm_X9_findFar (n + 1) 98 L st h = exI E d lm RT F (run E g mi_X9_findFar d lm RT F pm_X9_findFar n) (1, ((1 : Nat) : Int), 0, 99, []) L st h := run_s rfl
theorem r_X9_findFar_99 : run E g mi_X9_findFar d lm RT F pm_X9_findFar (n + 1) 99 L st h = exI E d lm RT F (run E g mi_X9_findFar d lm RT F pm_X9_findFar n) (10, 0, 0, 100, []) L st h := run_s rfl
theorem r_X9_findFar_100 : run E g mi_X9_findFar d lm RT F pm_X9_findFar (n + 1) 100 L st h = exI E d lm RT F (run E g mi_X9_findFar d lm RT F pm_X9_findFar n) (1, ((2 : Nat) : Int), 0, 101, []) L st h := run_s rfl
theorem r_X9_findFar_101 : run E g mi_X9_findFar d lm RT F pm_X9_findFar (n + 1) 101 L st h = exI E d lm RT F (run E g mi_X9_findFar d lm RT F pm_X9_findFar n) (0, 8, 0, 103, []) L st h := run_s rfl
theorem r_X9_findFar_103 : run E g mi_X9_findFar d lm RT F pm_X9_findFar (n + 1) 103 L st h = exI E d lm RT F (run E g mi_X9_findFar d lm RT F pm_X9_findFar n) (12, 0, 0, 104, []) L st h := run_s rfl
theorem r_X9_findFar_104 : run E g mi_X9_findFar d lm RT F pm_X9_findFar (n + 1) 104 L st h = exI E d lm RT F (run E g mi_X9_findFar d lm RT F pm_X9_findFar n) (8, 0, 0, 105, []) L st h := run_s rfl
theorem r_X9_findFar_105 : run E g mi_X9_findFar d lm RT F pm_X9_findFar (n + 1) 105 L st h = exI E d lm RT F (run E g mi_X9_findFar d lm RT F pm_X9_findFar n) (38, 0, 0, 106, []) L st h := run_s rfl
theorem r_X9_findFar_106 : run E g mi_X9_findFar d lm RT F pm_X9_findFar (n + 1) 106 L st h = exI E d lm RT F (run E g mi_X9_findFar d lm RT F pm_X9_findFar n) (8, 0, 0, 107, []) L st h := run_s rfl
theorem r_X9_findFar_107 : run E g mi_X9_findFar d lm RT F pm_X9_findFar (n + 1) 107 L st h = exI E d lm RT F (run E g mi_X9_findFar d lm RT F pm_X9_findFar n) (4, ((3 : Nat) : Int), 0, 108, []) L st h := run_s rfl
theorem r_X9_findFar_108 : run E g mi_X9_findFar d lm RT F pm_X9_findFar (n + 1) 108 L st h = exI E d lm RT F (run E g mi_X9_findFar d lm RT F pm_X9_findFar n) (2, ((0 : Nat) : Int), 0, 109, []) L st h := run_s rfl
theorem r_X9_findFar_109 : run E g mi_X9_findFar d lm RT F pm_X9_findFar (n + 1) 109 L st h = exI E d lm RT F (run E g mi_X9_findFar d lm RT F pm_X9_findFar n) (35, ((9 : Nat) : Int), ((33 : Nat) : Int), 112, []) L st h := run_s rfl
theorem r_X9_findFar_112 : run E g mi_X9_findFar d lm RT F pm_X9_findFar (n + 1) 112 L st h = exI E d lm RT F (run E g mi_X9_findFar d lm RT F pm_X9_findFar n) (1, ((2 : Nat) : Int), 0, 113, []) L st h := run_s rfl
theorem r_X9_findFar_113 : run E g mi_X9_findFar d lm RT F pm_X9_findFar (n + 1) 113 L st h = exI E d lm RT F (run E g mi_X9_findFar d lm RT F pm_X9_findFar n) (1, ((3 : Nat) : Int), 0, 114, []) L st h := run_s rfl
theorem r_X9_findFar_114 : run E g mi_X9_findFar d lm RT F pm_X9_findFar (n + 1) 114 L st h = exI E d lm RT F (run E g mi_X9_findFar d lm RT F pm_X9_findFar n) (2, ((0 : Nat) : Int), 0, 115, []) L st h := run_s rfl
theorem r_X9_findFar_115 : run E g mi_X9_findFar d lm RT F pm_X9_findFar (n + 1) 115 L st h = exI E d lm RT F (run E g mi_X9_findFar d lm RT F pm_X9_findFar n) (35, ((9 : Nat) : Int), ((33 : Nat) : Int), 118, []) L st h := run_s rfl
theorem r_X9_findFar_118 : run E g mi_X9_findFar d lm RT F pm_X9_findFar (n + 1) 118 L st h = exI E d lm RT F (run E g mi_X9_findFar d lm RT F pm_X9_findFar n) (1, ((2 : Nat) : Int), 0, 119, []) L st h := run_s rfl
theorem r_X9_findFar_119 : run E g mi_X9_findFar d lm RT F pm_X9_findFar (n + 1) 119 L st h = exI E d lm RT F (run E g mi_X9_findFar d lm RT F pm_X9_findFar n) (38, 0, 0, 120, []) L st h := run_s rfl
theorem r_X9_findFar_120 : run E g mi_X9_findFar d lm RT F pm_X9_findFar (n + 1) 120 L st h = exI E d lm RT F (run E g mi_X9_findFar d lm RT F pm_X9_findFar n) (32, 3, ((127 : Nat) : Int), 123, []) L st h := run_s rfl
theorem r_X9_findFar_123 : run E g mi_X9_findFar d lm RT F pm_X9_findFar (n + 1) 123 L st h = exI E d lm RT F (run E g mi_X9_findFar d lm RT F pm_X9_findFar n) (1, ((3 : Nat) : Int), 0, 124, []) L st h := run_s rfl
theorem r_X9_findFar_124 : run E g mi_X9_findFar d lm RT F pm_X9_findFar (n + 1) 124 L st h = exI E d lm RT F (run E g mi_X9_findFar d lm RT F pm_X9_findFar n) (33, ((133 : Nat) : Int), 0, 0, []) L st h := run_s rfl
theorem r_X9_findFar_127 : run E g mi_X9_findFar d lm RT F pm_X9_findFar (n + 1) 127 L st h = exI E d lm RT F (run E g mi_X9_findFar d lm RT F pm_X9_findFar n) (2, ((0 : Nat) : Int), 0, 128, []) L st h := run_s rfl
theorem r_X9_findFar_128 : run E g mi_X9_findFar d lm RT F pm_X9_findFar (n + 1) 128 L st h = exI E d lm RT F (run E g mi_X9_findFar d lm RT F pm_X9_findFar n) (35, ((9 : Nat) : Int), ((33 : Nat) : Int), 131, []) L st h := run_s rfl
theorem r_X9_findFar_131 : run E g mi_X9_findFar d lm RT F pm_X9_findFar (n + 1) 131 L st h = exI E d lm RT F (run E g mi_X9_findFar d lm RT F pm_X9_findFar n) (1, ((2 : Nat) : Int), 0, 132, []) L st h := run_s rfl
theorem r_X9_findFar_132 : run E g mi_X9_findFar d lm RT F pm_X9_findFar (n + 1) 132 L st h = exI E d lm RT F (run E g mi_X9_findFar d lm RT F pm_X9_findFar n) (38, 0, 0, 133, []) L st h := run_s rfl
theorem r_X9_findFar_133 : run E g mi_X9_findFar d lm RT F pm_X9_findFar (n + 1) 133 L st h = exI E d lm RT F (run E g mi_X9_findFar d lm RT F pm_X9_findFar n) (39, 0, 0, 134, []) L st h := run_s rfl
theorem r_X9_findFar_134 : run E g mi_X9_findFar d lm RT F pm_X9_findFar (n + 1) 134 L st h = exI E d lm RT F (run E g mi_X9_findFar d lm RT F pm_X9_findFar n) (7, ((2 : Nat) : Int), 1, 137, []) L st h := run_s rfl
theorem r_X9_findFar_137 : run E g mi_X9_findFar d lm RT F pm_X9_findFar (n + 1) 137 L st h = exI E d lm RT F (run E g mi_X9_findFar d lm RT F pm_X9_findFar n) (33, ((72 : Nat) : Int), 0, 0, []) L st h := run_s rfl
theorem r_X9_findFar_140 : run E g mi_X9_findFar d lm RT F pm_X9_findFar (n + 1) 140 L st h = exI E d lm RT F (run E g mi_X9_findFar d lm RT F pm_X9_findFar n) (7, ((1 : Nat) : Int), 1, 143, []) L st h := run_s rfl
theorem r_X9_findFar_143 : run E g mi_X9_findFar d lm RT F pm_X9_findFar (n + 1) 143 L st h = exI E d lm RT F (run E g mi_X9_findFar d lm RT F pm_X9_findFar n) (33, ((64 : Nat) : Int), 0, 0, []) L st h := run_s rfl
theorem r_X9_findFar_146 : run E g mi_X9_findFar d lm RT F pm_X9_findFar (n + 1) 146 L st h = exI E d lm RT F (run E g mi_X9_findFar d lm RT F pm_X9_findFar n) (48, 4, 0, 0, []) L st h := run_s rfl
theorem e_X9_findFar (n : Nat) {pc : Nat} (hF : FOk E d F) (hx : run E g mi_X9_findFar d lm RT F pm_X9_findFar n pc L st h) : G E g mi_X9_findFar d lm RT pc L st h := run_sound hF pk_X9_findFar n pc L st h hx
end
def mi_X9_shortest : MI := (9, cX9_shortest, 3, 0, false)
theorem mo_X9_shortest : miOk mi_X9_shortest (mt 141) = true := by decide +kernel
def tl_X9_shortest : List (Nat × PT) := [(0, (1, ((1 : Nat) : Int), 0, 1, [])),
  (1, (45, ((91 : Nat) : Int), ((1 : Nat) : Int), 4, [])),
  (4, (31, 0, ((14 : Nat) : Int), 7, [])),
  (7, (1, ((2 : Nat) : Int), 0, 8, [])),
  (8, (45, ((91 : Nat) : Int), ((1 : Nat) : Int), 11, [])),
  (11, (31, 1, ((16 : Nat) : Int), 14, [])),
  (14, (0, (-1), 0, 15, [])),
  (15, (48, 0, 0, 0, [])),
  (16, (1, ((1 : Nat) : Int), 0, 17, [])),
  (17, (1, ((2 : Nat) : Int), 0, 18, [])),
  (18, (32, 1, ((24 : Nat) : Int), 21, [])),
  (21, (0, (-3), 0, 23, [])),
  (23, (48, 0, 0, 0, [])),
  (24, (2, ((0 : Nat) : Int), 0, 25, [])),
  (25, (51, ((140 : Nat) : Int), ((1 : Nat) : Int), 28, [9])),
  (28, (2, ((0 : Nat) : Int), 0, 29, [])),
  (29, (35, ((9 : Nat) : Int), ((33 : Nat) : Int), 32, [])),
  (32, (0, 8, 0, 34, [])),
  (34, (1, ((1 : Nat) : Int), 0, 35, [])),
  (35, (10, 0, 0, 36, [])),
  (36, (1, ((2 : Nat) : Int), 0, 37, [])),
  (37, (8, 0, 0, 38, [])),
  (38, (38, 0, 0, 39, [])),
  (39, (0, 1000000, 0, 41, [])),
  (41, (32, 2, ((49 : Nat) : Int), 44, [])),
  (44, (0, (-9), 0, 46, [])),
  (46, (33, ((60 : Nat) : Int), 0, 0, [])),
  (49, (2, ((0 : Nat) : Int), 0, 50, [])),
  (50, (35, ((9 : Nat) : Int), ((33 : Nat) : Int), 53, [])),
  (53, (0, 8, 0, 55, [])),
  (55, (1, ((1 : Nat) : Int), 0, 56, [])),
  (56, (10, 0, 0, 57, [])),
  (57, (1, ((2 : Nat) : Int), 0, 58, [])),
  (58, (8, 0, 0, 59, [])),
  (59, (38, 0, 0, 60, [])),
  (60, (48, 0, 0, 0, []))]
theorem tk_X9_shortest : tOk mi_X9_shortest tl_X9_shortest = true := by decide +kernel
def pm_X9_shortest (pc : Nat) : Option PT := if [].contains pc then none else tl_X9_shortest.lookup pc
theorem pk_X9_shortest : ∀ pc pt, pm_X9_shortest pc = some pt → okPt mi_X9_shortest pc pt := fun pc pt h => tOk_pm tk_X9_shortest h
section
variable {E : ET} {g : GT} {d : Nat} {lm : Nat × Nat} {RT : RTy} {F : FT} {n : Nat} {L : LV} {st : List AV} {h : AH}
theorem r_X9_shortest_0 : run E g mi_X9_shortest d lm RT F pm_X9_shortest (n + 1) 0 L st h = exI E d lm RT F (run E g mi_X9_shortest d lm RT F pm_X9_shortest n) (1, ((1 : Nat) : Int), 0, 1, []) L st h := run_s rfl
theorem r_X9_shortest_1 : run E g mi_X9_shortest d lm RT F pm_X9_shortest (n + 1) 1 L st h = exI E d lm RT F (run E g mi_X9_shortest d lm RT F pm_X9_shortest n) (45, ((91 : Nat) : Int), ((1 : Nat) : Int), 4, []) L st h := run_s rfl
theorem r_X9_shortest_4 : run E g mi_X9_shortest d lm RT F pm_X9_shortest (n + 1) 4 L st h = exI E d lm RT F (run E g mi_X9_shortest d lm RT F pm_X9_shortest n) (31, 0, ((14 : Nat) : Int), 7, []) L st h := run_s rfl
theorem r_X9_shortest_7 : run E g mi_X9_shortest d lm RT F pm_X9_shortest (n + 1) 7 L st h = exI E d lm RT F (run E g mi_X9_shortest d lm RT F pm_X9_shortest n) (1, ((2 : Nat) : Int), 0, 8, []) L st h := run_s rfl
theorem r_X9_shortest_8 : run E g mi_X9_shortest d lm RT F pm_X9_shortest (n + 1) 8 L st h = exI E d lm RT F (run E g mi_X9_shortest d lm RT F pm_X9_shortest n) (45, ((91 : Nat) : Int), ((1 : Nat) : Int), 11, []) L st h := run_s rfl
theorem r_X9_shortest_11 : run E g mi_X9_shortest d lm RT F pm_X9_shortest (n + 1) 11 L st h = exI E d lm RT F (run E g mi_X9_shortest d lm RT F pm_X9_shortest n) (31, 1, ((16 : Nat) : Int), 14, []) L st h := run_s rfl
theorem r_X9_shortest_14 : run E g mi_X9_shortest d lm RT F pm_X9_shortest (n + 1) 14 L st h = exI E d lm RT F (run E g mi_X9_shortest d lm RT F pm_X9_shortest n) (0, (-1), 0, 15, []) L st h := run_s rfl
theorem r_X9_shortest_15 : run E g mi_X9_shortest d lm RT F pm_X9_shortest (n + 1) 15 L st h = exI E d lm RT F (run E g mi_X9_shortest d lm RT F pm_X9_shortest n) (48, 0, 0, 0, []) L st h := run_s rfl
theorem r_X9_shortest_16 : run E g mi_X9_shortest d lm RT F pm_X9_shortest (n + 1) 16 L st h = exI E d lm RT F (run E g mi_X9_shortest d lm RT F pm_X9_shortest n) (1, ((1 : Nat) : Int), 0, 17, []) L st h := run_s rfl
theorem r_X9_shortest_17 : run E g mi_X9_shortest d lm RT F pm_X9_shortest (n + 1) 17 L st h = exI E d lm RT F (run E g mi_X9_shortest d lm RT F pm_X9_shortest n) (1, ((2 : Nat) : Int), 0, 18, []) L st h := run_s rfl
theorem r_X9_shortest_18 : run E g mi_X9_shortest d lm RT F pm_X9_shortest (n + 1) 18 L st h = exI E d lm RT F (run E g mi_X9_shortest d lm RT F pm_X9_shortest n) (32, 1, ((24 : Nat) : Int), 21, []) L st h := run_s rfl
theorem r_X9_shortest_21 : run E g mi_X9_shortest d lm RT F pm_X9_shortest (n + 1) 21 L st h = exI E d lm RT F (run E g mi_X9_shortest d lm RT F pm_X9_shortest n) (0, (-3), 0, 23, []) L st h := run_s rfl
theorem r_X9_shortest_23 : run E g mi_X9_shortest d lm RT F pm_X9_shortest (n + 1) 23 L st h = exI E d lm RT F (run E g mi_X9_shortest d lm RT F pm_X9_shortest n) (48, 0, 0, 0, []) L st h := run_s rfl
theorem r_X9_shortest_24 : run E g mi_X9_shortest d lm RT F pm_X9_shortest (n + 1) 24 L st h = exI E d lm RT F (run E g mi_X9_shortest d lm RT F pm_X9_shortest n) (2, ((0 : Nat) : Int), 0, 25, []) L st h := run_s rfl
theorem r_X9_shortest_25 : run E g mi_X9_shortest d lm RT F pm_X9_shortest (n + 1) 25 L st h = exI E d lm RT F (run E g mi_X9_shortest d lm RT F pm_X9_shortest n) (51, ((140 : Nat) : Int), ((1 : Nat) : Int), 28, [9]) L st h := run_s rfl
theorem r_X9_shortest_28 : run E g mi_X9_shortest d lm RT F pm_X9_shortest (n + 1) 28 L st h = exI E d lm RT F (run E g mi_X9_shortest d lm RT F pm_X9_shortest n) (2, ((0 : Nat) : Int), 0, 29, []) L st h := run_s rfl
theorem r_X9_shortest_29 : run E g mi_X9_shortest d lm RT F pm_X9_shortest (n + 1) 29 L st h = exI E d lm RT F (run E g mi_X9_shortest d lm RT F pm_X9_shortest n) (35, ((9 : Nat) : Int), ((33 : Nat) : Int), 32, []) L st h := run_s rfl
theorem r_X9_shortest_32 : run E g mi_X9_shortest d lm RT F pm_X9_shortest (n + 1) 32 L st h = exI E d lm RT F (run E g mi_X9_shortest d lm RT F pm_X9_shortest n) (0, 8, 0, 34, []) L st h := run_s rfl
theorem r_X9_shortest_34 : run E g mi_X9_shortest d lm RT F pm_X9_shortest (n + 1) 34 L st h = exI E d lm RT F (run E g mi_X9_shortest d lm RT F pm_X9_shortest n) (1, ((1 : Nat) : Int), 0, 35, []) L st h := run_s rfl
theorem r_X9_shortest_35 : run E g mi_X9_shortest d lm RT F pm_X9_shortest (n + 1) 35 L st h = exI E d lm RT F (run E g mi_X9_shortest d lm RT F pm_X9_shortest n) (10, 0, 0, 36, []) L st h := run_s rfl
theorem r_X9_shortest_36 : run E g mi_X9_shortest d lm RT F pm_X9_shortest (n + 1) 36 L st h = exI E d lm RT F (run E g mi_X9_shortest d lm RT F pm_X9_shortest n) (1, ((2 : Nat) : Int), 0, 37, []) L st h := run_s rfl
theorem r_X9_shortest_37 : run E g mi_X9_shortest d lm RT F pm_X9_shortest (n + 1) 37 L st h = exI E d lm RT F (run E g mi_X9_shortest d lm RT F pm_X9_shortest n) (8, 0, 0, 38, []) L st h := run_s rfl
theorem r_X9_shortest_38 : run E g mi_X9_shortest d lm RT F pm_X9_shortest (n + 1) 38 L st h = exI E d lm RT F (run E g mi_X9_shortest d lm RT F pm_X9_shortest n) (38, 0, 0, 39, []) L st h := run_s rfl
theorem r_X9_shortest_39 : run E g mi_X9_shortest d lm RT F pm_X9_shortest (n + 1) 39 L st h = exI E d lm RT F (run E g mi_X9_shortest d lm RT F pm_X9_shortest n) (0, 1000000, 0, 41, []) L st h := run_s rfl
theorem r_X9_shortest_41 : run E g mi_X9_shortest d lm RT F pm_X9_shortest (n + 1) 41 L st h = exI E d lm RT F (run E g mi_X9_shortest d lm RT F pm_X9_shortest n) (32, 2, ((49 : Nat) : Int), 44, []) L st h := run_s rfl
theorem r_X9_shortest_44 : run E g mi_X9_shortest d lm RT F pm_X9_shortest (n + 1) 44 L st h = exI E d lm RT F (run E g mi_X9_shortest d lm RT F pm_X9_shortest n) (0, (-9), 0, 46, []) L st h := run_s rfl
theorem r_X9_shortest_46 : run E g mi_X9_shortest d lm RT F pm_X9_shortest (n + 1) 46 L st h = exI E d lm RT F (run E g mi_X9_shortest d lm RT F pm_X9_shortest n) (33, ((60 : Nat) : Int), 0, 0, []) L st h := run_s rfl
theorem r_X9_shortest_49 : run E g mi_X9_shortest d lm RT F pm_X9_shortest (n + 1) 49 L st h = exI E d lm RT F (run E g mi_X9_shortest d lm RT F pm_X9_shortest n) (2, ((0 : Nat) : Int), 0, 50, []) L st h := run_s rfl
theorem r_X9_shortest_50 : run E g mi_X9_shortest d lm RT F pm_X9_shortest (n + 1) 50 L st h = exI E d lm RT F (run E g mi_X9_shortest d lm RT F pm_X9_shortest n) (35, ((9 : Nat) : Int), ((33 : Nat) : Int), 53, []) L st h := run_s rfl
theorem r_X9_shortest_53 : run E g mi_X9_shortest d lm RT F pm_X9_shortest (n + 1) 53 L st h = exI E d lm RT F (run E g mi_X9_shortest d lm RT F pm_X9_shortest n) (0, 8, 0, 55, []) L st h := run_s rfl
theorem r_X9_shortest_55 : run E g mi_X9_shortest d lm RT F pm_X9_shortest (n + 1) 55 L st h = exI E d lm RT F (run E g mi_X9_shortest d lm RT F pm_X9_shortest n) (1, ((1 : Nat) : Int), 0, 56, []) L st h := run_s rfl
theorem r_X9_shortest_56 : run E g mi_X9_shortest d lm RT F pm_X9_shortest (n + 1) 56 L st h = exI E d lm RT F (run E g mi_X9_shortest d lm RT F pm_X9_shortest n) (10, 0, 0, 57, []) L st h := run_s rfl
theorem r_X9_shortest_57 : run E g mi_X9_shortest d lm RT F pm_X9_shortest (n + 1) 57 L st h = exI E d lm RT F (run E g mi_X9_shortest d lm RT F pm_X9_shortest n) (1, ((2 : Nat) : Int), 0, 58, []) L st h := run_s rfl
theorem r_X9_shortest_58 : run E g mi_X9_shortest d lm RT F pm_X9_shortest (n + 1) 58 L st h = exI E d lm RT F (run E g mi_X9_shortest d lm RT F pm_X9_shortest n) (8, 0, 0, 59, []) L st h := run_s rfl
theorem r_X9_shortest_59 : run E g mi_X9_shortest d lm RT F pm_X9_shortest (n + 1) 59 L st h = exI E d lm RT F (run E g mi_X9_shortest d lm RT F pm_X9_shortest n) (38, 0, 0, 60, []) L st h := run_s rfl
theorem r_X9_shortest_60 : run E g mi_X9_shortest d lm RT F pm_X9_shortest (n + 1) 60 L st h = exI E d lm RT F (run E g mi_X9_shortest d lm RT F pm_X9_shortest n) (48, 0, 0, 0, []) L st h := run_s rfl
theorem e_X9_shortest (n : Nat) {pc : Nat} (hF : FOk E d F) (hx : run E g mi_X9_shortest d lm RT F pm_X9_shortest n pc L st h) : G E g mi_X9_shortest d lm RT pc L st h := run_sound hF pk_X9_shortest n pc L st h hx
end
def mi_X9_right : MI := (9, cX9_right, 6, 0, false)
theorem mo_X9_right : miOk mi_X9_right (mt 142) = true := by decide +kernel
def tl_X9_right : List (Nat × PT) := [(0, (2, ((0 : Nat) : Int), 0, 1, [])),
  (1, (51, ((140 : Nat) : Int), ((1 : Nat) : Int), 4, [9])),
  (4, (0, 0, 0, 5, [])),
  (5, (4, ((1 : Nat) : Int), 0, 6, [])),
  (6, (0, 0, 0, 7, [])),
  (7, (4, ((2 : Nat) : Int), 0, 8, [])),
  (8, (1, ((2 : Nat) : Int), 0, 9, [])),
  (9, (0, 64, 0, 11, [])),
  (11, (32, 3, ((107 : Nat) : Int), 14, [])),
  (14, (1, ((2 : Nat) : Int), 0, 15, [])),
  (15, (0, 8, 0, 17, [])),
  (17, (11, 0, 0, 18, [])),
  (18, (4, ((3 : Nat) : Int), 0, 19, [])),
  (19, (1, ((2 : Nat) : Int), 0, 20, [])),
  (20, (0, 8, 0, 22, [])),
  (22, (12, 0, 0, 23, [])),
  (23, (4, ((4 : Nat) : Int), 0, 25, [])),
  (25, (1, ((3 : Nat) : Int), 0, 26, [])),
  (26, (1, ((4 : Nat) : Int), 0, 28, [])),
  (28, (32, 0, ((101 : Nat) : Int), 31, [])),
  (31, (2, ((0 : Nat) : Int), 0, 32, [])),
  (32, (35, ((9 : Nat) : Int), ((33 : Nat) : Int), 35, [])),
  (35, (1, ((2 : Nat) : Int), 0, 36, [])),
  (36, (38, 0, 0, 37, [])),
  (37, (0, 1000000, 0, 39, [])),
  (39, (32, 3, ((101 : Nat) : Int), 42, [])),
  (42, (2, ((0 : Nat) : Int), 0, 43, [])),
  (43, (1, ((3 : Nat) : Int), 0, 44, [])),
  (44, (0, 8, 0, 46, [])),
  (46, (1, ((2 : Nat) : Int), 0, 47, [])),
  (47, (10, 0, 0, 48, [])),
  (48, (51, ((110 : Nat) : Int), ((3 : Nat) : Int), 51, [9])),
  (51, (4, ((5 : Nat) : Int), 0, 53, [])),
  (53, (1, ((1 : Nat) : Int), 0, 54, [])),
  (54, (2, ((0 : Nat) : Int), 0, 55, [])),
  (55, (35, ((9 : Nat) : Int), ((3 : Nat) : Int), 58, [])),
  (58, (2, ((0 : Nat) : Int), 0, 59, [])),
  (59, (35, ((9 : Nat) : Int), ((4 : Nat) : Int), 62, [])),
  (62, (0, 8, 0, 64, [])),
  (64, (1, ((3 : Nat) : Int), 0, 65, [])),
  (65, (10, 0, 0, 66, [])),
  (66, (1, ((5 : Nat) : Int), 0, 68, [])),
  (68, (8, 0, 0, 69, [])),
  (69, (38, 0, 0, 70, [])),
  (70, (38, 0, 0, 71, [])),
  (71, (2, ((0 : Nat) : Int), 0, 72, [])),
  (72, (35, ((9 : Nat) : Int), ((33 : Nat) : Int), 75, [])),
  (75, (0, 8, 0, 77, [])),
  (77, (1, ((5 : Nat) : Int), 0, 79, [])),
  (79, (10, 0, 0, 80, [])),
  (80, (1, ((4 : Nat) : Int), 0, 82, [])),
  (82, (8, 0, 0, 83, [])),
  (83, (38, 0, 0, 84, [])),
  (84, (8, 0, 0, 85, [])),
  (85, (2, ((0 : Nat) : Int), 0, 86, [])),
  (86, (35, ((9 : Nat) : Int), ((33 : Nat) : Int), 89, [])),
  (89, (1, ((2 : Nat) : Int), 0, 90, [])),
  (90, (38, 0, 0, 91, [])),
  (91, (32, 1, ((98 : Nat) : Int), 94, [])),
  (94, (0, 1, 0, 95, [])),
  (95, (33, ((99 : Nat) : Int), 0, 0, [])),
  (98, (0, 0, 0, 99, [])),
  (99, (8, 0, 0, 100, [])),
  (100, (4, ((1 : Nat) : Int), 0, 101, [])),
  (101, (7, ((2 : Nat) : Int), 1, 104, [])),
  (104, (33, ((8 : Nat) : Int), 0, 0, [])),
  (107, (1, ((1 : Nat) : Int), 0, 108, [])),
  (108, (48, 0, 0, 0, []))]
theorem tk_X9_right_0 : tOk mi_X9_right ((tl_X9_right.drop 0).take 45) = true := by decide +kernel
theorem tk_X9_right_1 : tOk mi_X9_right ((tl_X9_right.drop 45).take 45) = true := by decide +kernel
theorem tk_X9_right : tOk mi_X9_right tl_X9_right = true := by
  refine tOk_cut 45 (by decide) (fun q hq => ?_)
  have hl : tl_X9_right.length = 68 := by decide +kernel
  rw [hl] at hq
  rcases (show q = 0 ∨ q = 1 by omega) with rfl | rfl
  · exact tk_X9_right_0
  · exact tk_X9_right_1
def pm_X9_right (pc : Nat) : Option PT := if [8].contains pc then none else tl_X9_right.lookup pc
theorem pk_X9_right : ∀ pc pt, pm_X9_right pc = some pt → okPt mi_X9_right pc pt := fun pc pt h => tOk_pm tk_X9_right h
section
variable {E : ET} {g : GT} {d : Nat} {lm : Nat × Nat} {RT : RTy} {F : FT} {n : Nat} {L : LV} {st : List AV} {h : AH}
theorem r_X9_right_0 : run E g mi_X9_right d lm RT F pm_X9_right (n + 1) 0 L st h = exI E d lm RT F (run E g mi_X9_right d lm RT F pm_X9_right n) (2, ((0 : Nat) : Int), 0, 1, []) L st h := run_s rfl
theorem r_X9_right_1 : run E g mi_X9_right d lm RT F pm_X9_right (n + 1) 1 L st h = exI E d lm RT F (run E g mi_X9_right d lm RT F pm_X9_right n) (51, ((140 : Nat) : Int), ((1 : Nat) : Int), 4, [9]) L st h := run_s rfl
theorem r_X9_right_4 : run E g mi_X9_right d lm RT F pm_X9_right (n + 1) 4 L st h = exI E d lm RT F (run E g mi_X9_right d lm RT F pm_X9_right n) (0, 0, 0, 5, []) L st h := run_s rfl
theorem r_X9_right_5 : run E g mi_X9_right d lm RT F pm_X9_right (n + 1) 5 L st h = exI E d lm RT F (run E g mi_X9_right d lm RT F pm_X9_right n) (4, ((1 : Nat) : Int), 0, 6, []) L st h := run_s rfl
theorem r_X9_right_6 : run E g mi_X9_right d lm RT F pm_X9_right (n + 1) 6 L st h = exI E d lm RT F (run E g mi_X9_right d lm RT F pm_X9_right n) (0, 0, 0, 7, []) L st h := run_s rfl
theorem r_X9_right_7 : run E g mi_X9_right d lm RT F pm_X9_right (n + 1) 7 L st h = exI E d lm RT F (run E g mi_X9_right d lm RT F pm_X9_right n) (4, ((2 : Nat) : Int), 0, 8, []) L st h := run_s rfl
theorem r_X9_right_8 : run E g mi_X9_right d lm RT F pm_X9_right (n + 1) 8 L st h = G E g mi_X9_right d lm RT 8 L st h := run_c rfl
theorem q_X9_right_8 (n : Nat) (hF : FOk E d F) (hx : exI E d lm RT F (run E g mi_X9_right d lm RT F pm_X9_right n) (1, ((2 : Nat) : Int), 0, 9, []) L st h) : G E g mi_X9_right d lm RT 8 L st h := sstep hF (tOk_spec tk_X9_right (by decide +kernel)) (run_sound hF pk_X9_right n) hx
theorem r_X9_right_9 : run E g mi_X9_right d lm RT F pm_X9_right (n + 1) 9 L st h = exI E d lm RT F (run E g mi_X9_right d lm RT F pm_X9_right n) (0, 64, 0, 11, []) L st h := run_s rfl
theorem r_X9_right_11 : run E g mi_X9_right d lm RT F pm_X9_right (n + 1) 11 L st h = exI E d lm RT F (run E g mi_X9_right d lm RT F pm_X9_right n) (32, 3, ((107 : Nat) : Int), 14, []) L st h := run_s rfl
theorem r_X9_right_14 : run E g mi_X9_right d lm RT F pm_X9_right (n + 1) 14 L st h = exI E d lm RT F (run E g mi_X9_right d lm RT F pm_X9_right n) (1, ((2 : Nat) : Int), 0, 15, []) L st h := run_s rfl
theorem r_X9_right_15 : run E g mi_X9_right d lm RT F pm_X9_right (n + 1) 15 L st h = exI E d lm RT F (run E g mi_X9_right d lm RT F pm_X9_right n) (0, 8, 0, 17, []) L st h := run_s rfl
theorem r_X9_right_17 : run E g mi_X9_right d lm RT F pm_X9_right (n + 1) 17 L st h = exI E d lm RT F (run E g mi_X9_right d lm RT F pm_X9_right n) (11, 0, 0, 18, []) L st h := run_s rfl
theorem r_X9_right_18 : run E g mi_X9_right d lm RT F pm_X9_right (n + 1) 18 L st h = exI E d lm RT F (run E g mi_X9_right d lm RT F pm_X9_right n) (4, ((3 : Nat) : Int), 0, 19, []) L st h := run_s rfl
theorem r_X9_right_19 : run E g mi_X9_right d lm RT F pm_X9_right (n + 1) 19 L st h = exI E d lm RT F (run E g mi_X9_right d lm RT F pm_X9_right n) (1, ((2 : Nat) : Int), 0, 20, []) L st h := run_s rfl
theorem r_X9_right_20 : run E g mi_X9_right d lm RT F pm_X9_right (n + 1) 20 L st h = exI E d lm RT F (run E g mi_X9_right d lm RT F pm_X9_right n) (0, 8, 0, 22, []) L st h := run_s rfl
theorem r_X9_right_22 : run E g mi_X9_right d lm RT F pm_X9_right (n + 1) 22 L st h = exI E d lm RT F (run E g mi_X9_right d lm RT F pm_X9_right n) (12, 0, 0, 23, []) L st h := run_s rfl
theorem r_X9_right_23 : run E g mi_X9_right d lm RT F pm_X9_right (n + 1) 23 L st h = exI E d lm RT F (run E g mi_X9_right d lm RT F pm_X9_right n) (4, ((4 : Nat) : Int), 0, 25, []) L st h := run_s rfl
theorem r_X9_right_25 : run E g mi_X9_right d lm RT F pm_X9_right (n + 1) 25 L st h = exI E d lm RT F (run E g mi_X9_right d lm RT F pm_X9_right n) (1, ((3 : Nat) : Int), 0, 26, []) L st h := run_s rfl
theorem r_X9_right_26 : run E g mi_X9_right d lm RT F pm_X9_right (n + 1) 26 L st h = exI E d lm RT F (run E g mi_X9_right d lm RT F pm_X9_right n) (1, ((4 : Nat) : Int), 0, 28, []) L st h := run_s rfl
theorem r_X9_right_28 : run E g mi_X9_right d lm RT F pm_X9_right (n + 1) 28 L st h = exI E d lm RT F (run E g mi_X9_right d lm RT F pm_X9_right n) (32, 0, ((101 : Nat) : Int), 31, []) L st h := run_s rfl
theorem r_X9_right_31 : run E g mi_X9_right d lm RT F pm_X9_right (n + 1) 31 L st h = exI E d lm RT F (run E g mi_X9_right d lm RT F pm_X9_right n) (2, ((0 : Nat) : Int), 0, 32, []) L st h := run_s rfl
theorem r_X9_right_32 : run E g mi_X9_right d lm RT F pm_X9_right (n + 1) 32 L st h = exI E d lm RT F (run E g mi_X9_right d lm RT F pm_X9_right n) (35, ((9 : Nat) : Int), ((33 : Nat) : Int), 35, []) L st h := run_s rfl
theorem r_X9_right_35 : run E g mi_X9_right d lm RT F pm_X9_right (n + 1) 35 L st h = exI E d lm RT F (run E g mi_X9_right d lm RT F pm_X9_right n) (1, ((2 : Nat) : Int), 0, 36, []) L st h := run_s rfl
theorem r_X9_right_36 : run E g mi_X9_right d lm RT F pm_X9_right (n + 1) 36 L st h = exI E d lm RT F (run E g mi_X9_right d lm RT F pm_X9_right n) (38, 0, 0, 37, []) L st h := run_s rfl
theorem r_X9_right_37 : run E g mi_X9_right d lm RT F pm_X9_right (n + 1) 37 L st h = exI E d lm RT F (run E g mi_X9_right d lm RT F pm_X9_right n) (0, 1000000, 0, 39, []) L st h := run_s rfl
theorem r_X9_right_39 : run E g mi_X9_right d lm RT F pm_X9_right (n + 1) 39 L st h = exI E d lm RT F (run E g mi_X9_right d lm RT F pm_X9_right n) (32, 3, ((101 : Nat) : Int), 42, []) L st h := run_s rfl
theorem r_X9_right_42 : run E g mi_X9_right d lm RT F pm_X9_right (n + 1) 42 L st h = exI E d lm RT F (run E g mi_X9_right d lm RT F pm_X9_right n) (2, ((0 : Nat) : Int), 0, 43, []) L st h := run_s rfl
theorem r_X9_right_43 : run E g mi_X9_right d lm RT F pm_X9_right (n + 1) 43 L st h = exI E d lm RT F (run E g mi_X9_right d lm RT F pm_X9_right n) (1, ((3 : Nat) : Int), 0, 44, []) L st h := run_s rfl
theorem r_X9_right_44 : run E g mi_X9_right d lm RT F pm_X9_right (n + 1) 44 L st h = exI E d lm RT F (run E g mi_X9_right d lm RT F pm_X9_right n) (0, 8, 0, 46, []) L st h := run_s rfl
theorem r_X9_right_46 : run E g mi_X9_right d lm RT F pm_X9_right (n + 1) 46 L st h = exI E d lm RT F (run E g mi_X9_right d lm RT F pm_X9_right n) (1, ((2 : Nat) : Int), 0, 47, []) L st h := run_s rfl
theorem r_X9_right_47 : run E g mi_X9_right d lm RT F pm_X9_right (n + 1) 47 L st h = exI E d lm RT F (run E g mi_X9_right d lm RT F pm_X9_right n) (10, 0, 0, 48, []) L st h := run_s rfl
theorem r_X9_right_48 : run E g mi_X9_right d lm RT F pm_X9_right (n + 1) 48 L st h = exI E d lm RT F (run E g mi_X9_right d lm RT F pm_X9_right n) (51, ((110 : Nat) : Int), ((3 : Nat) : Int), 51, [9]) L st h := run_s rfl
theorem r_X9_right_51 : run E g mi_X9_right d lm RT F pm_X9_right (n + 1) 51 L st h = exI E d lm RT F (run E g mi_X9_right d lm RT F pm_X9_right n) (4, ((5 : Nat) : Int), 0, 53, []) L st h := run_s rfl
theorem r_X9_right_53 : run E g mi_X9_right d lm RT F pm_X9_right (n + 1) 53 L st h = exI E d lm RT F (run E g mi_X9_right d lm RT F pm_X9_right n) (1, ((1 : Nat) : Int), 0, 54, []) L st h := run_s rfl
theorem r_X9_right_54 : run E g mi_X9_right d lm RT F pm_X9_right (n + 1) 54 L st h = exI E d lm RT F (run E g mi_X9_right d lm RT F pm_X9_right n) (2, ((0 : Nat) : Int), 0, 55, []) L st h := run_s rfl
theorem r_X9_right_55 : run E g mi_X9_right d lm RT F pm_X9_right (n + 1) 55 L st h = exI E d lm RT F (run E g mi_X9_right d lm RT F pm_X9_right n) (35, ((9 : Nat) : Int), ((3 : Nat) : Int), 58, []) L st h := run_s rfl
theorem r_X9_right_58 : run E g mi_X9_right d lm RT F pm_X9_right (n + 1) 58 L st h = exI E d lm RT F (run E g mi_X9_right d lm RT F pm_X9_right n) (2, ((0 : Nat) : Int), 0, 59, []) L st h := run_s rfl
theorem r_X9_right_59 : run E g mi_X9_right d lm RT F pm_X9_right (n + 1) 59 L st h = exI E d lm RT F (run E g mi_X9_right d lm RT F pm_X9_right n) (35, ((9 : Nat) : Int), ((4 : Nat) : Int), 62, []) L st h := run_s rfl
theorem r_X9_right_62 : run E g mi_X9_right d lm RT F pm_X9_right (n + 1) 62 L st h = exI E d lm RT F (run E g mi_X9_right d lm RT F pm_X9_right n) (0, 8, 0, 64, []) L st h := run_s rfl
theorem r_X9_right_64 : run E g mi_X9_right d lm RT F pm_X9_right (n + 1) 64 L st h = exI E d lm RT F (run E g mi_X9_right d lm RT F pm_X9_right n) (1, ((3 : Nat) : Int), 0, 65, []) L st h := run_s rfl
theorem r_X9_right_65 : run E g mi_X9_right d lm RT F pm_X9_right (n + 1) 65 L st h = exI E d lm RT F (run E g mi_X9_right d lm RT F pm_X9_right n) (10, 0, 0, 66, []) L st h := run_s rfl
theorem r_X9_right_66 : run E g mi_X9_right d lm RT F pm_X9_right (n + 1) 66 L st h = exI E d lm RT F (run E g mi_X9_right d lm RT F pm_X9_right n) (1, ((5 : Nat) : Int), 0, 68, []) L st h := run_s rfl
theorem r_X9_right_68 : run E g mi_X9_right d lm RT F pm_X9_right (n + 1) 68 L st h = exI E d lm RT F (run E g mi_X9_right d lm RT F pm_X9_right n) (8, 0, 0, 69, []) L st h := run_s rfl
theorem r_X9_right_69 : run E g mi_X9_right d lm RT F pm_X9_right (n + 1) 69 L st h = exI E d lm RT F (run E g mi_X9_right d lm RT F pm_X9_right n) (38, 0, 0, 70, []) L st h := run_s rfl
theorem r_X9_right_70 : run E g mi_X9_right d lm RT F pm_X9_right (n + 1) 70 L st h = exI E d lm RT F (run E g mi_X9_right d lm RT F pm_X9_right n) (38, 0, 0, 71, []) L st h := run_s rfl
theorem r_X9_right_71 : run E g mi_X9_right d lm RT F pm_X9_right (n + 1) 71 L st h = exI E d lm RT F (run E g mi_X9_right d lm RT F pm_X9_right n) (2, ((0 : Nat) : Int), 0, 72, []) L st h := run_s rfl
theorem r_X9_right_72 : run E g mi_X9_right d lm RT F pm_X9_right (n + 1) 72 L st h = exI E d lm RT F (run E g mi_X9_right d lm RT F pm_X9_right n) (35, ((9 : Nat) : Int), ((33 : Nat) : Int), 75, []) L st h := run_s rfl
theorem r_X9_right_75 : run E g mi_X9_right d lm RT F pm_X9_right (n + 1) 75 L st h = exI E d lm RT F (run E g mi_X9_right d lm RT F pm_X9_right n) (0, 8, 0, 77, []) L st h := run_s rfl
theorem r_X9_right_77 : run E g mi_X9_right d lm RT F pm_X9_right (n + 1) 77 L st h = exI E d lm RT F (run E g mi_X9_right d lm RT F pm_X9_right n) (1, ((5 : Nat) : Int), 0, 79, []) L st h := run_s rfl
theorem r_X9_right_79 : run E g mi_X9_right d lm RT F pm_X9_right (n + 1) 79 L st h = exI E d lm RT F (run E g mi_X9_right d lm RT F pm_X9_right n) (10, 0, 0, 80, []) L st h := run_s rfl
theorem r_X9_right_80 : run E g mi_X9_right d lm RT F pm_X9_right (n + 1) 80 L st h = exI E d lm RT F (run E g mi_X9_right d lm RT F pm_X9_right n) (1, ((4 : Nat) : Int), 0, 82, []) L st h := run_s rfl
theorem r_X9_right_82 : run E g mi_X9_right d lm RT F pm_X9_right (n + 1) 82 L st h = exI E d lm RT F (run E g mi_X9_right d lm RT F pm_X9_right n) (8, 0, 0, 83, []) L st h := run_s rfl
theorem r_X9_right_83 : run E g mi_X9_right d lm RT F pm_X9_right (n + 1) 83 L st h = exI E d lm RT F (run E g mi_X9_right d lm RT F pm_X9_right n) (38, 0, 0, 84, []) L st h := run_s rfl
theorem r_X9_right_84 : run E g mi_X9_right d lm RT F pm_X9_right (n + 1) 84 L st h = exI E d lm RT F (run E g mi_X9_right d lm RT F pm_X9_right n) (8, 0, 0, 85, []) L st h := run_s rfl
theorem r_X9_right_85 : run E g mi_X9_right d lm RT F pm_X9_right (n + 1) 85 L st h = exI E d lm RT F (run E g mi_X9_right d lm RT F pm_X9_right n) (2, ((0 : Nat) : Int), 0, 86, []) L st h := run_s rfl
theorem r_X9_right_86 : run E g mi_X9_right d lm RT F pm_X9_right (n + 1) 86 L st h = exI E d lm RT F (run E g mi_X9_right d lm RT F pm_X9_right n) (35, ((9 : Nat) : Int), ((33 : Nat) : Int), 89, []) L st h := run_s rfl
theorem r_X9_right_89 : run E g mi_X9_right d lm RT F pm_X9_right (n + 1) 89 L st h = exI E d lm RT F (run E g mi_X9_right d lm RT F pm_X9_right n) (1, ((2 : Nat) : Int), 0, 90, []) L st h := run_s rfl
theorem r_X9_right_90 : run E g mi_X9_right d lm RT F pm_X9_right (n + 1) 90 L st h = exI E d lm RT F (run E g mi_X9_right d lm RT F pm_X9_right n) (38, 0, 0, 91, []) L st h := run_s rfl
theorem r_X9_right_91 : run E g mi_X9_right d lm RT F pm_X9_right (n + 1) 91 L st h = exI E d lm RT F (run E g mi_X9_right d lm RT F pm_X9_right n) (32, 1, ((98 : Nat) : Int), 94, []) L st h := run_s rfl
theorem r_X9_right_94 : run E g mi_X9_right d lm RT F pm_X9_right (n + 1) 94 L st h = exI E d lm RT F (run E g mi_X9_right d lm RT F pm_X9_right n) (0, 1, 0, 95, []) L st h := run_s rfl
theorem r_X9_right_95 : run E g mi_X9_right d lm RT F pm_X9_right (n + 1) 95 L st h = exI E d lm RT F (run E g mi_X9_right d lm RT F pm_X9_right n) (33, ((99 : Nat) : Int), 0, 0, []) L st h := run_s rfl
theorem r_X9_right_98 : run E g mi_X9_right d lm RT F pm_X9_right (n + 1) 98 L st h = exI E d lm RT F (run E g mi_X9_right d lm RT F pm_X9_right n) (0, 0, 0, 99, []) L st h := run_s rfl
theorem r_X9_right_99 : run E g mi_X9_right d lm RT F pm_X9_right (n + 1) 99 L st h = exI E d lm RT F (run E g mi_X9_right d lm RT F pm_X9_right n) (8, 0, 0, 100, []) L st h := run_s rfl
theorem r_X9_right_100 : run E g mi_X9_right d lm RT F pm_X9_right (n + 1) 100 L st h = exI E d lm RT F (run E g mi_X9_right d lm RT F pm_X9_right n) (4, ((1 : Nat) : Int), 0, 101, []) L st h := run_s rfl
theorem r_X9_right_101 : run E g mi_X9_right d lm RT F pm_X9_right (n + 1) 101 L st h = exI E d lm RT F (run E g mi_X9_right d lm RT F pm_X9_right n) (7, ((2 : Nat) : Int), 1, 104, []) L st h := run_s rfl
theorem r_X9_right_104 : run E g mi_X9_right d lm RT F pm_X9_right (n + 1) 104 L st h = exI E d lm RT F (run E g mi_X9_right d lm RT F pm_X9_right n) (33, ((8 : Nat) : Int), 0, 0, []) L st h := run_s rfl
theorem r_X9_right_107 : run E g mi_X9_right d lm RT F pm_X9_right (n + 1) 107 L st h = exI E d lm RT F (run E g mi_X9_right d lm RT F pm_X9_right n) (1, ((1 : Nat) : Int), 0, 108, []) L st h := run_s rfl
theorem r_X9_right_108 : run E g mi_X9_right d lm RT F pm_X9_right (n + 1) 108 L st h = exI E d lm RT F (run E g mi_X9_right d lm RT F pm_X9_right n) (48, 0, 0, 0, []) L st h := run_s rfl
theorem e_X9_right (n : Nat) {pc : Nat} (hF : FOk E d F) (hx : run E g mi_X9_right d lm RT F pm_X9_right n pc L st h) : G E g mi_X9_right d lm RT pc L st h := run_sound hF pk_X9_right n pc L st h hx
end
def mi_X9_manyWalkers : MI := (9, cX9_manyWalkers, 4, 0, false)
theorem mo_X9_manyWalkers : miOk mi_X9_manyWalkers (mt 143) = true := by decide +kernel
def tl_X9_manyWalkers : List (Nat × PT) := [(0, (0, 0, 0, 1, [])),
  (1, (4, ((2 : Nat) : Int), 0, 2, [])),
  (2, (0, 0, 0, 3, [])),
  (3, (4, ((3 : Nat) : Int), 0, 4, [])),
  (4, (1, ((3 : Nat) : Int), 0, 5, [])),
  (5, (0, 12, 0, 7, [])),
  (7, (32, 3, ((46 : Nat) : Int), 10, [])),
  (10, (1, ((2 : Nat) : Int), 0, 11, [])),
  (11, (2, ((0 : Nat) : Int), 0, 12, [])),
  (12, (35, ((9 : Nat) : Int), ((17 : Nat) : Int), 15, [])),
  (15, (1, ((3 : Nat) : Int), 0, 16, [])),
  (16, (38, 1, 0, 17, [])),
  (17, (31, 0, ((37 : Nat) : Int), 20, [])),
  (20, (1, ((1 : Nat) : Int), 0, 21, [])),
  (21, (31, 0, ((33 : Nat) : Int), 24, [])),
  (24, (2, ((0 : Nat) : Int), 0, 25, [])),
  (25, (35, ((9 : Nat) : Int), ((21 : Nat) : Int), 28, [])),
  (28, (1, ((3 : Nat) : Int), 0, 29, [])),
  (29, (38, 1, 0, 30, [])),
  (30, (31, 1, ((37 : Nat) : Int), 33, [])),
  (33, (0, 1, 0, 34, [])),
  (34, (33, ((38 : Nat) : Int), 0, 0, [])),
  (37, (0, 0, 0, 38, [])),
  (38, (8, 0, 0, 39, [])),
  (39, (4, ((2 : Nat) : Int), 0, 40, [])),
  (40, (7, ((3 : Nat) : Int), 1, 43, [])),
  (43, (33, ((4 : Nat) : Int), 0, 0, [])),
  (46, (1, ((2 : Nat) : Int), 0, 47, [])),
  (47, (48, 0, 0, 0, []))]
theorem tk_X9_manyWalkers : tOk mi_X9_manyWalkers tl_X9_manyWalkers = true := by decide +kernel
def pm_X9_manyWalkers (pc : Nat) : Option PT := if [4].contains pc then none else tl_X9_manyWalkers.lookup pc
theorem pk_X9_manyWalkers : ∀ pc pt, pm_X9_manyWalkers pc = some pt → okPt mi_X9_manyWalkers pc pt := fun pc pt h => tOk_pm tk_X9_manyWalkers h
section
variable {E : ET} {g : GT} {d : Nat} {lm : Nat × Nat} {RT : RTy} {F : FT} {n : Nat} {L : LV} {st : List AV} {h : AH}
theorem r_X9_manyWalkers_0 : run E g mi_X9_manyWalkers d lm RT F pm_X9_manyWalkers (n + 1) 0 L st h = exI E d lm RT F (run E g mi_X9_manyWalkers d lm RT F pm_X9_manyWalkers n) (0, 0, 0, 1, []) L st h := run_s rfl
theorem r_X9_manyWalkers_1 : run E g mi_X9_manyWalkers d lm RT F pm_X9_manyWalkers (n + 1) 1 L st h = exI E d lm RT F (run E g mi_X9_manyWalkers d lm RT F pm_X9_manyWalkers n) (4, ((2 : Nat) : Int), 0, 2, []) L st h := run_s rfl
theorem r_X9_manyWalkers_2 : run E g mi_X9_manyWalkers d lm RT F pm_X9_manyWalkers (n + 1) 2 L st h = exI E d lm RT F (run E g mi_X9_manyWalkers d lm RT F pm_X9_manyWalkers n) (0, 0, 0, 3, []) L st h := run_s rfl
theorem r_X9_manyWalkers_3 : run E g mi_X9_manyWalkers d lm RT F pm_X9_manyWalkers (n + 1) 3 L st h = exI E d lm RT F (run E g mi_X9_manyWalkers d lm RT F pm_X9_manyWalkers n) (4, ((3 : Nat) : Int), 0, 4, []) L st h := run_s rfl
theorem r_X9_manyWalkers_4 : run E g mi_X9_manyWalkers d lm RT F pm_X9_manyWalkers (n + 1) 4 L st h = G E g mi_X9_manyWalkers d lm RT 4 L st h := run_c rfl
theorem q_X9_manyWalkers_4 (n : Nat) (hF : FOk E d F) (hx : exI E d lm RT F (run E g mi_X9_manyWalkers d lm RT F pm_X9_manyWalkers n) (1, ((3 : Nat) : Int), 0, 5, []) L st h) : G E g mi_X9_manyWalkers d lm RT 4 L st h := sstep hF (tOk_spec tk_X9_manyWalkers (by decide +kernel)) (run_sound hF pk_X9_manyWalkers n) hx
theorem r_X9_manyWalkers_5 : run E g mi_X9_manyWalkers d lm RT F pm_X9_manyWalkers (n + 1) 5 L st h = exI E d lm RT F (run E g mi_X9_manyWalkers d lm RT F pm_X9_manyWalkers n) (0, 12, 0, 7, []) L st h := run_s rfl
theorem r_X9_manyWalkers_7 : run E g mi_X9_manyWalkers d lm RT F pm_X9_manyWalkers (n + 1) 7 L st h = exI E d lm RT F (run E g mi_X9_manyWalkers d lm RT F pm_X9_manyWalkers n) (32, 3, ((46 : Nat) : Int), 10, []) L st h := run_s rfl
theorem r_X9_manyWalkers_10 : run E g mi_X9_manyWalkers d lm RT F pm_X9_manyWalkers (n + 1) 10 L st h = exI E d lm RT F (run E g mi_X9_manyWalkers d lm RT F pm_X9_manyWalkers n) (1, ((2 : Nat) : Int), 0, 11, []) L st h := run_s rfl
theorem r_X9_manyWalkers_11 : run E g mi_X9_manyWalkers d lm RT F pm_X9_manyWalkers (n + 1) 11 L st h = exI E d lm RT F (run E g mi_X9_manyWalkers d lm RT F pm_X9_manyWalkers n) (2, ((0 : Nat) : Int), 0, 12, []) L st h := run_s rfl
theorem r_X9_manyWalkers_12 : run E g mi_X9_manyWalkers d lm RT F pm_X9_manyWalkers (n + 1) 12 L st h = exI E d lm RT F (run E g mi_X9_manyWalkers d lm RT F pm_X9_manyWalkers n) (35, ((9 : Nat) : Int), ((17 : Nat) : Int), 15, []) L st h := run_s rfl
theorem r_X9_manyWalkers_15 : run E g mi_X9_manyWalkers d lm RT F pm_X9_manyWalkers (n + 1) 15 L st h = exI E d lm RT F (run E g mi_X9_manyWalkers d lm RT F pm_X9_manyWalkers n) (1, ((3 : Nat) : Int), 0, 16, []) L st h := run_s rfl
theorem r_X9_manyWalkers_16 : run E g mi_X9_manyWalkers d lm RT F pm_X9_manyWalkers (n + 1) 16 L st h = exI E d lm RT F (run E g mi_X9_manyWalkers d lm RT F pm_X9_manyWalkers n) (38, 1, 0, 17, []) L st h := run_s rfl
theorem r_X9_manyWalkers_17 : run E g mi_X9_manyWalkers d lm RT F pm_X9_manyWalkers (n + 1) 17 L st h = exI E d lm RT F (run E g mi_X9_manyWalkers d lm RT F pm_X9_manyWalkers n) (31, 0, ((37 : Nat) : Int), 20, []) L st h := run_s rfl
theorem r_X9_manyWalkers_20 : run E g mi_X9_manyWalkers d lm RT F pm_X9_manyWalkers (n + 1) 20 L st h = exI E d lm RT F (run E g mi_X9_manyWalkers d lm RT F pm_X9_manyWalkers n) (1, ((1 : Nat) : Int), 0, 21, []) L st h := run_s rfl
theorem r_X9_manyWalkers_21 : run E g mi_X9_manyWalkers d lm RT F pm_X9_manyWalkers (n + 1) 21 L st h = exI E d lm RT F (run E g mi_X9_manyWalkers d lm RT F pm_X9_manyWalkers n) (31, 0, ((33 : Nat) : Int), 24, []) L st h := run_s rfl
theorem r_X9_manyWalkers_24 : run E g mi_X9_manyWalkers d lm RT F pm_X9_manyWalkers (n + 1) 24 L st h = exI E d lm RT F (run E g mi_X9_manyWalkers d lm RT F pm_X9_manyWalkers n) (2, ((0 : Nat) : Int), 0, 25, []) L st h := run_s rfl
theorem r_X9_manyWalkers_25 : run E g mi_X9_manyWalkers d lm RT F pm_X9_manyWalkers (n + 1) 25 L st h = exI E d lm RT F (run E g mi_X9_manyWalkers d lm RT F pm_X9_manyWalkers n) (35, ((9 : Nat) : Int), ((21 : Nat) : Int), 28, []) L st h := run_s rfl
theorem r_X9_manyWalkers_28 : run E g mi_X9_manyWalkers d lm RT F pm_X9_manyWalkers (n + 1) 28 L st h = exI E d lm RT F (run E g mi_X9_manyWalkers d lm RT F pm_X9_manyWalkers n) (1, ((3 : Nat) : Int), 0, 29, []) L st h := run_s rfl
theorem r_X9_manyWalkers_29 : run E g mi_X9_manyWalkers d lm RT F pm_X9_manyWalkers (n + 1) 29 L st h = exI E d lm RT F (run E g mi_X9_manyWalkers d lm RT F pm_X9_manyWalkers n) (38, 1, 0, 30, []) L st h := run_s rfl
theorem r_X9_manyWalkers_30 : run E g mi_X9_manyWalkers d lm RT F pm_X9_manyWalkers (n + 1) 30 L st h = exI E d lm RT F (run E g mi_X9_manyWalkers d lm RT F pm_X9_manyWalkers n) (31, 1, ((37 : Nat) : Int), 33, []) L st h := run_s rfl
theorem r_X9_manyWalkers_33 : run E g mi_X9_manyWalkers d lm RT F pm_X9_manyWalkers (n + 1) 33 L st h = exI E d lm RT F (run E g mi_X9_manyWalkers d lm RT F pm_X9_manyWalkers n) (0, 1, 0, 34, []) L st h := run_s rfl
theorem r_X9_manyWalkers_34 : run E g mi_X9_manyWalkers d lm RT F pm_X9_manyWalkers (n + 1) 34 L st h = exI E d lm RT F (run E g mi_X9_manyWalkers d lm RT F pm_X9_manyWalkers n) (33, ((38 : Nat) : Int), 0, 0, []) L st h := run_s rfl
theorem r_X9_manyWalkers_37 : run E g mi_X9_manyWalkers d lm RT F pm_X9_manyWalkers (n + 1) 37 L st h = exI E d lm RT F (run E g mi_X9_manyWalkers d lm RT F pm_X9_manyWalkers n) (0, 0, 0, 38, []) L st h := run_s rfl
theorem r_X9_manyWalkers_38 : run E g mi_X9_manyWalkers d lm RT F pm_X9_manyWalkers (n + 1) 38 L st h = exI E d lm RT F (run E g mi_X9_manyWalkers d lm RT F pm_X9_manyWalkers n) (8, 0, 0, 39, []) L st h := run_s rfl
theorem r_X9_manyWalkers_39 : run E g mi_X9_manyWalkers d lm RT F pm_X9_manyWalkers (n + 1) 39 L st h = exI E d lm RT F (run E g mi_X9_manyWalkers d lm RT F pm_X9_manyWalkers n) (4, ((2 : Nat) : Int), 0, 40, []) L st h := run_s rfl
theorem r_X9_manyWalkers_40 : run E g mi_X9_manyWalkers d lm RT F pm_X9_manyWalkers (n + 1) 40 L st h = exI E d lm RT F (run E g mi_X9_manyWalkers d lm RT F pm_X9_manyWalkers n) (7, ((3 : Nat) : Int), 1, 43, []) L st h := run_s rfl
theorem r_X9_manyWalkers_43 : run E g mi_X9_manyWalkers d lm RT F pm_X9_manyWalkers (n + 1) 43 L st h = exI E d lm RT F (run E g mi_X9_manyWalkers d lm RT F pm_X9_manyWalkers n) (33, ((4 : Nat) : Int), 0, 0, []) L st h := run_s rfl
theorem r_X9_manyWalkers_46 : run E g mi_X9_manyWalkers d lm RT F pm_X9_manyWalkers (n + 1) 46 L st h = exI E d lm RT F (run E g mi_X9_manyWalkers d lm RT F pm_X9_manyWalkers n) (1, ((2 : Nat) : Int), 0, 47, []) L st h := run_s rfl
theorem r_X9_manyWalkers_47 : run E g mi_X9_manyWalkers d lm RT F pm_X9_manyWalkers (n + 1) 47 L st h = exI E d lm RT F (run E g mi_X9_manyWalkers d lm RT F pm_X9_manyWalkers n) (48, 0, 0, 0, []) L st h := run_s rfl
theorem e_X9_manyWalkers (n : Nat) {pc : Nat} (hF : FOk E d F) (hx : run E g mi_X9_manyWalkers d lm RT F pm_X9_manyWalkers n pc L st h) : G E g mi_X9_manyWalkers d lm RT pc L st h := run_sound hF pk_X9_manyWalkers n pc L st h hx
end
def mi_X9_many : MI := (9, cX9_many, 4, 0, false)
theorem mo_X9_many : miOk mi_X9_many (mt 144) = true := by decide +kernel
def tl_X9_many : List (Nat × PT) := [(0, (0, 0, 0, 1, [])),
  (1, (4, ((2 : Nat) : Int), 0, 2, [])),
  (2, (1, ((1 : Nat) : Int), 0, 3, [])),
  (3, (34, 0, ((118 : Nat) : Int), 0, [48, 81, 87, 93, 98, 103, 108, 113])),
  (48, (0, 0, 0, 49, [])),
  (49, (4, ((3 : Nat) : Int), 0, 50, [])),
  (50, (1, ((3 : Nat) : Int), 0, 51, [])),
  (51, (0, 16, 0, 53, [])),
  (53, (32, 3, ((79 : Nat) : Int), 56, [])),
  (56, (1, ((2 : Nat) : Int), 0, 57, [])),
  (57, (2, ((0 : Nat) : Int), 0, 58, [])),
  (58, (35, ((9 : Nat) : Int), ((0 : Nat) : Int), 61, [])),
  (61, (1, ((3 : Nat) : Int), 0, 62, [])),
  (62, (38, 1, 0, 63, [])),
  (63, (31, 0, ((70 : Nat) : Int), 66, [])),
  (66, (0, 1, 0, 67, [])),
  (67, (33, ((71 : Nat) : Int), 0, 0, [])),
  (70, (0, 0, 0, 71, [])),
  (71, (8, 0, 0, 72, [])),
  (72, (4, ((2 : Nat) : Int), 0, 73, [])),
  (73, (7, ((3 : Nat) : Int), 1, 76, [])),
  (76, (33, ((50 : Nat) : Int), 0, 0, [])),
  (79, (1, ((2 : Nat) : Int), 0, 80, [])),
  (80, (48, 0, 0, 0, [])),
  (81, (2, ((0 : Nat) : Int), 0, 82, [])),
  (82, (0, 0, 0, 83, [])),
  (83, (51, ((143 : Nat) : Int), ((2 : Nat) : Int), 86, [9])),
  (86, (48, 0, 0, 0, [])),
  (87, (2, ((0 : Nat) : Int), 0, 88, [])),
  (88, (0, 1, 0, 89, [])),
  (89, (51, ((143 : Nat) : Int), ((2 : Nat) : Int), 92, [9])),
  (92, (48, 0, 0, 0, [])),
  (93, (2, ((0 : Nat) : Int), 0, 94, [])),
  (94, (35, ((9 : Nat) : Int), ((14 : Nat) : Int), 97, [])),
  (97, (48, 0, 0, 0, [])),
  (98, (2, ((0 : Nat) : Int), 0, 99, [])),
  (99, (35, ((9 : Nat) : Int), ((15 : Nat) : Int), 102, [])),
  (102, (48, 0, 0, 0, [])),
  (103, (2, ((0 : Nat) : Int), 0, 104, [])),
  (104, (35, ((9 : Nat) : Int), ((12 : Nat) : Int), 107, [])),
  (107, (48, 0, 0, 0, [])),
  (108, (2, ((0 : Nat) : Int), 0, 109, [])),
  (109, (35, ((9 : Nat) : Int), ((16 : Nat) : Int), 112, [])),
  (112, (48, 0, 0, 0, [])),
  (113, (2, ((0 : Nat) : Int), 0, 114, [])),
  (114, (35, ((9 : Nat) : Int), ((13 : Nat) : Int), 117, [])),
  (117, (48, 0, 0, 0, [])),
  (118, (0, (-2), 0, 120, [])),
  (120, (48, 0, 0, 0, []))]
theorem tk_X9_many_0 : tOk mi_X9_many ((tl_X9_many.drop 0).take 45) = true := by decide +kernel
theorem tk_X9_many_1 : tOk mi_X9_many ((tl_X9_many.drop 45).take 45) = true := by decide +kernel
theorem tk_X9_many : tOk mi_X9_many tl_X9_many = true := by
  refine tOk_cut 45 (by decide) (fun q hq => ?_)
  have hl : tl_X9_many.length = 49 := by decide +kernel
  rw [hl] at hq
  rcases (show q = 0 ∨ q = 1 by omega) with rfl | rfl
  · exact tk_X9_many_0
  · exact tk_X9_many_1
def pm_X9_many (pc : Nat) : Option PT := if [50].contains pc then none else tl_X9_many.lookup pc
theorem pk_X9_many : ∀ pc pt, pm_X9_many pc = some pt → okPt mi_X9_many pc pt := fun pc pt h => tOk_pm tk_X9_many h
section
variable {E : ET} {g : GT} {d : Nat} {lm : Nat × Nat} {RT : RTy} {F : FT} {n : Nat} {L : LV} {st : List AV} {h : AH}
theorem r_X9_many_0 : run E g mi_X9_many d lm RT F pm_X9_many (n + 1) 0 L st h = exI E d lm RT F (run E g mi_X9_many d lm RT F pm_X9_many n) (0, 0, 0, 1, []) L st h := run_s rfl
theorem r_X9_many_1 : run E g mi_X9_many d lm RT F pm_X9_many (n + 1) 1 L st h = exI E d lm RT F (run E g mi_X9_many d lm RT F pm_X9_many n) (4, ((2 : Nat) : Int), 0, 2, []) L st h := run_s rfl
theorem r_X9_many_2 : run E g mi_X9_many d lm RT F pm_X9_many (n + 1) 2 L st h = exI E d lm RT F (run E g mi_X9_many d lm RT F pm_X9_many n) (1, ((1 : Nat) : Int), 0, 3, []) L st h := run_s rfl
theorem r_X9_many_3 : run E g mi_X9_many d lm RT F pm_X9_many (n + 1) 3 L st h = exI E d lm RT F (run E g mi_X9_many d lm RT F pm_X9_many n) (34, 0, ((118 : Nat) : Int), 0, [48, 81, 87, 93, 98, 103, 108, 113]) L st h := run_s rfl
theorem r_X9_many_48 : run E g mi_X9_many d lm RT F pm_X9_many (n + 1) 48 L st h = exI E d lm RT F (run E g mi_X9_many d lm RT F pm_X9_many n) (0, 0, 0, 49, []) L st h := run_s rfl
theorem r_X9_many_49 : run E g mi_X9_many d lm RT F pm_X9_many (n + 1) 49 L st h = exI E d lm RT F (run E g mi_X9_many d lm RT F pm_X9_many n) (4, ((3 : Nat) : Int), 0, 50, []) L st h := run_s rfl
theorem r_X9_many_50 : run E g mi_X9_many d lm RT F pm_X9_many (n + 1) 50 L st h = G E g mi_X9_many d lm RT 50 L st h := run_c rfl
theorem q_X9_many_50 (n : Nat) (hF : FOk E d F) (hx : exI E d lm RT F (run E g mi_X9_many d lm RT F pm_X9_many n) (1, ((3 : Nat) : Int), 0, 51, []) L st h) : G E g mi_X9_many d lm RT 50 L st h := sstep hF (tOk_spec tk_X9_many (by decide +kernel)) (run_sound hF pk_X9_many n) hx
theorem r_X9_many_51 : run E g mi_X9_many d lm RT F pm_X9_many (n + 1) 51 L st h = exI E d lm RT F (run E g mi_X9_many d lm RT F pm_X9_many n) (0, 16, 0, 53, []) L st h := run_s rfl
theorem r_X9_many_53 : run E g mi_X9_many d lm RT F pm_X9_many (n + 1) 53 L st h = exI E d lm RT F (run E g mi_X9_many d lm RT F pm_X9_many n) (32, 3, ((79 : Nat) : Int), 56, []) L st h := run_s rfl
theorem r_X9_many_56 : run E g mi_X9_many d lm RT F pm_X9_many (n + 1) 56 L st h = exI E d lm RT F (run E g mi_X9_many d lm RT F pm_X9_many n) (1, ((2 : Nat) : Int), 0, 57, []) L st h := run_s rfl
theorem r_X9_many_57 : run E g mi_X9_many d lm RT F pm_X9_many (n + 1) 57 L st h = exI E d lm RT F (run E g mi_X9_many d lm RT F pm_X9_many n) (2, ((0 : Nat) : Int), 0, 58, []) L st h := run_s rfl
theorem r_X9_many_58 : run E g mi_X9_many d lm RT F pm_X9_many (n + 1) 58 L st h = exI E d lm RT F (run E g mi_X9_many d lm RT F pm_X9_many n) (35, ((9 : Nat) : Int), ((0 : Nat) : Int), 61, []) L st h := run_s rfl
theorem r_X9_many_61 : run E g mi_X9_many d lm RT F pm_X9_many (n + 1) 61 L st h = exI E d lm RT F (run E g mi_X9_many d lm RT F pm_X9_many n) (1, ((3 : Nat) : Int), 0, 62, []) L st h := run_s rfl
theorem r_X9_many_62 : run E g mi_X9_many d lm RT F pm_X9_many (n + 1) 62 L st h = exI E d lm RT F (run E g mi_X9_many d lm RT F pm_X9_many n) (38, 1, 0, 63, []) L st h := run_s rfl
theorem r_X9_many_63 : run E g mi_X9_many d lm RT F pm_X9_many (n + 1) 63 L st h = exI E d lm RT F (run E g mi_X9_many d lm RT F pm_X9_many n) (31, 0, ((70 : Nat) : Int), 66, []) L st h := run_s rfl
theorem r_X9_many_66 : run E g mi_X9_many d lm RT F pm_X9_many (n + 1) 66 L st h = exI E d lm RT F (run E g mi_X9_many d lm RT F pm_X9_many n) (0, 1, 0, 67, []) L st h := run_s rfl
theorem r_X9_many_67 : run E g mi_X9_many d lm RT F pm_X9_many (n + 1) 67 L st h = exI E d lm RT F (run E g mi_X9_many d lm RT F pm_X9_many n) (33, ((71 : Nat) : Int), 0, 0, []) L st h := run_s rfl
theorem r_X9_many_70 : run E g mi_X9_many d lm RT F pm_X9_many (n + 1) 70 L st h = exI E d lm RT F (run E g mi_X9_many d lm RT F pm_X9_many n) (0, 0, 0, 71, []) L st h := run_s rfl
theorem r_X9_many_71 : run E g mi_X9_many d lm RT F pm_X9_many (n + 1) 71 L st h = exI E d lm RT F (run E g mi_X9_many d lm RT F pm_X9_many n) (8, 0, 0, 72, []) L st h := run_s rfl
theorem r_X9_many_72 : run E g mi_X9_many d lm RT F pm_X9_many (n + 1) 72 L st h = exI E d lm RT F (run E g mi_X9_many d lm RT F pm_X9_many n) (4, ((2 : Nat) : Int), 0, 73, []) L st h := run_s rfl
theorem r_X9_many_73 : run E g mi_X9_many d lm RT F pm_X9_many (n + 1) 73 L st h = exI E d lm RT F (run E g mi_X9_many d lm RT F pm_X9_many n) (7, ((3 : Nat) : Int), 1, 76, []) L st h := run_s rfl
theorem r_X9_many_76 : run E g mi_X9_many d lm RT F pm_X9_many (n + 1) 76 L st h = exI E d lm RT F (run E g mi_X9_many d lm RT F pm_X9_many n) (33, ((50 : Nat) : Int), 0, 0, []) L st h := run_s rfl
theorem r_X9_many_79 : run E g mi_X9_many d lm RT F pm_X9_many (n + 1) 79 L st h = exI E d lm RT F (run E g mi_X9_many d lm RT F pm_X9_many n) (1, ((2 : Nat) : Int), 0, 80, []) L st h := run_s rfl
theorem r_X9_many_80 : run E g mi_X9_many d lm RT F pm_X9_many (n + 1) 80 L st h = exI E d lm RT F (run E g mi_X9_many d lm RT F pm_X9_many n) (48, 0, 0, 0, []) L st h := run_s rfl
theorem r_X9_many_81 : run E g mi_X9_many d lm RT F pm_X9_many (n + 1) 81 L st h = exI E d lm RT F (run E g mi_X9_many d lm RT F pm_X9_many n) (2, ((0 : Nat) : Int), 0, 82, []) L st h := run_s rfl
theorem r_X9_many_82 : run E g mi_X9_many d lm RT F pm_X9_many (n + 1) 82 L st h = exI E d lm RT F (run E g mi_X9_many d lm RT F pm_X9_many n) (0, 0, 0, 83, []) L st h := run_s rfl
theorem r_X9_many_83 : run E g mi_X9_many d lm RT F pm_X9_many (n + 1) 83 L st h = exI E d lm RT F (run E g mi_X9_many d lm RT F pm_X9_many n) (51, ((143 : Nat) : Int), ((2 : Nat) : Int), 86, [9]) L st h := run_s rfl
theorem r_X9_many_86 : run E g mi_X9_many d lm RT F pm_X9_many (n + 1) 86 L st h = exI E d lm RT F (run E g mi_X9_many d lm RT F pm_X9_many n) (48, 0, 0, 0, []) L st h := run_s rfl
theorem r_X9_many_87 : run E g mi_X9_many d lm RT F pm_X9_many (n + 1) 87 L st h = exI E d lm RT F (run E g mi_X9_many d lm RT F pm_X9_many n) (2, ((0 : Nat) : Int), 0, 88, []) L st h := run_s rfl
theorem r_X9_many_88 : run E g mi_X9_many d lm RT F pm_X9_many (n + 1) 88 L st h = exI E d lm RT F (run E g mi_X9_many d lm RT F pm_X9_many n) (0, 1, 0, 89, []) L st h := run_s rfl
theorem r_X9_many_89 : run E g mi_X9_many d lm RT F pm_X9_many (n + 1) 89 L st h = exI E d lm RT F (run E g mi_X9_many d lm RT F pm_X9_many n) (51, ((143 : Nat) : Int), ((2 : Nat) : Int), 92, [9]) L st h := run_s rfl
theorem r_X9_many_92 : run E g mi_X9_many d lm RT F pm_X9_many (n + 1) 92 L st h = exI E d lm RT F (run E g mi_X9_many d lm RT F pm_X9_many n) (48, 0, 0, 0, []) L st h := run_s rfl
theorem r_X9_many_93 : run E g mi_X9_many d lm RT F pm_X9_many (n + 1) 93 L st h = exI E d lm RT F (run E g mi_X9_many d lm RT F pm_X9_many n) (2, ((0 : Nat) : Int), 0, 94, []) L st h := run_s rfl
theorem r_X9_many_94 : run E g mi_X9_many d lm RT F pm_X9_many (n + 1) 94 L st h = exI E d lm RT F (run E g mi_X9_many d lm RT F pm_X9_many n) (35, ((9 : Nat) : Int), ((14 : Nat) : Int), 97, []) L st h := run_s rfl
theorem r_X9_many_97 : run E g mi_X9_many d lm RT F pm_X9_many (n + 1) 97 L st h = exI E d lm RT F (run E g mi_X9_many d lm RT F pm_X9_many n) (48, 0, 0, 0, []) L st h := run_s rfl
theorem r_X9_many_98 : run E g mi_X9_many d lm RT F pm_X9_many (n + 1) 98 L st h = exI E d lm RT F (run E g mi_X9_many d lm RT F pm_X9_many n) (2, ((0 : Nat) : Int), 0, 99, []) L st h := run_s rfl
theorem r_X9_many_99 : run E g mi_X9_many d lm RT F pm_X9_many (n + 1) 99 L st h = exI E d lm RT F (run E g mi_X9_many d lm RT F pm_X9_many n) (35, ((9 : Nat) : Int), ((15 : Nat) : Int), 102, []) L st h := run_s rfl
theorem r_X9_many_102 : run E g mi_X9_many d lm RT F pm_X9_many (n + 1) 102 L st h = exI E d lm RT F (run E g mi_X9_many d lm RT F pm_X9_many n) (48, 0, 0, 0, []) L st h := run_s rfl
theorem r_X9_many_103 : run E g mi_X9_many d lm RT F pm_X9_many (n + 1) 103 L st h = exI E d lm RT F (run E g mi_X9_many d lm RT F pm_X9_many n) (2, ((0 : Nat) : Int), 0, 104, []) L st h := run_s rfl
theorem r_X9_many_104 : run E g mi_X9_many d lm RT F pm_X9_many (n + 1) 104 L st h = exI E d lm RT F (run E g mi_X9_many d lm RT F pm_X9_many n) (35, ((9 : Nat) : Int), ((12 : Nat) : Int), 107, []) L st h := run_s rfl
theorem r_X9_many_107 : run E g mi_X9_many d lm RT F pm_X9_many (n + 1) 107 L st h = exI E d lm RT F (run E g mi_X9_many d lm RT F pm_X9_many n) (48, 0, 0, 0, []) L st h := run_s rfl
theorem r_X9_many_108 : run E g mi_X9_many d lm RT F pm_X9_many (n + 1) 108 L st h = exI E d lm RT F (run E g mi_X9_many d lm RT F pm_X9_many n) (2, ((0 : Nat) : Int), 0, 109, []) L st h := run_s rfl
theorem r_X9_many_109 : run E g mi_X9_many d lm RT F pm_X9_many (n + 1) 109 L st h = exI E d lm RT F (run E g mi_X9_many d lm RT F pm_X9_many n) (35, ((9 : Nat) : Int), ((16 : Nat) : Int), 112, []) L st h := run_s rfl
theorem r_X9_many_112 : run E g mi_X9_many d lm RT F pm_X9_many (n + 1) 112 L st h = exI E d lm RT F (run E g mi_X9_many d lm RT F pm_X9_many n) (48, 0, 0, 0, []) L st h := run_s rfl
theorem r_X9_many_113 : run E g mi_X9_many d lm RT F pm_X9_many (n + 1) 113 L st h = exI E d lm RT F (run E g mi_X9_many d lm RT F pm_X9_many n) (2, ((0 : Nat) : Int), 0, 114, []) L st h := run_s rfl
theorem r_X9_many_114 : run E g mi_X9_many d lm RT F pm_X9_many (n + 1) 114 L st h = exI E d lm RT F (run E g mi_X9_many d lm RT F pm_X9_many n) (35, ((9 : Nat) : Int), ((13 : Nat) : Int), 117, []) L st h := run_s rfl
theorem r_X9_many_117 : run E g mi_X9_many d lm RT F pm_X9_many (n + 1) 117 L st h = exI E d lm RT F (run E g mi_X9_many d lm RT F pm_X9_many n) (48, 0, 0, 0, []) L st h := run_s rfl
theorem r_X9_many_118 : run E g mi_X9_many d lm RT F pm_X9_many (n + 1) 118 L st h = exI E d lm RT F (run E g mi_X9_many d lm RT F pm_X9_many n) (0, (-2), 0, 120, []) L st h := run_s rfl
theorem r_X9_many_120 : run E g mi_X9_many d lm RT F pm_X9_many (n + 1) 120 L st h = exI E d lm RT F (run E g mi_X9_many d lm RT F pm_X9_many n) (48, 0, 0, 0, []) L st h := run_s rfl
theorem e_X9_many (n : Nat) {pc : Nat} (hF : FOk E d F) (hx : run E g mi_X9_many d lm RT F pm_X9_many n pc L st h) : G E g mi_X9_many d lm RT pc L st h := run_sound hF pk_X9_many n pc L st h hx
end
