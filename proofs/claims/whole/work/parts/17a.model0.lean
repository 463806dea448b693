def mi_X9_init : MI := (9, cX9_init, 2, 4, true)
theorem mo_X9_init : miOk mi_X9_init (mt 89) = true := by decide +kernel
def tl_X9_init : List (Nat × PT) := [(0, (2, ((0 : Nat) : Int), 0, 1, [])),
  (1, (47, 0, 0, 4, [])),
  (4, (2, ((0 : Nat) : Int), 0, 5, [])),
  (5, (0, 16, 0, 7, [])),
  (7, (42, 1, 0, 9, [])),
  (9, (37, ((9 : Nat) : Int), ((0 : Nat) : Int), 12, [3])),
  (12, (2, ((0 : Nat) : Int), 0, 13, [])),
  (13, (0, 16, 0, 15, [])),
  (15, (42, 0, 0, 17, [])),
  (17, (37, ((9 : Nat) : Int), ((1 : Nat) : Int), 20, [3])),
  (20, (2, ((0 : Nat) : Int), 0, 21, [])),
  (21, (0, 16, 0, 23, [])),
  (23, (42, 0, 0, 25, [])),
  (25, (37, ((9 : Nat) : Int), ((2 : Nat) : Int), 28, [3])),
  (28, (2, ((0 : Nat) : Int), 0, 29, [])),
  (29, (0, 16, 0, 31, [])),
  (31, (42, 0, 0, 33, [])),
  (33, (37, ((9 : Nat) : Int), ((3 : Nat) : Int), 36, [3])),
  (36, (2, ((0 : Nat) : Int), 0, 37, [])),
  (37, (0, 64, 0, 39, [])),
  (39, (42, 0, 0, 41, [])),
  (41, (37, ((9 : Nat) : Int), ((4 : Nat) : Int), 44, [3])),
  (44, (2, ((0 : Nat) : Int), 0, 45, [])),
  (45, (0, 512, 0, 48, [])),
  (48, (42, 0, 0, 50, [])),
  (50, (37, ((9 : Nat) : Int), ((5 : Nat) : Int), 53, [3])),
  (53, (2, ((0 : Nat) : Int), 0, 54, [])),
  (54, (0, 20, 0, 56, [])),
  (56, (36, ((9 : Nat) : Int), ((6 : Nat) : Int), 59, [0])),
  (59, (2, ((0 : Nat) : Int), 0, 60, [])),
  (60, (0, 300, 0, 63, [])),
  (63, (36, ((9 : Nat) : Int), ((7 : Nat) : Int), 66, [0])),
  (66, (2, ((0 : Nat) : Int), 0, 67, [])),
  (67, (0, 8, 0, 69, [])),
  (69, (42, 2, 0, 71, [])),
  (71, (37, ((9 : Nat) : Int), ((8 : Nat) : Int), 74, [3])),
  (74, (2, ((0 : Nat) : Int), 0, 75, [])),
  (75, (0, 8, 0, 77, [])),
  (77, (42, 2, 0, 79, [])),
  (79, (37, ((9 : Nat) : Int), ((9 : Nat) : Int), 82, [3])),
  (82, (2, ((0 : Nat) : Int), 0, 83, [])),
  (83, (0, 8, 0, 85, [])),
  (85, (42, 0, 0, 87, [])),
  (87, (37, ((9 : Nat) : Int), ((10 : Nat) : Int), 90, [3])),
  (90, (2, ((0 : Nat) : Int), 0, 91, [])),
  (91, (0, 1, 0, 92, [])),
  (92, (36, ((9 : Nat) : Int), ((11 : Nat) : Int), 95, [0])),
  (95, (2, ((0 : Nat) : Int), 0, 96, [])),
  (96, (0, 12, 0, 98, [])),
  (98, (42, 1, 0, 100, [])),
  (100, (37, ((9 : Nat) : Int), ((17 : Nat) : Int), 103, [3])),
  (103, (2, ((0 : Nat) : Int), 0, 104, [])),
  (104, (0, 12, 0, 106, [])),
  (106, (42, 0, 0, 108, [])),
  (108, (37, ((9 : Nat) : Int), ((18 : Nat) : Int), 111, [3])),
  (111, (2, ((0 : Nat) : Int), 0, 112, [])),
  (112, (0, 12, 0, 114, [])),
  (114, (42, 0, 0, 116, [])),
  (116, (37, ((9 : Nat) : Int), ((19 : Nat) : Int), 119, [3])),
  (119, (2, ((0 : Nat) : Int), 0, 120, [])),
  (120, (0, 12, 0, 122, [])),
  (122, (42, 0, 0, 124, [])),
  (124, (37, ((9 : Nat) : Int), ((20 : Nat) : Int), 127, [3])),
  (127, (2, ((0 : Nat) : Int), 0, 128, [])),
  (128, (0, 12, 0, 130, [])),
  (130, (42, 1, 0, 132, [])),
  (132, (37, ((9 : Nat) : Int), ((21 : Nat) : Int), 135, [3])),
  (135, (2, ((0 : Nat) : Int), 0, 136, [])),
  (136, (0, 12, 0, 138, [])),
  (138, (42, 0, 0, 140, [])),
  (140, (37, ((9 : Nat) : Int), ((22 : Nat) : Int), 143, [3])),
  (143, (2, ((0 : Nat) : Int), 0, 144, [])),
  (144, (0, 12, 0, 146, [])),
  (146, (42, 0, 0, 148, [])),
  (148, (37, ((9 : Nat) : Int), ((23 : Nat) : Int), 151, [3])),
  (151, (2, ((0 : Nat) : Int), 0, 152, [])),
  (152, (0, 12, 0, 154, [])),
  (154, (42, 0, 0, 156, [])),
  (156, (37, ((9 : Nat) : Int), ((24 : Nat) : Int), 159, [3])),
  (159, (2, ((0 : Nat) : Int), 0, 160, [])),
  (160, (0, 12, 0, 162, [])),
  (162, (42, 0, 0, 164, [])),
  (164, (37, ((9 : Nat) : Int), ((25 : Nat) : Int), 167, [3])),
  (167, (2, ((0 : Nat) : Int), 0, 168, [])),
  (168, (0, 12, 0, 170, [])),
  (170, (42, 0, 0, 172, [])),
  (172, (37, ((9 : Nat) : Int), ((26 : Nat) : Int), 175, [3])),
  (175, (2, ((0 : Nat) : Int), 0, 176, [])),
  (176, (0, 96, 0, 178, [])),
  (178, (42, 0, 0, 180, [])),
  (180, (37, ((9 : Nat) : Int), ((27 : Nat) : Int), 183, [3])),
  (183, (2, ((0 : Nat) : Int), 0, 184, [])),
  (184, (0, 96, 0, 186, [])),
  (186, (42, 0, 0, 188, [])),
  (188, (37, ((9 : Nat) : Int), ((28 : Nat) : Int), 191, [3])),
  (191, (2, ((0 : Nat) : Int), 0, 192, [])),
  (192, (0, 12, 0, 194, [])),
  (194, (42, 0, 0, 196, [])),
  (196, (37, ((9 : Nat) : Int), ((29 : Nat) : Int), 199, [3])),
  (199, (2, ((0 : Nat) : Int), 0, 200, [])),
  (200, (0, 64, 0, 202, [])),
  (202, (42, 0, 0, 204, [])),
  (204, (37, ((9 : Nat) : Int), ((30 : Nat) : Int), 207, [3])),
  (207, (2, ((0 : Nat) : Int), 0, 208, [])),
  (208, (0, 512, 0, 211, [])),
  (211, (42, 0, 0, 213, [])),
  (213, (37, ((9 : Nat) : Int), ((31 : Nat) : Int), 216, [3])),
  (216, (2, ((0 : Nat) : Int), 0, 217, [])),
  (217, (0, 9, 0, 219, [])),
  (219, (42, 0, 0, 221, [])),
  (221, (37, ((9 : Nat) : Int), ((32 : Nat) : Int), 224, [3])),
  (224, (2, ((0 : Nat) : Int), 0, 225, [])),
  (225, (0, 64, 0, 227, [])),
  (227, (42, 0, 0, 229, [])),
  (229, (37, ((9 : Nat) : Int), ((33 : Nat) : Int), 232, [3])),
  (232, (0, 0, 0, 233, [])),
  (233, (4, ((1 : Nat) : Int), 0, 234, [])),
  (234, (1, ((1 : Nat) : Int), 0, 235, [])),
  (235, (0, 64, 0, 237, [])),
  (237, (32, 3, ((254 : Nat) : Int), 240, [])),
  (240, (2, ((0 : Nat) : Int), 0, 241, [])),
  (241, (35, ((9 : Nat) : Int), ((4 : Nat) : Int), 244, [])),
  (244, (1, ((1 : Nat) : Int), 0, 245, [])),
  (245, (0, (-9), 0, 247, [])),
  (247, (39, 0, 0, 248, [])),
  (248, (7, ((1 : Nat) : Int), 1, 251, [])),
  (251, (33, ((234 : Nat) : Int), 0, 0, [])),
  (254, (48, 4, 0, 0, []))]
theorem tk_X9_init_0 : tOk mi_X9_init ((tl_X9_init.drop 0).take 45) = true := by decide +kernel
theorem tk_X9_init_1 : tOk mi_X9_init ((tl_X9_init.drop 45).take 45) = true := by decide +kernel
theorem tk_X9_init_2 : tOk mi_X9_init ((tl_X9_init.drop 90).take 45) = true := by decide +kernel
theorem tk_X9_init : tOk mi_X9_init tl_X9_init = true := by
  refine tOk_cut 45 (by decide) (fun q hq => ?_)
  have hl : tl_X9_init.length = 128 := by decide +kernel
  rw [hl] at hq
  rcases (show q = 0 ∨ q = 1 ∨ q = 2 by omega) with rfl | rfl | rfl
  · exact tk_X9_init_0
  · exact tk_X9_init_1
  · exact tk_X9_init_2
def pm_X9_init (pc : Nat) : Option PT := if [234].contains pc then none else tl_X9_init.lookup pc
theorem pk_X9_init : ∀ pc pt, pm_X9_init pc = some pt → okPt mi_X9_init pc pt := fun pc pt h => tOk_pm tk_X9_init h
section
variable {E : ET} {g : GT} {d : Nat} {lm : Nat × Nat} {RT : RTy} {F : FT} {n : Nat} {L : LV} {st : List AV} {h : AH}
theorem r_X9_init_0 : run E g mi_X9_init d lm RT F pm_X9_init (n + 1) 0 L st h = exI E d lm RT F (run E g mi_X9_init d lm RT F pm_X9_init n) (2, ((0 : Nat) : Int), 0, 1, []) L st h := run_s rfl
theorem r_X9_init_1 : run E g mi_X9_init d lm RT F pm_X9_init (n + 1) 1 L st h = exI E d lm RT F (run E g mi_X9_init d lm RT F pm_X9_init n) (47, 0, 0, 4, []) L st h := run_s rfl
theorem r_X9_init_4 : run E g mi_X9_init d lm RT F pm_X9_init (n + 1) 4 L st h = exI E d lm RT F (run E g mi_X9_init d lm RT F pm_X9_init n) (2, ((0 : Nat) : Int), 0, 5, []) L st h := run_s rfl
theorem r_X9_init_5 : run E g mi_X9_init d lm RT F pm_X9_init (n + 1) 5 L st h = exI E d lm RT F (run E g mi_X9_init d lm RT F pm_X9_init n) (0, 16, 0, 7, []) L st h := run_s rfl
theorem r_X9_init_7 : run E g mi_X9_init d lm RT F pm_X9_init (n + 1) 7 L st h = exI E d lm RT F (run E g mi_X9_init d lm RT F pm_X9_init n) (42, 1, 0, 9, []) L st h := run_s rfl
theorem r_X9_init_9 : run E g mi_X9_init d lm RT F pm_X9_init (n + 1) 9 L st h = exI E d lm RT F (run E g mi_X9_init d lm RT F pm_X9_init n) (37, ((9 : Nat) : Int), ((0 : Nat) : Int), 12, [3]) L st h := run_s rfl
theorem r_X9_init_12 : run E g mi_X9_init d lm RT F pm_X9_init (n + 1) 12 L st h = exI E d lm RT F (run E g mi_X9_init d lm RT F pm_X9_init n) (2, ((0 : Nat) : Int), 0, 13, []) L st h := run_s rfl
theorem r_X9_init_13 : run E g mi_X9_init d lm RT F pm_X9_init (n + 1) 13 L st h = exI E d lm RT F (run E g mi_X9_init d lm RT F pm_X9_init n) (0, 16, 0, 15, []) L st h := run_s rfl
theorem r_X9_init_15 : run E g mi_X9_init d lm RT F pm_X9_init (n + 1) 15 L st h = exI E d lm RT F (run E g mi_X9_init d lm RT F pm_X9_init n) (42, 0, 0, 17, []) L st h := run_s rfl
theorem r_X9_init_17 : run E g mi_X9_init d lm RT F pm_X9_init (n + 1) 17 L st h = exI E d lm RT F (run E g mi_X9_init d lm RT F pm_X9_init n) (37, ((9 : Nat) : Int), ((1 : Nat) : Int), 20, [3]) L st h := run_s rfl
theorem r_X9_init_20 : run E g mi_X9_init d lm RT F pm_X9_init (n + 1) 20 L st h = exI E d lm RT F (run E g mi_X9_init d lm RT F pm_X9_init n) (2, ((0 : Nat) : Int), 0, 21, []) L st h := run_s rfl
theorem r_X9_init_21 : run E g mi_X9_init d lm RT F pm_X9_init (n + 1) 21 L st h = exI E d lm RT F (run E g mi_X9_init d lm RT F pm_X9_init n) (0, 16, 0, 23, []) L st h := run_s rfl
theorem r_X9_init_23 : run E g mi_X9_init d lm RT F pm_X9_init (n + 1) 23 L st h = exI E d lm RT F (run E g mi_X9_init d lm RT F pm_X9_init n) (42, 0, 0, 25, []) L st h := run_s rfl
theorem r_X9_init_25 : run E g mi_X9_init d lm RT F pm_X9_init (n + 1) 25 L st h = exI E d lm RT F (run E g mi_X9_init d lm RT F pm_X9_init n) (37, ((9 : Nat) : Int), ((2 : Nat) : Int), 28, [3]) L st h := run_s rfl
theorem r_X9_init_28 : run E g mi_X9_init d lm RT F pm_X9_init (n + 1) 28 L st h = exI E d lm RT F (run E g mi_X9_init d lm RT F pm_X9_init n) (2, ((0 : Nat) : Int), 0, 29, []) L st h := run_s rfl
theorem r_X9_init_29 : run E g mi_X9_init d lm RT F pm_X9_init (n + 1) 29 L st h = exI E d lm RT F (run E g mi_X9_init d lm RT F pm_X9_init n) (0, 16, 0, 31, []) L st h := run_s rfl
theorem r_X9_init_31 : run E g mi_X9_init d lm RT F pm_X9_init (n + 1) 31 L st h = exI E d lm RT F (run E g mi_X9_init d lm RT F pm_X9_init n) (42, 0, 0, 33, []) L st h := run_s rfl
theorem r_X9_init_33 : run E g mi_X9_init d lm RT F pm_X9_init (n + 1) 33 L st h = exI E d lm RT F (run E g mi_X9_init d lm RT F pm_X9_init n) (37, ((9 : Nat) : Int), ((3 : Nat) : Int), 36, [3]) L st h := run_s rfl
theorem r_X9_init_36 : run E g mi_X9_init d lm RT F pm_X9_init (n + 1) 36 L st h = exI E d lm RT F (run E g mi_X9_init d lm RT F pm_X9_init n) (2, ((0 : Nat) : Int), 0, 37, []) L st h := run_s rfl
theorem r_X9_init_37 : run E g mi_X9_init d lm RT F pm_X9_init (n + 1) 37 L st h = exI E d lm RT F (run E g mi_X9_init d lm RT F pm_X9_init n) (0, 64, 0, 39, []) L st h := run_s rfl
theorem r_X9_init_39 : run E g mi_X9_init d lm RT F pm_X9_init (n + 1) 39 L st h = exI E d lm RT F (run E g mi_X9_init d lm RT F pm_X9_init n) (42, 0, 0, 41, []) L st h := run_s rfl
theorem r_X9_init_41 : run E g mi_X9_init d lm RT F pm_X9_init (n + 1) 41 L st h = exI E d lm RT F (run E g mi_X9_init d lm RT F pm_X9_init n) (37, ((9 : Nat) : Int), ((4 : Nat) : Int), 44, [3]) L st h := run_s rfl
theorem r_X9_init_44 : run E g mi_X9_init d lm RT F pm_X9_init (n + 1) 44 L st h = exI E d lm RT F (run E g mi_X9_init d lm RT F pm_X9_init n) (2, ((0 : Nat) : Int), 0, 45, []) L st h := run_s rfl
theorem r_X9_init_45 : run E g mi_X9_init d lm RT F pm_X9_init (n + 1) 45 L st h = exI E d lm RT F (run E g mi_X9_init d lm RT F pm_X9_init n) (0, 512, 0, 48, []) L st h := run_s rfl
theorem r_X9_init_48 : run E g mi_X9_init d lm RT F pm_X9_init (n + 1) 48 L st h = exI E d lm RT F (run E g mi_X9_init d lm RT F pm_X9_init n) (42, 0, 0, 50, []) L st h := run_s rfl
theorem r_X9_init_50 : run E g mi_X9_init d lm RT F pm_X9_init (n + 1) 50 L st h = exI E d lm RT F (run E g mi_X9_init d lm RT F pm_X9_init n) (37, ((9 : Nat) : Int), ((5 : Nat) : Int), 53, [3]) L st h := run_s rfl
theorem r_X9_init_53 : run E g mi_X9_init d lm RT F pm_X9_init (n + 1) 53 L st h = exI E d lm RT F (run E g mi_X9_init d lm RT F pm_X9_init n) (2, ((0 : Nat) : Int), 0, 54, []) L st h := run_s rfl
theorem r_X9_init_54 : run E g mi_X9_init d lm RT F pm_X9_init (n + 1) 54 L st h = exI E d lm RT F (run E g mi_X9_init d lm RT F pm_X9_init n) (0, 20, 0, 56, []) L st h := run_s rfl
theorem r_X9_init_56 : run E g mi_X9_init d lm RT F pm_X9_init (n + 1) 56 L st h = exI E d lm RT F (run E g mi_X9_init d lm RT F pm_X9_init n) (36, ((9 : Nat) : Int), ((6 : Nat) : Int), 59, [0]) L st h := run_s rfl
theorem r_X9_init_59 : run E g mi_X9_init d lm RT F pm_X9_init (n + 1) 59 L st h = exI E d lm RT F (run E g mi_X9_init d lm RT F pm_X9_init n) (2, ((0 : Nat) : Int), 0, 60, []) L st h := run_s rfl
theorem r_X9_init_60 : run E g mi_X9_init d lm RT F pm_X9_init (n + 1) 60 L st h = exI E d lm RT F (run E g mi_X9_init d lm RT F pm_X9_init n) (0, 300, 0, 63, []) L st h := run_s rfl
theorem r_X9_init_63 : run E g mi_X9_init d lm RT F pm_X9_init (n + 1) 63 L st h = exI E d lm RT F (run E g mi_X9_init d lm RT F pm_X9_init n) (36, ((9 : Nat) : Int), ((7 : Nat) : Int), 66, [0]) L st h := run_s rfl
theorem r_X9_init_66 : run E g mi_X9_init d lm RT F pm_X9_init (n + 1) 66 L st h = exI E d lm RT F (run E g mi_X9_init d lm RT F pm_X9_init n) (2, ((0 : Nat) : Int), 0, 67, []) L st h := run_s rfl
theorem r_X9_init_67 : run E g mi_X9_init d lm RT F pm_X9_init (n + 1) 67 L st h = exI E d lm RT F (run E g mi_X9_init d lm RT F pm_X9_init n) (0, 8, 0, 69, []) L st h := run_s rfl
theorem r_X9_init_69 : run E g mi_X9_init d lm RT F pm_X9_init (n + 1) 69 L st h = exI E d lm RT F (run E g mi_X9_init d lm RT F pm_X9_init n) (42, 2, 0, 71, []) L st h := run_s rfl
theorem r_X9_init_71 : run E g mi_X9_init d lm RT F pm_X9_init (n + 1) 71 L st h = exI E d lm RT F (run E g mi_X9_init d lm RT F pm_X9_init n) (37, ((9 : Nat) : Int), ((8 : Nat) : Int), 74, [3]) L st h := run_s rfl
theorem r_X9_init_74 : run E g mi_X9_init d lm RT F pm_X9_init (n + 1) 74 L st h = exI E d lm RT F (run E g mi_X9_init d lm RT F pm_X9_init n) (2, ((0 : Nat) : Int), 0, 75, []) L st h := run_s rfl
theorem r_X9_init_75 : run E g mi_X9_init d lm RT F pm_X9_init (n + 1) 75 L st h = exI E d lm RT F (run E g mi_X9_init d lm RT F pm_X9_init n) (0, 8, 0, 77, []) L st h := run_s rfl
theorem r_X9_init_77 : run E g mi_X9_init d lm RT F pm_X9_init (n + 1) 77 L st h = exI E d lm RT F (run E g mi_X9_init d lm RT F pm_X9_init n) (42, 2, 0, 79, []) L st h := run_s rfl
theorem r_X9_init_79 : run E g mi_X9_init d lm RT F pm_X9_init (n + 1) 79 L st h = exI E d lm RT F (run E g mi_X9_init d lm RT F pm_X9_init n) (37, ((9 : Nat) : Int), ((9 : Nat) : Int), 82, [3]) L st h := run_s rfl
theorem r_X9_init_82 : run E g mi_X9_init d lm RT F pm_X9_init (n + 1) 82 L st h = exI E d lm RT F (run E g mi_X9_init d lm RT F pm_X9_init n) (2, ((0 : Nat) : Int), 0, 83, []) L st h := run_s rfl
theorem r_X9_init_83 : run E g mi_X9_init d lm RT F pm_X9_init (n + 1) 83 L st h = exI E d lm RT F (run E g mi_X9_init d lm RT F pm_X9_init n) (0, 8, 0, 85, []) L st h := run_s rfl
theorem r_X9_init_85 : run E g mi_X9_init d lm RT F pm_X9_init (n + 1) 85 L st h = exI E d lm RT F (run E g mi_X9_init d lm RT F pm_X9_init n) (42, 0, 0, 87, []) L st h := run_s rfl
theorem r_X9_init_87 : run E g mi_X9_init d lm RT F pm_X9_init (n + 1) 87 L st h = exI E d lm RT F (run E g mi_X9_init d lm RT F pm_X9_init n) (37, ((9 : Nat) : Int), ((10 : Nat) : Int), 90, [3]) L st h := run_s rfl
theorem r_X9_init_90 : run E g mi_X9_init d lm RT F pm_X9_init (n + 1) 90 L st h = exI E d lm RT F (run E g mi_X9_init d lm RT F pm_X9_init n) (2, ((0 : Nat) : Int), 0, 91, []) L st h := run_s rfl
theorem r_X9_init_91 : run E g mi_X9_init d lm RT F pm_X9_init (n + 1) 91 L st h = exI E d lm RT F (run E g mi_X9_init d lm RT F pm_X9_init n) (0, 1, 0, 92, []) L st h := run_s rfl
theorem r_X9_init_92 : run E g mi_X9_init d lm RT F pm_X9_init (n + 1) 92 L st h = exI E d lm RT F (run E g mi_X9_init d lm RT F pm_X9_init n) (36, ((9 : Nat) : Int), ((11 : Nat) : Int), 95, [0]) L st h := run_s rfl
theorem r_X9_init_95 : run E g mi_X9_init d lm RT F pm_X9_init (n + 1) 95 L st h = exI E d lm RT F (run E g mi_X9_init d lm RT F pm_X9_init n) (2, ((0 : Nat) : Int), 0, 96, []) L st h := run_s rfl
theorem r_X9_init_96 : run E g mi_X9_init d lm RT F pm_X9_init (n + 1) 96 L st h = exI E d lm RT F (run E g mi_X9_init d lm RT F pm_X9_init n) (0, 12, 0, 98, []) L st h := run_s rfl
theorem r_X9_init_98 : run E g mi_X9_init d lm RT F pm_X9_init (n + 1) 98 L st h = exI E d lm RT F (run E g mi_X9_init d lm RT F pm_X9_init n) (42, 1, 0, 100, []) L st h := run_s rfl
theorem r_X9_init_100 : run E g mi_X9_init d lm RT F pm_X9_init (n + 1) 100 L st h = exI E d lm RT F (run E g mi_X9_init d lm RT F pm_X9_init n) (37, ((9 : Nat) : Int), ((17 : Nat) : Int), 103, [3]) L st h := run_s rfl
theorem r_X9_init_103 : run E g mi_X9_init d lm RT F pm_X9_init (n + 1) 103 L st h = exI E d lm RT F (run E g mi_X9_init d lm RT F pm_X9_init n) (2, ((0 : Nat) : Int), 0, 104, []) L st h := run_s rfl
theorem r_X9_init_104 : run E g mi_X9_init d lm RT F pm_X9_init (n + 1) 104 L st h = exI E d lm RT F (run E g mi_X9_init d lm RT F pm_X9_init n) (0, 12, 0, 106, []) L st h := run_s rfl
theorem r_X9_init_106 : run E g mi_X9_init d lm RT F pm_X9_init (n + 1) 106 L st h = exI E d lm RT F (run E g mi_X9_init d lm RT F pm_X9_init n) (42, 0, 0, 108, []) L st h := run_s rfl
theorem r_X9_init_108 : run E g mi_X9_init d lm RT F pm_X9_init (n + 1) 108 L st h = exI E d lm RT F (run E g mi_X9_init d lm RT F pm_X9_init n) (37, ((9 : Nat) : Int), ((18 : Nat) : Int), 111, [3]) L st h := run_s rfl
theorem r_X9_init_111 : run E g mi_X9_init d lm RT F pm_X9_init (n + 1) 111 L st h = exI E d lm RT F (run E g mi_X9_init d lm RT F pm_X9_init n) (2, ((0 : Nat) : Int), 0, 112, []) L st h := run_s rfl
theorem r_X9_init_112 : run E g mi_X9_init d lm RT F pm_X9_init (n + 1) 112 L st h = exI E d lm RT F (run E g mi_X9_init d lm RT F pm_X9_init n) (0, 12, 0, 114, []) L st h := run_s rfl
theorem r_X9_init_114 : run E g mi_X9_init d lm RT F pm_X9_init (n + 1) 114 L st h = exI E d lm RT F (run E g mi_X9_init d lm RT F pm_X9_init n) (42, 0, 0, 116, []) L st h := run_s rfl
theorem r_X9_init_116 : run E g mi_X9_init d lm RT F pm_X9_init (n + 1) 116 L st h = exI E d lm RT F (run E g mi_X9_init d lm RT F pm_X9_init n) (37, ((9 : Nat) : Int), ((19 : Nat) : Int), 119, [3]) L st h := run_s rfl
theorem r_X9_init_119 : run E g mi_X9_init d lm RT F pm_X9_init (n + 1) 119 L st h = exI E d lm RT F (run E g mi_X9_init d lm RT F pm_X9_init n) (2, ((0 : Nat) : Int), 0, 120, []) L st h := run_s rfl
theorem r_X9_init_120 : run E g mi_X9_init d lm RT F pm_X9_init (n + 1) 120 L st h = exI E d lm RT F (run E g mi_X9_init d lm RT F pm_X9_init n) (0, 12, 0, 122, []) L st h := run_s rfl
theorem r_X9_init_122 : run E g mi_X9_init d lm RT F pm_X9_init (n + 1) 122 L st h = exI E d lm RT F (run E g mi_X9_init d lm RT F pm_X9_init n) (42, 0, 0, 124, []) L st h := run_s rfl
theorem r_X9_init_124 : run E g mi_X9_init d lm RT F pm_X9_init (n + 1) 124 L st h = exI E d lm RT F (run E g mi_X9_init d lm RT F pm_X9_init n) (37, ((9 : Nat) : Int), ((20 : Nat) : Int), 127, [3]) L st h := run_s rfl
theorem r_X9_init_127 : run E g mi_X9_init d lm RT F pm_X9_init (n + 1) 127 L st h = exI E d lm RT F (run E g mi_X9_init d lm RT F pm_X9_init n) (2, ((0 : Nat) : Int), 0, 128, []) L st h := run_s rfl
theorem r_X9_init_128 : run E g mi_X9_init d lm RT F pm_X9_init (n + 1) 128 L st h = exI E d lm RT F (run E g mi_X9_init d lm RT F pm_X9_init n) (0, 12, 0, 130, []) L st h := run_s rfl
theorem r_X9_init_130 : run E g mi_X9_init d lm RT F pm_X9_init (n + 1) 130 L st h = exI E d lm RT F (run E g mi_X9_init d lm RT F pm_X9_init n) (42, 1, 0, 132, []) L st h := run_s rfl
theorem r_X9_init_132 : run E g mi_X9_init d lm RT F pm_X9_init (n + 1) 132 L st h = exI E d lm RT F (run E g mi_X9_init d lm RT F pm_X9_init n) (37, ((9 : Nat) : Int), ((21 : Nat) : Int), 135, [3]) L st h := run_s rfl
theorem r_X9_init_135 : run E g mi_X9_init d lm RT F pm_X9_init (n + 1) 135 L st h = exI E d lm RT F (run E g mi_X9_init d lm RT F pm_X9_init n) (2, ((0 : Nat) : Int), 0, 136, []) L st h := run_s rfl
theorem r_X9_init_136 : run E g mi_X9_init d lm RT F pm_X9_init (n + 1) 136 L st h = exI E d lm RT F (run E g mi_X9_init d lm RT F pm_X9_init n) (0, 12, 0, 138, []) L st h := run_s rfl
theorem r_X9_init_138 : run E g mi_X9_init d lm RT F pm_X9_init (n + 1) 138 L st h = exI E d lm RT F (run E g mi_X9_init d lm RT F pm_X9_init n) (42, 0, 0, 140, []) L st h := run_s rfl
theorem r_X9_init_140 : run E g mi_X9_init d lm RT F pm_X9_init (n + 1) 140 L st h = exI E d lm RT F (run E g mi_X9_init d lm RT F pm_X9_init n) (37, ((9 : Nat) : Int), ((22 : Nat) : Int), 143, [3]) L st h := run_s rfl
theorem r_X9_init_143 : run E g mi_X9_init d lm RT F pm_X9_init (n + 1) 143 L st h = exI E d lm RT F (run E g mi_X9_init d lm RT F pm_X9_init n) (2, ((0 : Nat) : Int), 0, 144, []) L st h := run_s rfl
theorem r_X9_init_144 : run E g mi_X9_init d lm RT F pm_X9_init (n + 1) 144 L st h = exI E d lm RT F (run E g mi_X9_init d lm RT F pm_X9_init n) (0, 12, 0, 146, []) L st h := run_s rfl
theorem r_X9_init_146 : run E g mi_X9_init d lm RT F pm_X9_init (n + 1) 146 L st h = exI E d lm RT F (run E g mi_X9_init d lm RT F pm_X9_init n) (42, 0, 0, 148, []) L st h := run_s rfl
theorem r_X9_init_148 : run E g mi_X9_init d lm RT F pm_X9_init (n + 1) 148 L st h = exI E d lm RT F (run E g mi_X9_init d lm RT F pm_X9_init n) (37, ((9 : Nat) : Int), ((23 : Nat) : Int), 151, [3]) L st h := run_s rfl
theorem r_X9_init_151 : run E g mi_X9_init d lm RT F pm_X9_init (n + 1) 151 L st h = exI E d lm RT F (run E g mi_X9_init d lm RT F pm_X9_init n) (2, ((0 : Nat) : Int), 0, 152, []) L st h := run_s rfl
theorem r_X9_init_152 : run E g mi_X9_init d lm RT F pm_X9_init (n + 1) 152 L st h = exI E d lm RT F (run E g mi_X9_init d lm RT F pm_X9_init n) (0, 12, 0, 154, []) L st h := run_s rfl
theorem r_X9_init_154 : run E g mi_X9_init d lm RT F pm_X9_init (n + 1) 154 L st h = exI E d lm RT F (run E g mi_X9_init d lm RT F pm_X9_init n) (42, 0, 0, 156, []) L st h := run_s rfl
theorem r_X9_init_156 : run E g mi_X9_init d lm RT F pm_X9_init (n + 1) 156 L st h = exI E d lm RT F (run E g mi_X9_init d lm RT F pm_X9_init n) (37, ((9 : Nat) : Int), ((24 : Nat) : Int), 159, [3]) L st h := run_s rfl
theorem r_X9_init_159 : run E g mi_X9_init d lm RT F pm_X9_init (n + 1) 159 L st h = exI E d lm RT F (run E g mi_X9_init d lm RT F pm_X9_init n) (2, ((0 : Nat) : Int), 0, 160, []) L st h := run_s rfl
theorem r_X9_init_160 : run E g mi_X9_init d lm RT F pm_X9_init (n + 1) 160 L st h = exI E d lm RT F (run E g mi_X9_init d lm RT F pm_X9_init n) (0, 12, 0, 162, []) L st h := run_s rfl
theorem r_X9_init_162 : run E g mi_X9_init d lm RT F pm_X9_init (n + 1) 162 L st h = exI E d lm RT F (run E g mi_X9_init d lm RT F pm_X9_init n) (42, 0, 0, 164, []) L st h := run_s rfl
theorem r_X9_init_164 : run E g mi_X9_init d lm RT F pm_X9_init (n + 1) 164 L st h = exI E d lm RT F (run E g mi_X9_init d lm RT F pm_X9_init n) (37, ((9 : Nat) : Int), ((25 : Nat) : Int), 167, [3]) L st h := run_s rfl
theorem r_X9_init_167 : run E g mi_X9_init d lm RT F pm_X9_init (n + 1) 167 L st h = exI E d lm RT F (run E g mi_X9_init d lm RT F pm_X9_init n) (2, ((0 : Nat) : Int), 0, 168, []) L st h := run_s rfl
theorem r_X9_init_168 : run E g mi_X9_init d lm RT F pm_X9_init (n + 1) 168 L st h = exI E d lm RT F (run E g mi_X9_init d lm RT F pm_X9_init n) (0, 12, 0, 170, []) L st h := run_s rfl
theorem r_X9_init_170 : run E g mi_X9_init d lm RT F pm_X9_init (n + 1) 170 L st h = exI E d lm RT F (run E g mi_X9_init d lm RT F pm_X9_init n) (42, 0, 0, 172, []) L st h := run_s rfl
theorem r_X9_init_172 : run E g mi_X9_init d lm RT F pm_X9_init (n + 1) 172 L st h = exI E d lm RT F (run E g mi_X9_init d lm RT F pm_X9_init n) (37, ((9 : Nat) : Int), ((26 : Nat) : Int), 175, [3]) L st h := run_s rfl
theorem r_X9_init_175 : run E g mi_X9_init d lm RT F pm_X9_init (n + 1) 175 L st h = exI E d lm RT F (run E g mi_X9_init d lm RT F pm_X9_init n) (2, ((0 : Nat) : Int), 0, 176, []) L st h := run_s rfl
theorem r_X9_init_176 : run E g mi_X9_init d lm RT F pm_X9_init (n + 1) 176 L st h = exI E d lm RT F (run E g mi_X9_init d lm RT F pm_X9_init n) (0, 96, 0, 178, []) L st h := run_s rfl
theorem r_X9_init_178 : run E g mi_X9_init d lm RT F pm_X9_init (n + 1) 178 L st h = exI E d lm RT F (run E g mi_X9_init d lm RT F pm_X9_init n) (42, 0, 0, 180, []) L st h := run_s rfl
theorem r_X9_init_180 : run E g mi_X9_init d lm RT F pm_X9_init (n + 1) 180 L st h = exI E d lm RT F (run E g mi_X9_init d lm RT F pm_X9_init n) (37, ((9 : Nat) : Int), ((27 : Nat) : Int), 183, [3]) L st h := run_s rfl
theorem r_X9_init_183 : run E g mi_X9_init d lm RT F pm_X9_init (n + 1) 183 L st h = exI E d lm RT F (run E g mi_X9_init d lm RT F pm_X9_init n) (2, ((0 : Nat) : Int), 0, 184, []) L st h := run_s rfl
theorem r_X9_init_184 : run E g mi_X9_init d lm RT F pm_X9_init (n + 1) 184 L st h = exI E d lm RT F (run E g mi_X9_init d lm RT F pm_X9_init n) (0, 96, 0, 186, []) L st h := run_s rfl
theorem r_X9_init_186 : run E g mi_X9_init d lm RT F pm_X9_init (n + 1) 186 L st h = exI E d lm RT F (run E g mi_X9_init d lm RT F pm_X9_init n) (42, 0, 0, 188, []) L st h := run_s rfl
theorem r_X9_init_188 : run E g mi_X9_init d lm RT F pm_X9_init (n + 1) 188 L st h = exI E d lm RT F (run E g mi_X9_init d lm RT F pm_X9_init n) (37, ((9 : Nat) : Int), ((28 : Nat) : Int), 191, [3]) L st h := run_s rfl
theorem r_X9_init_191 : run E g mi_X9_init d lm RT F pm_X9_init (n + 1) 191 L st h = exI E d lm RT F (run E g mi_X9_init d lm RT F pm_X9_init n) (2, ((0 : Nat) : Int), 0, 192, []) L st h := run_s rfl
theorem r_X9_init_192 : run E g mi_X9_init d lm RT F pm_X9_init (n + 1) 192 L st h = exI E d lm RT F (run E g mi_X9_init d lm RT F pm_X9_init n) (0, 12, 0, 194, []) L st h := run_s rfl
theorem r_X9_init_194 : run E g mi_X9_init d lm RT F pm_X9_init (n + 1) 194 L st h = exI E d lm RT F (run E g mi_X9_init d lm RT F pm_X9_init n) (42, 0, 0, 196, []) L st h := run_s rfl
theorem r_X9_init_196 : run E g mi_X9_init d lm RT F pm_X9_init (n + 1) 196 L st h = exI E d lm RT F (run E g mi_X9_init d lm RT F pm_X9_init n) (37, ((9 : Nat) : Int), ((29 : Nat) : Int), 199, [3]) L st h := run_s rfl
theorem r_X9_init_199 : run E g mi_X9_init d lm RT F pm_X9_init (n + 1) 199 L st h = exI E d lm RT F (run E g mi_X9_init d lm RT F pm_X9_init n) (2, ((0 : Nat) : Int), 0, 200, []) L st h := run_s rfl
theorem r_X9_init_200 : run E g mi_X9_init d lm RT F pm_X9_init (n + 1) 200 L st h = exI E d lm RT F (run E g mi_X9_init d lm RT F pm_X9_init n) (0, 64, 0, 202, []) L st h := run_s rfl
theorem r_X9_init_202 : run E g mi_X9_init d lm RT F pm_X9_init (n + 1) 202 L st h = exI E d lm RT F (run E g mi_X9_init d lm RT F pm_X9_init n) (42, 0, 0, 204, []) L st h := run_s rfl
theorem r_X9_init_204 : run E g mi_X9_init d lm RT F pm_X9_init (n + 1) 204 L st h = exI E d lm RT F (run E g mi_X9_init d lm RT F pm_X9_init n) (37, ((9 : Nat) : Int), ((30 : Nat) : Int), 207, [3]) L st h := run_s rfl
theorem r_X9_init_207 : run E g mi_X9_init d lm RT F pm_X9_init (n + 1) 207 L st h = exI E d lm RT F (run E g mi_X9_init d lm RT F pm_X9_init n) (2, ((0 : Nat) : Int), 0, 208, []) L st h := run_s rfl
theorem r_X9_init_208 : run E g mi_X9_init d lm RT F pm_X9_init (n + 1) 208 L st h = exI E d lm RT F (run E g mi_X9_init d lm RT F pm_X9_init n) (0, 512, 0, 211, []) L st h := run_s rfl
theorem r_X9_init_211 : run E g mi_X9_init d lm RT F pm_X9_init (n + 1) 211 L st h = exI E d lm RT F (run E g mi_X9_init d lm RT F pm_X9_init n) (42, 0, 0, 213, []) L st h := run_s rfl
theorem r_X9_init_213 : run E g mi_X9_init d lm RT F pm_X9_init (n + 1) 213 L st h = exI E d lm RT F (run E g mi_X9_init d lm RT F pm_X9_init n) (37, ((9 : Nat) : Int), ((31 : Nat) : Int), 216, [3]) L st h := run_s rfl
theorem r_X9_init_216 : run E g mi_X9_init d lm RT F pm_X9_init (n + 1) 216 L st h = exI E d lm RT F (run E g mi_X9_init d lm RT F pm_X9_init n) (2, ((0 : Nat) : Int), 0, 217, []) L st h := run_s rfl
theorem r_X9_init_217 : run E g mi_X9_init d lm RT F pm_X9_init (n + 1) 217 L st h = exI E d lm RT F (run E g mi_X9_init d lm RT F pm_X9_init n) (0, 9, 0, 219, []) L st h := run_s rfl
theorem r_X9_init_219 : run E g mi_X9_init d lm RT F pm_X9_init (n + 1) 219 L st h = exI E d lm RT F (run E g mi_X9_init d lm RT F pm_X9_init n) (42, 0, 0, 221, []) L st h := run_s rfl
theorem r_X9_init_221 : run E g mi_X9_init d lm RT F pm_X9_init (n + 1) 221 L st h = exI E d lm RT F (run E g mi_X9_init d lm RT F pm_X9_init n) (37, ((9 : Nat) : Int), ((32 : Nat) : Int), 224, [3]) L st h := run_s rfl
theorem r_X9_init_224 : run E g mi_X9_init d lm RT F pm_X9_init (n + 1) 224 L st h = exI E d lm RT F (run E g mi_X9_init d lm RT F pm_X9_init n) (2, ((0 : Nat) : Int), 0, 225, []) L st h := run_s rfl
theorem r_X9_init_225 : run E g mi_X9_init d lm RT F pm_X9_init (n + 1) 225 L st h = exI E d lm RT F (run E g mi_X9_init d lm RT F pm_X9_init n) (0, 64, 0, 227, []) L st h := run_s rfl
theorem r_X9_init_227 : run E g mi_X9_init d lm RT F pm_X9_init (n + 1) 227 L st h = exI E d lm RT F (run E g mi_X9_init d lm RT F pm_X9_init n) (42, 0, 0, 229, []) L st h := run_s rfl
theorem r_X9_init_229 : run E g mi_X9_init d lm RT F pm_X9_init (n + 1) 229 L st h = exI E d lm RT F (run E g mi_X9_init d lm RT F pm_X9_init n) (37, ((9 : Nat) : Int), ((33 : Nat) : Int), 232, [3]) L st h := run_s rfl
theorem r_X9_init_232 : run E g mi_X9_init d lm RT F pm_X9_init (n + 1) 232 L st h = exI E d lm RT F (run E g mi_X9_init d lm RT F pm_X9_init n) (0, 0, 0, 233, []) L st h := run_s rfl
theorem r_X9_init_233 : run E g mi_X9_init d lm RT F pm_X9_init (n + 1) 233 L st h = exI E d lm RT F (run E g mi_X9_init d lm RT F pm_X9_init n) (4, ((1 : Nat) : Int), 0, 234, []) L st h := run_s rfl
theorem r_X9_init_234 : run E g mi_X9_init d lm RT F pm_X9_init (n + 1) 234 L st h = G E g mi_X9_init d lm RT 234 L st h := run_c rfl
theorem q_X9_init_234 (n : Nat) (hF : FOk E d F) (hx : exI E d lm RT F (run E g mi_X9_init d lm RT F pm_X9_init n) (1, ((1 : Nat) : Int), 0, 235, []) L st h) : G E g mi_X9_init d lm RT 234 L st h := sstep hF (tOk_spec tk_X9_init (by decide +kernel)) (run_sound hF pk_X9_init n) hx
theorem r_X9_init_235 : run E g mi_X9_init d lm RT F pm_X9_init (n + 1) 235 L st h = exI E d lm RT F (run E g mi_X9_init d lm RT F pm_X9_init n) (0, 64, 0, 237, []) L st h := run_s rfl
theorem r_X9_init_237 : run E g mi_X9_init d lm RT F pm_X9_init (n + 1) 237 L st h = exI E d lm RT F (run E g mi_X9_init d lm RT F pm_X9_init n) (32, 3, ((254 : Nat) : Int), 240, []) L st h := run_s rfl
theorem r_X9_init_240 : run E g mi_X9_init d lm RT F pm_X9_init (n + 1) 240 L st h = exI E d lm RT F (run E g mi_X9_init d lm RT F pm_X9_init n) (2, ((0 : Nat) : Int), 0, 241, []) L st h := run_s rfl
theorem r_X9_init_241 : run E g mi_X9_init d lm RT F pm_X9_init (n + 1) 241 L st h = exI E d lm RT F (run E g mi_X9_init d lm RT F pm_X9_init n) (35, ((9 : Nat) : Int), ((4 : Nat) : Int), 244, []) L st h := run_s rfl
theorem r_X9_init_244 : run E g mi_X9_init d lm RT F pm_X9_init (n + 1) 244 L st h = exI E d lm RT F (run E g mi_X9_init d lm RT F pm_X9_init n) (1, ((1 : Nat) : Int), 0, 245, []) L st h := run_s rfl
theorem r_X9_init_245 : run E g mi_X9_init d lm RT F pm_X9_init (n + 1) 245 L st h = exI E d lm RT F (run E g mi_X9_init d lm RT F pm_X9_init n) (0, (-9), 0, 247, []) L st h := run_s rfl
theorem r_X9_init_247 : run E g mi_X9_init d lm RT F pm_X9_init (n + 1) 247 L st h = exI E d lm RT F (run E g mi_X9_init d lm RT F pm_X9_init n) (39, 0, 0, 248, []) L st h := run_s rfl
theorem r_X9_init_248 : run E g mi_X9_init d lm RT F pm_X9_init (n + 1) 248 L st h = exI E d lm RT F (run E g mi_X9_init d lm RT F pm_X9_init n) (7, ((1 : Nat) : Int), 1, 251, []) L st h := run_s rfl
theorem r_X9_init_251 : run E g mi_X9_init d lm RT F pm_X9_init (n + 1) 251 L st h = exI E d lm RT F (run E g mi_X9_init d lm RT F pm_X9_init n) (33, ((234 : Nat) : Int), 0, 0, []) L st h := run_s rfl
theorem r_X9_init_254 : run E g mi_X9_init d lm RT F pm_X9_init (n + 1) 254 L st h = exI E d lm RT F (run E g mi_X9_init d lm RT F pm_X9_init n) (48, 4, 0, 0, []) L st h := run_s rfl
theorem e_X9_init (n : Nat) {pc : Nat} (hF : FOk E d F) (hx : run E g mi_X9_init d lm RT F pm_X9_init n pc L st h) : G E g mi_X9_init d lm RT pc L st h := run_sound hF pk_X9_init n pc L st h hx
end
def mi_X9_manyNext : MI := (9, cX9_manyNext, 4, 0, false)
theorem mo_X9_manyNext : miOk mi_X9_manyNext (mt 93) = true := by decide +kernel
def tl_X9_manyNext : List (Nat × PT) := [(0, (0, 0, 0, 1, [])),
  (1, (4, ((2 : Nat) : Int), 0, 2, [])),
  (2, (0, 0, 0, 3, [])),
  (3, (4, ((3 : Nat) : Int), 0, 4, [])),
  (4, (1, ((3 : Nat) : Int), 0, 5, [])),
  (5, (0, 8, 0, 7, [])),
  (7, (32, 3, ((33 : Nat) : Int), 10, [])),
  (10, (1, ((2 : Nat) : Int), 0, 11, [])),
  (11, (2, ((0 : Nat) : Int), 0, 12, [])),
  (12, (1, ((1 : Nat) : Int), 0, 13, [])),
  (13, (1, ((3 : Nat) : Int), 0, 14, [])),
  (14, (52, ((92 : Nat) : Int), ((3 : Nat) : Int), 17, [9])),
  (17, (31, 0, ((24 : Nat) : Int), 20, [])),
  (20, (0, 1, 0, 21, [])),
  (21, (33, ((25 : Nat) : Int), 0, 0, [])),
  (24, (0, 0, 0, 25, [])),
  (25, (8, 0, 0, 26, [])),
  (26, (4, ((2 : Nat) : Int), 0, 27, [])),
  (27, (7, ((3 : Nat) : Int), 1, 30, [])),
  (30, (33, ((4 : Nat) : Int), 0, 0, [])),
  (33, (1, ((2 : Nat) : Int), 0, 34, [])),
  (34, (48, 0, 0, 0, []))]
theorem tk_X9_manyNext : tOk mi_X9_manyNext tl_X9_manyNext = true := by decide +kernel
def pm_X9_manyNext (pc : Nat) : Option PT := if [4].contains pc then none else tl_X9_manyNext.lookup pc
theorem pk_X9_manyNext : ∀ pc pt, pm_X9_manyNext pc = some pt → okPt mi_X9_manyNext pc pt := fun pc pt h => tOk_pm tk_X9_manyNext h
section
variable {E : ET} {g : GT} {d : Nat} {lm : Nat × Nat} {RT : RTy} {F : FT} {n : Nat} {L : LV} {st : List AV} {h : AH}
theorem r_X9_manyNext_0 : run E g mi_X9_manyNext d lm RT F pm_X9_manyNext (n + 1) 0 L st h = exI E d lm RT F (run E g mi_X9_manyNext d lm RT F pm_X9_manyNext n) (0, 0, 0, 1, []) L st h := run_s rfl
theorem r_X9_manyNext_1 : run E g mi_X9_manyNext d lm RT F pm_X9_manyNext (n + 1) 1 L st h = exI E d lm RT F (run E g mi_X9_manyNext d lm RT F pm_X9_manyNext n) (4, ((2 : Nat) : Int), 0, 2, []) L st h := run_s rfl
theorem r_X9_manyNext_2 : run E g mi_X9_manyNext d lm RT F pm_X9_manyNext (n + 1) 2 L st h = exI E d lm RT F (run E g mi_X9_manyNext d lm RT F pm_X9_manyNext n) (0, 0, 0, 3, []) L st h := run_s rfl
theorem r_X9_manyNext_3 : run E g mi_X9_manyNext d lm RT F pm_X9_manyNext (n + 1) 3 L st h = exI E d lm RT F (run E g mi_X9_manyNext d lm RT F pm_X9_manyNext n) (4, ((3 : Nat) : Int), 0, 4, []) L st h := run_s rfl
theorem r_X9_manyNext_4 : run E g mi_X9_manyNext d lm RT F pm_X9_manyNext (n + 1) 4 L st h = G E g mi_X9_manyNext d lm RT 4 L st h := run_c rfl
theorem q_X9_manyNext_4 (n : Nat) (hF : FOk E d F) (hx : exI E d lm RT F (run E g mi_X9_manyNext d lm RT F pm_X9_manyNext n) (1, ((3 : Nat) : Int), 0, 5, []) L st h) : G E g mi_X9_manyNext d lm RT 4 L st h := sstep hF (tOk_spec tk_X9_manyNext (by decide +kernel)) (run_sound hF pk_X9_manyNext n) hx
theorem r_X9_manyNext_5 : run E g mi_X9_manyNext d lm RT F pm_X9_manyNext (n + 1) 5 L st h = exI E d lm RT F (run E g mi_X9_manyNext d lm RT F pm_X9_manyNext n) (0, 8, 0, 7, []) L st h := run_s rfl
theorem r_X9_manyNext_7 : run E g mi_X9_manyNext d lm RT F pm_X9_manyNext (n + 1) 7 L st h = exI E d lm RT F (run E g mi_X9_manyNext d lm RT F pm_X9_manyNext n) (32, 3, ((33 : Nat) : Int), 10, []) L st h := run_s rfl
theorem r_X9_manyNext_10 : run E g mi_X9_manyNext d lm RT F pm_X9_manyNext (n + 1) 10 L st h = exI E d lm RT F (run E g mi_X9_manyNext d lm RT F pm_X9_manyNext n) (1, ((2 : Nat) : Int), 0, 11, []) L st h := run_s rfl
theorem r_X9_manyNext_11 : run E g mi_X9_manyNext d lm RT F pm_X9_manyNext (n + 1) 11 L st h = exI E d lm RT F (run E g mi_X9_manyNext d lm RT F pm_X9_manyNext n) (2, ((0 : Nat) : Int), 0, 12, []) L st h := run_s rfl
theorem r_X9_manyNext_12 : run E g mi_X9_manyNext d lm RT F pm_X9_manyNext (n + 1) 12 L st h = exI E d lm RT F (run E g mi_X9_manyNext d lm RT F pm_X9_manyNext n) (1, ((1 : Nat) : Int), 0, 13, []) L st h := run_s rfl
theorem r_X9_manyNext_13 : run E g mi_X9_manyNext d lm RT F pm_X9_manyNext (n + 1) 13 L st h = exI E d lm RT F (run E g mi_X9_manyNext d lm RT F pm_X9_manyNext n) (1, ((3 : Nat) : Int), 0, 14, []) L st h := run_s rfl
theorem r_X9_manyNext_14 : run E g mi_X9_manyNext d lm RT F pm_X9_manyNext (n + 1) 14 L st h = exI E d lm RT F (run E g mi_X9_manyNext d lm RT F pm_X9_manyNext n) (52, ((92 : Nat) : Int), ((3 : Nat) : Int), 17, [9]) L st h := run_s rfl
theorem r_X9_manyNext_17 : run E g mi_X9_manyNext d lm RT F pm_X9_manyNext (n + 1) 17 L st h = exI E d lm RT F (run E g mi_X9_manyNext d lm RT F pm_X9_manyNext n) (31, 0, ((24 : Nat) : Int), 20, []) L st h := run_s rfl
theorem r_X9_manyNext_20 : run E g mi_X9_manyNext d lm RT F pm_X9_manyNext (n + 1) 20 L st h = exI E d lm RT F (run E g mi_X9_manyNext d lm RT F pm_X9_manyNext n) (0, 1, 0, 21, []) L st h := run_s rfl
theorem r_X9_manyNext_21 : run E g mi_X9_manyNext d lm RT F pm_X9_manyNext (n + 1) 21 L st h = exI E d lm RT F (run E g mi_X9_manyNext d lm RT F pm_X9_manyNext n) (33, ((25 : Nat) : Int), 0, 0, []) L st h := run_s rfl
theorem r_X9_manyNext_24 : run E g mi_X9_manyNext d lm RT F pm_X9_manyNext (n + 1) 24 L st h = exI E d lm RT F (run E g mi_X9_manyNext d lm RT F pm_X9_manyNext n) (0, 0, 0, 25, []) L st h := run_s rfl
theorem r_X9_manyNext_25 : run E g mi_X9_manyNext d lm RT F pm_X9_manyNext (n + 1) 25 L st h = exI E d lm RT F (run E g mi_X9_manyNext d lm RT F pm_X9_manyNext n) (8, 0, 0, 26, []) L st h := run_s rfl
theorem r_X9_manyNext_26 : run E g mi_X9_manyNext d lm RT F pm_X9_manyNext (n + 1) 26 L st h = exI E d lm RT F (run E g mi_X9_manyNext d lm RT F pm_X9_manyNext n) (4, ((2 : Nat) : Int), 0, 27, []) L st h := run_s rfl
theorem r_X9_manyNext_27 : run E g mi_X9_manyNext d lm RT F pm_X9_manyNext (n + 1) 27 L st h = exI E d lm RT F (run E g mi_X9_manyNext d lm RT F pm_X9_manyNext n) (7, ((3 : Nat) : Int), 1, 30, []) L st h := run_s rfl
theorem r_X9_manyNext_30 : run E g mi_X9_manyNext d lm RT F pm_X9_manyNext (n + 1) 30 L st h = exI E d lm RT F (run E g mi_X9_manyNext d lm RT F pm_X9_manyNext n) (33, ((4 : Nat) : Int), 0, 0, []) L st h := run_s rfl
theorem r_X9_manyNext_33 : run E g mi_X9_manyNext d lm RT F pm_X9_manyNext (n + 1) 33 L st h = exI E d lm RT F (run E g mi_X9_manyNext d lm RT F pm_X9_manyNext n) (1, ((2 : Nat) : Int), 0, 34, []) L st h := run_s rfl
theorem r_X9_manyNext_34 : run E g mi_X9_manyNext d lm RT F pm_X9_manyNext (n + 1) 34 L st h = exI E d lm RT F (run E g mi_X9_manyNext d lm RT F pm_X9_manyNext n) (48, 0, 0, 0, []) L st h := run_s rfl
theorem e_X9_manyNext (n : Nat) {pc : Nat} (hF : FOk E d F) (hx : run E g mi_X9_manyNext d lm RT F pm_X9_manyNext n pc L st h) : G E g mi_X9_manyNext d lm RT pc L st h := run_sound hF pk_X9_manyNext n pc L st h hx
end
def mi_X9_spreadEven : MI := (9, cX9_spreadEven, 8, 4, false)
theorem mo_X9_spreadEven : miOk mi_X9_spreadEven (mt 95) = true := by decide +kernel
def tl_X9_spreadEven : List (Nat × PT) := [(0, (2, ((0 : Nat) : Int), 0, 1, [])),
  (1, (1, ((1 : Nat) : Int), 0, 2, [])),
  (2, (51, ((93 : Nat) : Int), ((2 : Nat) : Int), 5, [9])),
  (5, (1, ((4 : Nat) : Int), 0, 7, [])),
  (7, (0, (-9), 0, 9, [])),
  (9, (32, 1, ((16 : Nat) : Int), 12, [])),
  (12, (0, 0, 0, 13, [])),
  (13, (33, ((17 : Nat) : Int), 0, 0, [])),
  (16, (0, 1, 0, 17, [])),
  (17, (9, 0, 0, 18, [])),
  (18, (4, ((5 : Nat) : Int), 0, 20, [])),
  (20, (1, ((5 : Nat) : Int), 0, 22, [])),
  (22, (31, 1, ((29 : Nat) : Int), 25, [])),
  (25, (0, 0, 0, 26, [])),
  (26, (33, ((33 : Nat) : Int), 0, 0, [])),
  (29, (1, ((3 : Nat) : Int), 0, 30, [])),
  (30, (1, ((5 : Nat) : Int), 0, 32, [])),
  (32, (12, 0, 0, 33, [])),
  (33, (4, ((6 : Nat) : Int), 0, 35, [])),
  (35, (0, 0, 0, 36, [])),
  (36, (4, ((7 : Nat) : Int), 0, 38, [])),
  (38, (1, ((7 : Nat) : Int), 0, 40, [])),
  (40, (0, 8, 0, 42, [])),
  (42, (32, 3, ((95 : Nat) : Int), 45, [])),
  (45, (2, ((0 : Nat) : Int), 0, 46, [])),
  (46, (1, ((1 : Nat) : Int), 0, 47, [])),
  (47, (1, ((7 : Nat) : Int), 0, 49, [])),
  (49, (52, ((92 : Nat) : Int), ((3 : Nat) : Int), 52, [9])),
  (52, (31, 0, ((89 : Nat) : Int), 55, [])),
  (55, (1, ((7 : Nat) : Int), 0, 57, [])),
  (57, (1, ((4 : Nat) : Int), 0, 59, [])),
  (59, (32, 0, ((89 : Nat) : Int), 62, [])),
  (62, (2, ((0 : Nat) : Int), 0, 63, [])),
  (63, (35, ((9 : Nat) : Int), ((5 : Nat) : Int), 66, [])),
  (66, (1, ((2 : Nat) : Int), 0, 67, [])),
  (67, (1, ((7 : Nat) : Int), 0, 69, [])),
  (69, (8, 0, 0, 70, [])),
  (70, (1, ((3 : Nat) : Int), 0, 71, [])),
  (71, (1, ((5 : Nat) : Int), 0, 73, [])),
  (73, (11, 0, 0, 74, [])),
  (74, (1, ((6 : Nat) : Int), 0, 76, [])),
  (76, (31, 5, ((83 : Nat) : Int), 79, [])),
  (79, (0, 1, 0, 80, [])),
  (80, (33, ((84 : Nat) : Int), 0, 0, [])),
  (83, (0, 0, 0, 84, [])),
  (84, (8, 0, 0, 85, [])),
  (85, (39, 0, 0, 86, [])),
  (86, (7, ((6 : Nat) : Int), (-1), 89, [])),
  (89, (7, ((7 : Nat) : Int), 1, 92, [])),
  (92, (33, ((38 : Nat) : Int), 0, 0, [])),
  (95, (48, 4, 0, 0, []))]
theorem tk_X9_spreadEven_0 : tOk mi_X9_spreadEven ((tl_X9_spreadEven.drop 0).take 45) = true := by decide +kernel
theorem tk_X9_spreadEven_1 : tOk mi_X9_spreadEven ((tl_X9_spreadEven.drop 45).take 45) = true := by decide +kernel
theorem tk_X9_spreadEven : tOk mi_X9_spreadEven tl_X9_spreadEven = true := by
  refine tOk_cut 45 (by decide) (fun q hq => ?_)
  have hl : tl_X9_spreadEven.length = 51 := by decide +kernel
  rw [hl] at hq
  rcases (show q = 0 ∨ q = 1 by omega) with rfl | rfl
  · exact tk_X9_spreadEven_0
  · exact tk_X9_spreadEven_1
def pm_X9_spreadEven (pc : Nat) : Option PT := if [38].contains pc then none else tl_X9_spreadEven.lookup pc
theorem pk_X9_spreadEven : ∀ pc pt, pm_X9_spreadEven pc = some pt → okPt mi_X9_spreadEven pc pt := fun pc pt h => tOk_pm tk_X9_spreadEven h
section
variable {E : ET} {g : GT} {d : Nat} {lm : Nat × Nat} {RT : RTy} {F : FT} {n : Nat} {L : LV} {st : List AV} {h : AH}
theorem r_X9_spreadEven_0 : run E g mi_X9_spreadEven d lm RT F pm_X9_spreadEven (n + 1) 0 L st h = exI E d lm RT F (run E g mi_X9_spreadEven d lm RT F pm_X9_spreadEven n) (2, ((0 : Nat) : Int), 0, 1, []) L st h := run_s rfl
theorem r_X9_spreadEven_1 : run E g mi_X9_spreadEven d lm RT F pm_X9_spreadEven (n + 1) 1 L st h = exI E d lm RT F (run E g mi_X9_spreadEven d lm RT F pm_X9_spreadEven n) (1, ((1 : Nat) : Int), 0, 2, []) L st h := run_s rfl
theorem r_X9_spreadEven_2 : run E g mi_X9_spreadEven d lm RT F pm_X9_spreadEven (n + 1) 2 L st h = exI E d lm RT F (run E g mi_X9_spreadEven d lm RT F pm_X9_spreadEven n) (51, ((93 : Nat) : Int), ((2 : Nat) : Int), 5, [9]) L st h := run_s rfl
theorem r_X9_spreadEven_5 : run E g mi_X9_spreadEven d lm RT F pm_X9_spreadEven (n + 1) 5 L st h = exI E d lm RT F (run E g mi_X9_spreadEven d lm RT F pm_X9_spreadEven n) (1, ((4 : Nat) : Int), 0, 7, []) L st h := run_s rfl
theorem r_X9_spreadEven_7 : run E g mi_X9_spreadEven d lm RT F pm_X9_spreadEven (n + 1) 7 L st h = exI E d lm RT F (run E g mi_X9_spreadEven d lm RT F pm_X9_spreadEven n) (0, (-9), 0, 9, []) L st h := run_s rfl
theorem r_X9_spreadEven_9 : run E g mi_X9_spreadEven d lm RT F pm_X9_spreadEven (n + 1) 9 L st h = exI E d lm RT F (run E g mi_X9_spreadEven d lm RT F pm_X9_spreadEven n) (32, 1, ((16 : Nat) : Int), 12, []) L st h := run_s rfl
theorem r_X9_spreadEven_12 : run E g mi_X9_spreadEven d lm RT F pm_X9_spreadEven (n + 1) 12 L st h = exI E d lm RT F (run E g mi_X9_spreadEven d lm RT F pm_X9_spreadEven n) (0, 0, 0, 13, []) L st h := run_s rfl
theorem r_X9_spreadEven_13 : run E g mi_X9_spreadEven d lm RT F pm_X9_spreadEven (n + 1) 13 L st h = exI E d lm RT F (run E g mi_X9_spreadEven d lm RT F pm_X9_spreadEven n) (33, ((17 : Nat) : Int), 0, 0, []) L st h := run_s rfl
theorem r_X9_spreadEven_16 : run E g mi_X9_spreadEven d lm RT F pm_X9_spreadEven (n + 1) 16 L st h = exI E d lm RT F (run E g mi_X9_spreadEven d lm RT F pm_X9_spreadEven n) (0, 1, 0, 17, []) L st h := run_s rfl
theorem r_X9_spreadEven_17 : run E g mi_X9_spreadEven d lm RT F pm_X9_spreadEven (n + 1) 17 L st h = exI E d lm RT F (run E g mi_X9_spreadEven d lm RT F pm_X9_spreadEven n) (9, 0, 0, 18, []) L st h := run_s rfl
theorem r_X9_spreadEven_18 : run E g mi_X9_spreadEven d lm RT F pm_X9_spreadEven (n + 1) 18 L st h = exI E d lm RT F (run E g mi_X9_spreadEven d lm RT F pm_X9_spreadEven n) (4, ((5 : Nat) : Int), 0, 20, []) L st h := run_s rfl
theorem r_X9_spreadEven_20 : run E g mi_X9_spreadEven d lm RT F pm_X9_spreadEven (n + 1) 20 L st h = exI E d lm RT F (run E g mi_X9_spreadEven d lm RT F pm_X9_spreadEven n) (1, ((5 : Nat) : Int), 0, 22, []) L st h := run_s rfl
theorem r_X9_spreadEven_22 : run E g mi_X9_spreadEven d lm RT F pm_X9_spreadEven (n + 1) 22 L st h = exI E d lm RT F (run E g mi_X9_spreadEven d lm RT F pm_X9_spreadEven n) (31, 1, ((29 : Nat) : Int), 25, []) L st h := run_s rfl
theorem r_X9_spreadEven_25 : run E g mi_X9_spreadEven d lm RT F pm_X9_spreadEven (n + 1) 25 L st h = exI E d lm RT F (run E g mi_X9_spreadEven d lm RT F pm_X9_spreadEven n) (0, 0, 0, 26, []) L st h := run_s rfl
theorem r_X9_spreadEven_26 : run E g mi_X9_spreadEven d lm RT F pm_X9_spreadEven (n + 1) 26 L st h = exI E d lm RT F (run E g mi_X9_spreadEven d lm RT F pm_X9_spreadEven n) (33, ((33 : Nat) : Int), 0, 0, []) L st h := run_s rfl
theorem r_X9_spreadEven_29 : run E g mi_X9_spreadEven d lm RT F pm_X9_spreadEven (n + 1) 29 L st h = exI E d lm RT F (run E g mi_X9_spreadEven d lm RT F pm_X9_spreadEven n) (1, ((3 : Nat) : Int), 0, 30, []) L st h := run_s rfl
theorem r_X9_spreadEven_30 : run E g mi_X9_spreadEven d lm RT F pm_X9_spreadEven (n + 1) 30 L st h = exI E d lm RT F (run E g mi_X9_spreadEven d lm RT F pm_X9_spreadEven n) (1, ((5 : Nat) : Int), 0, 32, []) L st h := run_s rfl
theorem r_X9_spreadEven_32 : run E g mi_X9_spreadEven d lm RT F pm_X9_spreadEven (n + 1) 32 L st h = exI E d lm RT F (run E g mi_X9_spreadEven d lm RT F pm_X9_spreadEven n) (12, 0, 0, 33, []) L st h := run_s rfl
theorem r_X9_spreadEven_33 : run E g mi_X9_spreadEven d lm RT F pm_X9_spreadEven (n + 1) 33 L st h = exI E d lm RT F (run E g mi_X9_spreadEven d lm RT F pm_X9_spreadEven n) (4, ((6 : Nat) : Int), 0, 35, []) L st h := run_s rfl
theorem r_X9_spreadEven_35 : run E g mi_X9_spreadEven d lm RT F pm_X9_spreadEven (n + 1) 35 L st h = exI E d lm RT F (run E g mi_X9_spreadEven d lm RT F pm_X9_spreadEven n) (0, 0, 0, 36, []) L st h := run_s rfl
theorem r_X9_spreadEven_36 : run E g mi_X9_spreadEven d lm RT F pm_X9_spreadEven (n + 1) 36 L st h = exI E d lm RT F (run E g mi_X9_spreadEven d lm RT F pm_X9_spreadEven n) (4, ((7 : Nat) : Int), 0, 38, []) L st h := run_s rfl
theorem r_X9_spreadEven_38 : run E g mi_X9_spreadEven d lm RT F pm_X9_spreadEven (n + 1) 38 L st h = G E g mi_X9_spreadEven d lm RT 38 L st h := run_c rfl
theorem q_X9_spreadEven_38 (n : Nat) (hF : FOk E d F) (hx : exI E d lm RT F (run E g mi_X9_spreadEven d lm RT F pm_X9_spreadEven n) (1, ((7 : Nat) : Int), 0, 40, []) L st h) : G E g mi_X9_spreadEven d lm RT 38 L st h := sstep hF (tOk_spec tk_X9_spreadEven (by decide +kernel)) (run_sound hF pk_X9_spreadEven n) hx
theorem r_X9_spreadEven_40 : run E g mi_X9_spreadEven d lm RT F pm_X9_spreadEven (n + 1) 40 L st h = exI E d lm RT F (run E g mi_X9_spreadEven d lm RT F pm_X9_spreadEven n) (0, 8, 0, 42, []) L st h := run_s rfl
theorem r_X9_spreadEven_42 : run E g mi_X9_spreadEven d lm RT F pm_X9_spreadEven (n + 1) 42 L st h = exI E d lm RT F (run E g mi_X9_spreadEven d lm RT F pm_X9_spreadEven n) (32, 3, ((95 : Nat) : Int), 45, []) L st h := run_s rfl
theorem r_X9_spreadEven_45 : run E g mi_X9_spreadEven d lm RT F pm_X9_spreadEven (n + 1) 45 L st h = exI E d lm RT F (run E g mi_X9_spreadEven d lm RT F pm_X9_spreadEven n) (2, ((0 : Nat) : Int), 0, 46, []) L st h := run_s rfl
theorem r_X9_spreadEven_46 : run E g mi_X9_spreadEven d lm RT F pm_X9_spreadEven (n + 1) 46 L st h = exI E d lm RT F (run E g mi_X9_spreadEven d lm RT F pm_X9_spreadEven n) (1, ((1 : Nat) : Int), 0, 47, []) L st h := run_s rfl
theorem r_X9_spreadEven_47 : run E g mi_X9_spreadEven d lm RT F pm_X9_spreadEven (n + 1) 47 L st h = exI E d lm RT F (run E g mi_X9_spreadEven d lm RT F pm_X9_spreadEven n) (1, ((7 : Nat) : Int), 0, 49, []) L st h := run_s rfl
theorem r_X9_spreadEven_49 : run E g mi_X9_spreadEven d lm RT F pm_X9_spreadEven (n + 1) 49 L st h = exI E d lm RT F (run E g mi_X9_spreadEven d lm RT F pm_X9_spreadEven n) (52, ((92 : Nat) : Int), ((3 : Nat) : Int), 52, [9]) L st h := run_s rfl
theorem r_X9_spreadEven_52 : run E g mi_X9_spreadEven d lm RT F pm_X9_spreadEven (n + 1) 52 L st h = exI E d lm RT F (run E g mi_X9_spreadEven d lm RT F pm_X9_spreadEven n) (31, 0, ((89 : Nat) : Int), 55, []) L st h := run_s rfl
theorem r_X9_spreadEven_55 : run E g mi_X9_spreadEven d lm RT F pm_X9_spreadEven (n + 1) 55 L st h = exI E d lm RT F (run E g mi_X9_spreadEven d lm RT F pm_X9_spreadEven n) (1, ((7 : Nat) : Int), 0, 57, []) L st h := run_s rfl
theorem r_X9_spreadEven_57 : run E g mi_X9_spreadEven d lm RT F pm_X9_spreadEven (n + 1) 57 L st h = exI E d lm RT F (run E g mi_X9_spreadEven d lm RT F pm_X9_spreadEven n) (1, ((4 : Nat) : Int), 0, 59, []) L st h := run_s rfl
theorem r_X9_spreadEven_59 : run E g mi_X9_spreadEven d lm RT F pm_X9_spreadEven (n + 1) 59 L st h = exI E d lm RT F (run E g mi_X9_spreadEven d lm RT F pm_X9_spreadEven n) (32, 0, ((89 : Nat) : Int), 62, []) L st h := run_s rfl
theorem r_X9_spreadEven_62 : run E g mi_X9_spreadEven d lm RT F pm_X9_spreadEven (n + 1) 62 L st h = exI E d lm RT F (run E g mi_X9_spreadEven d lm RT F pm_X9_spreadEven n) (2, ((0 : Nat) : Int), 0, 63, []) L st h := run_s rfl
theorem r_X9_spreadEven_63 : run E g mi_X9_spreadEven d lm RT F pm_X9_spreadEven (n + 1) 63 L st h = exI E d lm RT F (run E g mi_X9_spreadEven d lm RT F pm_X9_spreadEven n) (35, ((9 : Nat) : Int), ((5 : Nat) : Int), 66, []) L st h := run_s rfl
theorem r_X9_spreadEven_66 : run E g mi_X9_spreadEven d lm RT F pm_X9_spreadEven (n + 1) 66 L st h = exI E d lm RT F (run E g mi_X9_spreadEven d lm RT F pm_X9_spreadEven n) (1, ((2 : Nat) : Int), 0, 67, []) L st h := run_s rfl
theorem r_X9_spreadEven_67 : run E g mi_X9_spreadEven d lm RT F pm_X9_spreadEven (n + 1) 67 L st h = exI E d lm RT F (run E g mi_X9_spreadEven d lm RT F pm_X9_spreadEven n) (1, ((7 : Nat) : Int), 0, 69, []) L st h := run_s rfl
theorem r_X9_spreadEven_69 : run E g mi_X9_spreadEven d lm RT F pm_X9_spreadEven (n + 1) 69 L st h = exI E d lm RT F (run E g mi_X9_spreadEven d lm RT F pm_X9_spreadEven n) (8, 0, 0, 70, []) L st h := run_s rfl
theorem r_X9_spreadEven_70 : run E g mi_X9_spreadEven d lm RT F pm_X9_spreadEven (n + 1) 70 L st h = exI E d lm RT F (run E g mi_X9_spreadEven d lm RT F pm_X9_spreadEven n) (1, ((3 : Nat) : Int), 0, 71, []) L st h := run_s rfl
theorem r_X9_spreadEven_71 : run E g mi_X9_spreadEven d lm RT F pm_X9_spreadEven (n + 1) 71 L st h = exI E d lm RT F (run E g mi_X9_spreadEven d lm RT F pm_X9_spreadEven n) (1, ((5 : Nat) : Int), 0, 73, []) L st h := run_s rfl
theorem r_X9_spreadEven_73 : run E g mi_X9_spreadEven d lm RT F pm_X9_spreadEven (n + 1) 73 L st h = exI E d lm RT F (run E g mi_X9_spreadEven d lm RT F pm_X9_spreadEven n) (11, 0, 0, 74, []) L st h := run_s rfl
theorem r_X9_spreadEven_74 : run E g mi_X9_spreadEven d lm RT F pm_X9_spreadEven (n + 1) 74 L st h = exI E d lm RT F (run E g mi_X9_spreadEven d lm RT F pm_X9_spreadEven n) (1, ((6 : Nat) : Int), 0, 76, []) L st h := run_s rfl
theorem r_X9_spreadEven_76 : run E g mi_X9_spreadEven d lm RT F pm_X9_spreadEven (n + 1) 76 L st h = exI E d lm RT F (run E g mi_X9_spreadEven d lm RT F pm_X9_spreadEven n) (31, 5, ((83 : Nat) : Int), 79, []) L st h := run_s rfl
theorem r_X9_spreadEven_79 : run E g mi_X9_spreadEven d lm RT F pm_X9_spreadEven (n + 1) 79 L st h = exI E d lm RT F (run E g mi_X9_spreadEven d lm RT F pm_X9_spreadEven n) (0, 1, 0, 80, []) L st h := run_s rfl
theorem r_X9_spreadEven_80 : run E g mi_X9_spreadEven d lm RT F pm_X9_spreadEven (n + 1) 80 L st h = exI E d lm RT F (run E g mi_X9_spreadEven d lm RT F pm_X9_spreadEven n) (33, ((84 : Nat) : Int), 0, 0, []) L st h := run_s rfl
theorem r_X9_spreadEven_83 : run E g mi_X9_spreadEven d lm RT F pm_X9_spreadEven (n + 1) 83 L st h = exI E d lm RT F (run E g mi_X9_spreadEven d lm RT F pm_X9_spreadEven n) (0, 0, 0, 84, []) L st h := run_s rfl
theorem r_X9_spreadEven_84 : run E g mi_X9_spreadEven d lm RT F pm_X9_spreadEven (n + 1) 84 L st h = exI E d lm RT F (run E g mi_X9_spreadEven d lm RT F pm_X9_spreadEven n) (8, 0, 0, 85, []) L st h := run_s rfl
theorem r_X9_spreadEven_85 : run E g mi_X9_spreadEven d lm RT F pm_X9_spreadEven (n + 1) 85 L st h = exI E d lm RT F (run E g mi_X9_spreadEven d lm RT F pm_X9_spreadEven n) (39, 0, 0, 86, []) L st h := run_s rfl
theorem r_X9_spreadEven_86 : run E g mi_X9_spreadEven d lm RT F pm_X9_spreadEven (n + 1) 86 L st h = exI E d lm RT F (run E g mi_X9_spreadEven d lm RT F pm_X9_spreadEven n) (7, ((6 : Nat) : Int), (-1), 89, []) L st h := run_s rfl
theorem r_X9_spreadEven_89 : run E g mi_X9_spreadEven d lm RT F pm_X9_spreadEven (n + 1) 89 L st h = exI E d lm RT F (run E g mi_X9_spreadEven d lm RT F pm_X9_spreadEven n) (7, ((7 : Nat) : Int), 1, 92, []) L st h := run_s rfl
theorem r_X9_spreadEven_92 : run E g mi_X9_spreadEven d lm RT F pm_X9_spreadEven (n + 1) 92 L st h = exI E d lm RT F (run E g mi_X9_spreadEven d lm RT F pm_X9_spreadEven n) (33, ((38 : Nat) : Int), 0, 0, []) L st h := run_s rfl
theorem r_X9_spreadEven_95 : run E g mi_X9_spreadEven d lm RT F pm_X9_spreadEven (n + 1) 95 L st h = exI E d lm RT F (run E g mi_X9_spreadEven d lm RT F pm_X9_spreadEven n) (48, 4, 0, 0, []) L st h := run_s rfl
theorem e_X9_spreadEven (n : Nat) {pc : Nat} (hF : FOk E d F) (hx : run E g mi_X9_spreadEven d lm RT F pm_X9_spreadEven n pc L st h) : G E g mi_X9_spreadEven d lm RT pc L st h := run_sound hF pk_X9_spreadEven n pc L st h hx
end
def mi_X9_makeEven : MI := (9, cX9_makeEven, 4, 4, false)
theorem mo_X9_makeEven : miOk mi_X9_makeEven (mt 96) = true := by decide +kernel
def tl_X9_makeEven : List (Nat × PT) := [(0, (0, 0, 0, 1, [])),
  (1, (4, ((3 : Nat) : Int), 0, 2, [])),
  (2, (1, ((3 : Nat) : Int), 0, 3, [])),
  (3, (0, 8, 0, 5, [])),
  (5, (32, 3, ((27 : Nat) : Int), 8, [])),
  (8, (2, ((0 : Nat) : Int), 0, 9, [])),
  (9, (35, ((9 : Nat) : Int), ((5 : Nat) : Int), 12, [])),
  (12, (1, ((1 : Nat) : Int), 0, 13, [])),
  (13, (1, ((2 : Nat) : Int), 0, 14, [])),
  (14, (45, ((94 : Nat) : Int), ((2 : Nat) : Int), 17, [])),
  (17, (1, ((3 : Nat) : Int), 0, 18, [])),
  (18, (8, 0, 0, 19, [])),
  (19, (0, 0, 0, 20, [])),
  (20, (39, 0, 0, 21, [])),
  (21, (7, ((3 : Nat) : Int), 1, 24, [])),
  (24, (33, ((2 : Nat) : Int), 0, 0, [])),
  (27, (2, ((0 : Nat) : Int), 0, 28, [])),
  (28, (1, ((1 : Nat) : Int), 0, 29, [])),
  (29, (1, ((1 : Nat) : Int), 0, 30, [])),
  (30, (1, ((2 : Nat) : Int), 0, 31, [])),
  (31, (45, ((94 : Nat) : Int), ((2 : Nat) : Int), 34, [])),
  (34, (0, 1000, 0, 37, [])),
  (37, (0, (-9), 0, 39, [])),
  (39, (51, ((95 : Nat) : Int), ((5 : Nat) : Int), 42, [9])),
  (42, (48, 4, 0, 0, []))]
theorem tk_X9_makeEven : tOk mi_X9_makeEven tl_X9_makeEven = true := by decide +kernel
def pm_X9_makeEven (pc : Nat) : Option PT := if [2].contains pc then none else tl_X9_makeEven.lookup pc
theorem pk_X9_makeEven : ∀ pc pt, pm_X9_makeEven pc = some pt → okPt mi_X9_makeEven pc pt := fun pc pt h => tOk_pm tk_X9_makeEven h
section
variable {E : ET} {g : GT} {d : Nat} {lm : Nat × Nat} {RT : RTy} {F : FT} {n : Nat} {L : LV} {st : List AV} {h : AH}
theorem r_X9_makeEven_0 : run E g mi_X9_makeEven d lm RT F pm_X9_makeEven (n + 1) 0 L st h = exI E d lm RT F (run E g mi_X9_makeEven d lm RT F pm_X9_makeEven n) (0, 0, 0, 1, []) L st h := run_s rfl
theorem r_X9_makeEven_1 : run E g mi_X9_makeEven d lm RT F pm_X9_makeEven (n + 1) 1 L st h = exI E d lm RT F (run E g mi_X9_makeEven d lm RT F pm_X9_makeEven n) (4, ((3 : Nat) : Int), 0, 2, []) L st h := run_s rfl
theorem r_X9_makeEven_2 : run E g mi_X9_makeEven d lm RT F pm_X9_makeEven (n + 1) 2 L st h = G E g mi_X9_makeEven d lm RT 2 L st h := run_c rfl
theorem q_X9_makeEven_2 (n : Nat) (hF : FOk E d F) (hx : exI E d lm RT F (run E g mi_X9_makeEven d lm RT F pm_X9_makeEven n) (1, ((3 : Nat) : Int), 0, 3, []) L st h) : G E g mi_X9_makeEven d lm RT 2 L st h := sstep hF (tOk_spec tk_X9_makeEven (by decide +kernel)) (run_sound hF pk_X9_makeEven n) hx
theorem r_X9_makeEven_3 : run E g mi_X9_makeEven d lm RT F pm_X9_makeEven (n + 1) 3 L st h = exI E d lm RT F (run E g mi_X9_makeEven d lm RT F pm_X9_makeEven n) (0, 8, 0, 5, []) L st h := run_s rfl
theorem r_X9_makeEven_5 : run E g mi_X9_makeEven d lm RT F pm_X9_makeEven (n + 1) 5 L st h = exI E d lm RT F (run E g mi_X9_makeEven d lm RT F pm_X9_makeEven n) (32, 3, ((27 : Nat) : Int), 8, []) L st h := run_s rfl
theorem r_X9_makeEven_8 : run E g mi_X9_makeEven d lm RT F pm_X9_makeEven (n + 1) 8 L st h = exI E d lm RT F (run E g mi_X9_makeEven d lm RT F pm_X9_makeEven n) (2, ((0 : Nat) : Int), 0, 9, []) L st h := run_s rfl
theorem r_X9_makeEven_9 : run E g mi_X9_makeEven d lm RT F pm_X9_makeEven (n + 1) 9 L st h = exI E d lm RT F (run E g mi_X9_makeEven d lm RT F pm_X9_makeEven n) (35, ((9 : Nat) : Int), ((5 : Nat) : Int), 12, []) L st h := run_s rfl
theorem r_X9_makeEven_12 : run E g mi_X9_makeEven d lm RT F pm_X9_makeEven (n + 1) 12 L st h = exI E d lm RT F (run E g mi_X9_makeEven d lm RT F pm_X9_makeEven n) (1, ((1 : Nat) : Int), 0, 13, []) L st h := run_s rfl
theorem r_X9_makeEven_13 : run E g mi_X9_makeEven d lm RT F pm_X9_makeEven (n + 1) 13 L st h = exI E d lm RT F (run E g mi_X9_makeEven d lm RT F pm_X9_makeEven n) (1, ((2 : Nat) : Int), 0, 14, []) L st h := run_s rfl
theorem r_X9_makeEven_14 : run E g mi_X9_makeEven d lm RT F pm_X9_makeEven (n + 1) 14 L st h = exI E d lm RT F (run E g mi_X9_makeEven d lm RT F pm_X9_makeEven n) (45, ((94 : Nat) : Int), ((2 : Nat) : Int), 17, []) L st h := run_s rfl
theorem r_X9_makeEven_17 : run E g mi_X9_makeEven d lm RT F pm_X9_makeEven (n + 1) 17 L st h = exI E d lm RT F (run E g mi_X9_makeEven d lm RT F pm_X9_makeEven n) (1, ((3 : Nat) : Int), 0, 18, []) L st h := run_s rfl
theorem r_X9_makeEven_18 : run E g mi_X9_makeEven d lm RT F pm_X9_makeEven (n + 1) 18 L st h = exI E d lm RT F (run E g mi_X9_makeEven d lm RT F pm_X9_makeEven n) (8, 0, 0, 19, []) L st h := run_s rfl
theorem r_X9_makeEven_19 : run E g mi_X9_makeEven d lm RT F pm_X9_makeEven (n + 1) 19 L st h = exI E d lm RT F (run E g mi_X9_makeEven d lm RT F pm_X9_makeEven n) (0, 0, 0, 20, []) L st h := run_s rfl
theorem r_X9_makeEven_20 : run E g mi_X9_makeEven d lm RT F pm_X9_makeEven (n + 1) 20 L st h = exI E d lm RT F (run E g mi_X9_makeEven d lm RT F pm_X9_makeEven n) (39, 0, 0, 21, []) L st h := run_s rfl
theorem r_X9_makeEven_21 : run E g mi_X9_makeEven d lm RT F pm_X9_makeEven (n + 1) 21 L st h = exI E d lm RT F (run E g mi_X9_makeEven d lm RT F pm_X9_makeEven n) (7, ((3 : Nat) : Int), 1, 24, []) L st h := run_s rfl
theorem r_X9_makeEven_24 : run E g mi_X9_makeEven d lm RT F pm_X9_makeEven (n + 1) 24 L st h = exI E d lm RT F (run E g mi_X9_makeEven d lm RT F pm_X9_makeEven n) (33, ((2 : Nat) : Int), 0, 0, []) L st h := run_s rfl
theorem r_X9_makeEven_27 : run E g mi_X9_makeEven d lm RT F pm_X9_makeEven (n + 1) 27 L st h = exI E d lm RT F (run E g mi_X9_makeEven d lm RT F pm_X9_makeEven n) (2, ((0 : Nat) : Int), 0, 28, []) L st h := run_s rfl
theorem r_X9_makeEven_28 : run E g mi_X9_makeEven d lm RT F pm_X9_makeEven (n + 1) 28 L st h = exI E d lm RT F (run E g mi_X9_makeEven d lm RT F pm_X9_makeEven n) (1, ((1 : Nat) : Int), 0, 29, []) L st h := run_s rfl
theorem r_X9_makeEven_29 : run E g mi_X9_makeEven d lm RT F pm_X9_makeEven (n + 1) 29 L st h = exI E d lm RT F (run E g mi_X9_makeEven d lm RT F pm_X9_makeEven n) (1, ((1 : Nat) : Int), 0, 30, []) L st h := run_s rfl
theorem r_X9_makeEven_30 : run E g mi_X9_makeEven d lm RT F pm_X9_makeEven (n + 1) 30 L st h = exI E d lm RT F (run E g mi_X9_makeEven d lm RT F pm_X9_makeEven n) (1, ((2 : Nat) : Int), 0, 31, []) L st h := run_s rfl
theorem r_X9_makeEven_31 : run E g mi_X9_makeEven d lm RT F pm_X9_makeEven (n + 1) 31 L st h = exI E d lm RT F (run E g mi_X9_makeEven d lm RT F pm_X9_makeEven n) (45, ((94 : Nat) : Int), ((2 : Nat) : Int), 34, []) L st h := run_s rfl
theorem r_X9_makeEven_34 : run E g mi_X9_makeEven d lm RT F pm_X9_makeEven (n + 1) 34 L st h = exI E d lm RT F (run E g mi_X9_makeEven d lm RT F pm_X9_makeEven n) (0, 1000, 0, 37, []) L st h := run_s rfl
theorem r_X9_makeEven_37 : run E g mi_X9_makeEven d lm RT F pm_X9_makeEven (n + 1) 37 L st h = exI E d lm RT F (run E g mi_X9_makeEven d lm RT F pm_X9_makeEven n) (0, (-9), 0, 39, []) L st h := run_s rfl
theorem r_X9_makeEven_39 : run E g mi_X9_makeEven d lm RT F pm_X9_makeEven (n + 1) 39 L st h = exI E d lm RT F (run E g mi_X9_makeEven d lm RT F pm_X9_makeEven n) (51, ((95 : Nat) : Int), ((5 : Nat) : Int), 42, [9]) L st h := run_s rfl
theorem r_X9_makeEven_42 : run E g mi_X9_makeEven d lm RT F pm_X9_makeEven (n + 1) 42 L st h = exI E d lm RT F (run E g mi_X9_makeEven d lm RT F pm_X9_makeEven n) (48, 4, 0, 0, []) L st h := run_s rfl
theorem e_X9_makeEven (n : Nat) {pc : Nat} (hF : FOk E d F) (hx : run E g mi_X9_makeEven d lm RT F pm_X9_makeEven n pc L st h) : G E g mi_X9_makeEven d lm RT pc L st h := run_sound hF pk_X9_makeEven n pc L st h hx
end
def mi_X9_forgets : MI := (9, cX9_forgets, 3, 4, false)
theorem mo_X9_forgets : miOk mi_X9_forgets (mt 97) = true := by decide +kernel
def tl_X9_forgets : List (Nat × PT) := [(0, (0, 0, 0, 1, [])),
  (1, (4, ((2 : Nat) : Int), 0, 2, [])),
  (2, (1, ((2 : Nat) : Int), 0, 3, [])),
  (3, (0, 8, 0, 5, [])),
  (5, (32, 3, ((32 : Nat) : Int), 8, [])),
  (8, (2, ((0 : Nat) : Int), 0, 9, [])),
  (9, (1, ((1 : Nat) : Int), 0, 10, [])),
  (10, (1, ((2 : Nat) : Int), 0, 11, [])),
  (11, (51, ((96 : Nat) : Int), ((3 : Nat) : Int), 14, [9])),
  (14, (2, ((0 : Nat) : Int), 0, 15, [])),
  (15, (35, ((9 : Nat) : Int), ((30 : Nat) : Int), 18, [])),
  (18, (0, 8, 0, 20, [])),
  (20, (1, ((1 : Nat) : Int), 0, 21, [])),
  (21, (10, 0, 0, 22, [])),
  (22, (1, ((2 : Nat) : Int), 0, 23, [])),
  (23, (8, 0, 0, 24, [])),
  (24, (0, 0, 0, 25, [])),
  (25, (39, 0, 0, 26, [])),
  (26, (7, ((2 : Nat) : Int), 1, 29, [])),
  (29, (33, ((2 : Nat) : Int), 0, 0, [])),
  (32, (48, 4, 0, 0, []))]
theorem tk_X9_forgets : tOk mi_X9_forgets tl_X9_forgets = true := by decide +kernel
def pm_X9_forgets (pc : Nat) : Option PT := if [2].contains pc then none else tl_X9_forgets.lookup pc
theorem pk_X9_forgets : ∀ pc pt, pm_X9_forgets pc = some pt → okPt mi_X9_forgets pc pt := fun pc pt h => tOk_pm tk_X9_forgets h
section
variable {E : ET} {g : GT} {d : Nat} {lm : Nat × Nat} {RT : RTy} {F : FT} {n : Nat} {L : LV} {st : List AV} {h : AH}
theorem r_X9_forgets_0 : run E g mi_X9_forgets d lm RT F pm_X9_forgets (n + 1) 0 L st h = exI E d lm RT F (run E g mi_X9_forgets d lm RT F pm_X9_forgets n) (0, 0, 0, 1, []) L st h := run_s rfl
theorem r_X9_forgets_1 : run E g mi_X9_forgets d lm RT F pm_X9_forgets (n + 1) 1 L st h = exI E d lm RT F (run E g mi_X9_forgets d lm RT F pm_X9_forgets n) (4, ((2 : Nat) : Int), 0, 2, []) L st h := run_s rfl
theorem r_X9_forgets_2 : run E g mi_X9_forgets d lm RT F pm_X9_forgets (n + 1) 2 L st h = G E g mi_X9_forgets d lm RT 2 L st h := run_c rfl
theorem q_X9_forgets_2 (n : Nat) (hF : FOk E d F) (hx : exI E d lm RT F (run E g mi_X9_forgets d lm RT F pm_X9_forgets n) (1, ((2 : Nat) : Int), 0, 3, []) L st h) : G E g mi_X9_forgets d lm RT 2 L st h := sstep hF (tOk_spec tk_X9_forgets (by decide +kernel)) (run_sound hF pk_X9_forgets n) hx
theorem r_X9_forgets_3 : run E g mi_X9_forgets d lm RT F pm_X9_forgets (n + 1) 3 L st h = exI E d lm RT F (run E g mi_X9_forgets d lm RT F pm_X9_forgets n) (0, 8, 0, 5, []) L st h := run_s rfl
theorem r_X9_forgets_5 : run E g mi_X9_forgets d lm RT F pm_X9_forgets (n + 1) 5 L st h = exI E d lm RT F (run E g mi_X9_forgets d lm RT F pm_X9_forgets n) (32, 3, ((32 : Nat) : Int), 8, []) L st h := run_s rfl
theorem r_X9_forgets_8 : run E g mi_X9_forgets d lm RT F pm_X9_forgets (n + 1) 8 L st h = exI E d lm RT F (run E g mi_X9_forgets d lm RT F pm_X9_forgets n) (2, ((0 : Nat) : Int), 0, 9, []) L st h := run_s rfl
theorem r_X9_forgets_9 : run E g mi_X9_forgets d lm RT F pm_X9_forgets (n + 1) 9 L st h = exI E d lm RT F (run E g mi_X9_forgets d lm RT F pm_X9_forgets n) (1, ((1 : Nat) : Int), 0, 10, []) L st h := run_s rfl
theorem r_X9_forgets_10 : run E g mi_X9_forgets d lm RT F pm_X9_forgets (n + 1) 10 L st h = exI E d lm RT F (run E g mi_X9_forgets d lm RT F pm_X9_forgets n) (1, ((2 : Nat) : Int), 0, 11, []) L st h := run_s rfl
theorem r_X9_forgets_11 : run E g mi_X9_forgets d lm RT F pm_X9_forgets (n + 1) 11 L st h = exI E d lm RT F (run E g mi_X9_forgets d lm RT F pm_X9_forgets n) (51, ((96 : Nat) : Int), ((3 : Nat) : Int), 14, [9]) L st h := run_s rfl
theorem r_X9_forgets_14 : run E g mi_X9_forgets d lm RT F pm_X9_forgets (n + 1) 14 L st h = exI E d lm RT F (run E g mi_X9_forgets d lm RT F pm_X9_forgets n) (2, ((0 : Nat) : Int), 0, 15, []) L st h := run_s rfl
theorem r_X9_forgets_15 : run E g mi_X9_forgets d lm RT F pm_X9_forgets (n + 1) 15 L st h = exI E d lm RT F (run E g mi_X9_forgets d lm RT F pm_X9_forgets n) (35, ((9 : Nat) : Int), ((30 : Nat) : Int), 18, []) L st h := run_s rfl
theorem r_X9_forgets_18 : run E g mi_X9_forgets d lm RT F pm_X9_forgets (n + 1) 18 L st h = exI E d lm RT F (run E g mi_X9_forgets d lm RT F pm_X9_forgets n) (0, 8, 0, 20, []) L st h := run_s rfl
theorem r_X9_forgets_20 : run E g mi_X9_forgets d lm RT F pm_X9_forgets (n + 1) 20 L st h = exI E d lm RT F (run E g mi_X9_forgets d lm RT F pm_X9_forgets n) (1, ((1 : Nat) : Int), 0, 21, []) L st h := run_s rfl
theorem r_X9_forgets_21 : run E g mi_X9_forgets d lm RT F pm_X9_forgets (n + 1) 21 L st h = exI E d lm RT F (run E g mi_X9_forgets d lm RT F pm_X9_forgets n) (10, 0, 0, 22, []) L st h := run_s rfl
theorem r_X9_forgets_22 : run E g mi_X9_forgets d lm RT F pm_X9_forgets (n + 1) 22 L st h = exI E d lm RT F (run E g mi_X9_forgets d lm RT F pm_X9_forgets n) (1, ((2 : Nat) : Int), 0, 23, []) L st h := run_s rfl
theorem r_X9_forgets_23 : run E g mi_X9_forgets d lm RT F pm_X9_forgets (n + 1) 23 L st h = exI E d lm RT F (run E g mi_X9_forgets d lm RT F pm_X9_forgets n) (8, 0, 0, 24, []) L st h := run_s rfl
theorem r_X9_forgets_24 : run E g mi_X9_forgets d lm RT F pm_X9_forgets (n + 1) 24 L st h = exI E d lm RT F (run E g mi_X9_forgets d lm RT F pm_X9_forgets n) (0, 0, 0, 25, []) L st h := run_s rfl
theorem r_X9_forgets_25 : run E g mi_X9_forgets d lm RT F pm_X9_forgets (n + 1) 25 L st h = exI E d lm RT F (run E g mi_X9_forgets d lm RT F pm_X9_forgets n) (39, 0, 0, 26, []) L st h := run_s rfl
theorem r_X9_forgets_26 : run E g mi_X9_forgets d lm RT F pm_X9_forgets (n + 1) 26 L st h = exI E d lm RT F (run E g mi_X9_forgets d lm RT F pm_X9_forgets n) (7, ((2 : Nat) : Int), 1, 29, []) L st h := run_s rfl
theorem r_X9_forgets_29 : run E g mi_X9_forgets d lm RT F pm_X9_forgets (n + 1) 29 L st h = exI E d lm RT F (run E g mi_X9_forgets d lm RT F pm_X9_forgets n) (33, ((2 : Nat) : Int), 0, 0, []) L st h := run_s rfl
theorem r_X9_forgets_32 : run E g mi_X9_forgets d lm RT F pm_X9_forgets (n + 1) 32 L st h = exI E d lm RT F (run E g mi_X9_forgets d lm RT F pm_X9_forgets n) (48, 4, 0, 0, []) L st h := run_s rfl
theorem e_X9_forgets (n : Nat) {pc : Nat} (hF : FOk E d F) (hx : run E g mi_X9_forgets d lm RT F pm_X9_forgets n pc L st h) : G E g mi_X9_forgets d lm RT pc L st h := run_sound hF pk_X9_forgets n pc L st h hx
end
def mi_X9_freeLink : MI := (9, cX9_freeLink, 2, 0, false)
theorem mo_X9_freeLink : miOk mi_X9_freeLink (mt 98) = true := by decide +kernel
def tl_X9_freeLink : List (Nat × PT) := [(0, (0, 0, 0, 1, [])),
  (1, (4, ((1 : Nat) : Int), 0, 2, [])),
  (2, (1, ((1 : Nat) : Int), 0, 3, [])),
  (3, (0, 16, 0, 5, [])),
  (5, (32, 3, ((25 : Nat) : Int), 8, [])),
  (8, (2, ((0 : Nat) : Int), 0, 9, [])),
  (9, (35, ((9 : Nat) : Int), ((0 : Nat) : Int), 12, [])),
  (12, (1, ((1 : Nat) : Int), 0, 13, [])),
  (13, (38, 1, 0, 14, [])),
  (14, (31, 1, ((19 : Nat) : Int), 17, [])),
  (17, (1, ((1 : Nat) : Int), 0, 18, [])),
  (18, (48, 0, 0, 0, [])),
  (19, (7, ((1 : Nat) : Int), 1, 22, [])),
  (22, (33, ((2 : Nat) : Int), 0, 0, [])),
  (25, (0, (-9), 0, 27, [])),
  (27, (48, 0, 0, 0, []))]
theorem tk_X9_freeLink : tOk mi_X9_freeLink tl_X9_freeLink = true := by decide +kernel
def pm_X9_freeLink (pc : Nat) : Option PT := if [2].contains pc then none else tl_X9_freeLink.lookup pc
theorem pk_X9_freeLink : ∀ pc pt, pm_X9_freeLink pc = some pt → okPt mi_X9_freeLink pc pt := fun pc pt h => tOk_pm tk_X9_freeLink h
section
variable {E : ET} {g : GT} {d : Nat} {lm : Nat × Nat} {RT : RTy} {F : FT} {n : Nat} {L : LV} {st : List AV} {h : AH}
theorem r_X9_freeLink_0 : run E g mi_X9_freeLink d lm RT F pm_X9_freeLink (n + 1) 0 L st h = exI E d lm RT F (run E g mi_X9_freeLink d lm RT F pm_X9_freeLink n) (0, 0, 0, 1, []) L st h := run_s rfl
theorem r_X9_freeLink_1 : run E g mi_X9_freeLink d lm RT F pm_X9_freeLink (n + 1) 1 L st h = exI E d lm RT F (run E g mi_X9_freeLink d lm RT F pm_X9_freeLink n) (4, ((1 : Nat) : Int), 0, 2, []) L st h := run_s rfl
theorem r_X9_freeLink_2 : run E g mi_X9_freeLink d lm RT F pm_X9_freeLink (n + 1) 2 L st h = G E g mi_X9_freeLink d lm RT 2 L st h := run_c rfl
theorem q_X9_freeLink_2 (n : Nat) (hF : FOk E d F) (hx : exI E d lm RT F (run E g mi_X9_freeLink d lm RT F pm_X9_freeLink n) (1, ((1 : Nat) : Int), 0, 3, []) L st h) : G E g mi_X9_freeLink d lm RT 2 L st h := sstep hF (tOk_spec tk_X9_freeLink (by decide +kernel)) (run_sound hF pk_X9_freeLink n) hx
theorem r_X9_freeLink_3 : run E g mi_X9_freeLink d lm RT F pm_X9_freeLink (n + 1) 3 L st h = exI E d lm RT F (run E g mi_X9_freeLink d lm RT F pm_X9_freeLink n) (0, 16, 0, 5, []) L st h := run_s rfl
theorem r_X9_freeLink_5 : run E g mi_X9_freeLink d lm RT F pm_X9_freeLink (n + 1) 5 L st h = exI E d lm RT F (run E g mi_X9_freeLink d lm RT F pm_X9_freeLink n) (32, 3, ((25 : Nat) : Int), 8, []) L st h := run_s rfl
theorem r_X9_freeLink_8 : run E g mi_X9_freeLink d lm RT F pm_X9_freeLink (n + 1) 8 L st h = exI E d lm RT F (run E g mi_X9_freeLink d lm RT F pm_X9_freeLink n) (2, ((0 : Nat) : Int), 0, 9, []) L st h := run_s rfl
theorem r_X9_freeLink_9 : run E g mi_X9_freeLink d lm RT F pm_X9_freeLink (n + 1) 9 L st h = exI E d lm RT F (run E g mi_X9_freeLink d lm RT F pm_X9_freeLink n) (35, ((9 : Nat) : Int), ((0 : Nat) : Int), 12, []) L st h := run_s rfl
theorem r_X9_freeLink_12 : run E g mi_X9_freeLink d lm RT F pm_X9_freeLink (n + 1) 12 L st h = exI E d lm RT F (run E g mi_X9_freeLink d lm RT F pm_X9_freeLink n) (1, ((1 : Nat) : Int), 0, 13, []) L st h := run_s rfl
theorem r_X9_freeLink_13 : run E g mi_X9_freeLink d lm RT F pm_X9_freeLink (n + 1) 13 L st h = exI E d lm RT F (run E g mi_X9_freeLink d lm RT F pm_X9_freeLink n) (38, 1, 0, 14, []) L st h := run_s rfl
theorem r_X9_freeLink_14 : run E g mi_X9_freeLink d lm RT F pm_X9_freeLink (n + 1) 14 L st h = exI E d lm RT F (run E g mi_X9_freeLink d lm RT F pm_X9_freeLink n) (31, 1, ((19 : Nat) : Int), 17, []) L st h := run_s rfl
theorem r_X9_freeLink_17 : run E g mi_X9_freeLink d lm RT F pm_X9_freeLink (n + 1) 17 L st h = exI E d lm RT F (run E g mi_X9_freeLink d lm RT F pm_X9_freeLink n) (1, ((1 : Nat) : Int), 0, 18, []) L st h := run_s rfl
theorem r_X9_freeLink_18 : run E g mi_X9_freeLink d lm RT F pm_X9_freeLink (n + 1) 18 L st h = exI E d lm RT F (run E g mi_X9_freeLink d lm RT F pm_X9_freeLink n) (48, 0, 0, 0, []) L st h := run_s rfl
theorem r_X9_freeLink_19 : run E g mi_X9_freeLink d lm RT F pm_X9_freeLink (n + 1) 19 L st h = exI E d lm RT F (run E g mi_X9_freeLink d lm RT F pm_X9_freeLink n) (7, ((1 : Nat) : Int), 1, 22, []) L st h := run_s rfl
theorem r_X9_freeLink_22 : run E g mi_X9_freeLink d lm RT F pm_X9_freeLink (n + 1) 22 L st h = exI E d lm RT F (run E g mi_X9_freeLink d lm RT F pm_X9_freeLink n) (33, ((2 : Nat) : Int), 0, 0, []) L st h := run_s rfl
theorem r_X9_freeLink_25 : run E g mi_X9_freeLink d lm RT F pm_X9_freeLink (n + 1) 25 L st h = exI E d lm RT F (run E g mi_X9_freeLink d lm RT F pm_X9_freeLink n) (0, (-9), 0, 27, []) L st h := run_s rfl
theorem r_X9_freeLink_27 : run E g mi_X9_freeLink d lm RT F pm_X9_freeLink (n + 1) 27 L st h = exI E d lm RT F (run E g mi_X9_freeLink d lm RT F pm_X9_freeLink n) (48, 0, 0, 0, []) L st h := run_s rfl
theorem e_X9_freeLink (n : Nat) {pc : Nat} (hF : FOk E d F) (hx : run E g mi_X9_freeLink d lm RT F pm_X9_freeLink n pc L st h) : G E g mi_X9_freeLink d lm RT pc L st h := run_sound hF pk_X9_freeLink n pc L st h hx
end
def mi_X9_link : MI := (9, cX9_link, 5, 0, false)
theorem mo_X9_link : miOk mi_X9_link (mt 99) = true := by decide +kernel
def tl_X9_link : List (Nat × PT) := [(0, (1, ((1 : Nat) : Int), 0, 1, [])),
  (1, (45, ((91 : Nat) : Int), ((1 : Nat) : Int), 4, [])),
  (4, (31, 0, ((14 : Nat) : Int), 7, [])),
  (7, (1, ((2 : Nat) : Int), 0, 8, [])),
  (8, (45, ((91 : Nat) : Int), ((1 : Nat) : Int), 11, [])),
  (11, (31, 1, ((16 : Nat) : Int), 14, [])),
  (14, (0, (-1), 0, 15, [])),
  (15, (48, 0, 0, 0, [])),
  (16, (1, ((3 : Nat) : Int), 0, 17, [])),
  (17, (0, 1, 0, 18, [])),
  (18, (0, 60, 0, 20, [])),
  (20, (45, ((90 : Nat) : Int), ((3 : Nat) : Int), 23, [])),
  (23, (31, 1, ((29 : Nat) : Int), 26, [])),
  (26, (0, (-2), 0, 28, [])),
  (28, (48, 0, 0, 0, [])),
  (29, (1, ((1 : Nat) : Int), 0, 30, [])),
  (30, (1, ((2 : Nat) : Int), 0, 31, [])),
  (31, (32, 0, ((43 : Nat) : Int), 34, [])),
  (34, (2, ((0 : Nat) : Int), 0, 35, [])),
  (35, (1, ((1 : Nat) : Int), 0, 36, [])),
  (36, (1, ((2 : Nat) : Int), 0, 37, [])),
  (37, (52, ((92 : Nat) : Int), ((3 : Nat) : Int), 40, [9])),
  (40, (31, 0, ((46 : Nat) : Int), 43, [])),
  (43, (0, (-3), 0, 45, [])),
  (45, (48, 0, 0, 0, [])),
  (46, (2, ((0 : Nat) : Int), 0, 47, [])),
  (47, (51, ((98 : Nat) : Int), ((1 : Nat) : Int), 50, [9])),
  (50, (4, ((4 : Nat) : Int), 0, 52, [])),
  (52, (1, ((4 : Nat) : Int), 0, 54, [])),
  (54, (0, (-9), 0, 56, [])),
  (56, (32, 1, ((62 : Nat) : Int), 59, [])),
  (59, (0, (-4), 0, 61, [])),
  (61, (48, 0, 0, 0, [])),
  (62, (2, ((0 : Nat) : Int), 0, 63, [])),
  (63, (35, ((9 : Nat) : Int), ((0 : Nat) : Int), 66, [])),
  (66, (1, ((4 : Nat) : Int), 0, 68, [])),
  (68, (0, 1, 0, 69, [])),
  (69, (39, 1, 0, 70, [])),
  (70, (2, ((0 : Nat) : Int), 0, 71, [])),
  (71, (35, ((9 : Nat) : Int), ((1 : Nat) : Int), 74, [])),
  (74, (1, ((4 : Nat) : Int), 0, 76, [])),
  (76, (1, ((1 : Nat) : Int), 0, 77, [])),
  (77, (1, ((2 : Nat) : Int), 0, 78, [])),
  (78, (32, 3, ((85 : Nat) : Int), 81, [])),
  (81, (1, ((1 : Nat) : Int), 0, 82, [])),
  (82, (33, ((86 : Nat) : Int), 0, 0, [])),
  (85, (1, ((2 : Nat) : Int), 0, 86, [])),
  (86, (39, 0, 0, 87, [])),
  (87, (2, ((0 : Nat) : Int), 0, 88, [])),
  (88, (35, ((9 : Nat) : Int), ((2 : Nat) : Int), 91, [])),
  (91, (1, ((4 : Nat) : Int), 0, 93, [])),
  (93, (1, ((1 : Nat) : Int), 0, 94, [])),
  (94, (1, ((2 : Nat) : Int), 0, 95, [])),
  (95, (32, 3, ((102 : Nat) : Int), 98, [])),
  (98, (1, ((2 : Nat) : Int), 0, 99, [])),
  (99, (33, ((103 : Nat) : Int), 0, 0, [])),
  (102, (1, ((1 : Nat) : Int), 0, 103, [])),
  (103, (39, 0, 0, 104, [])),
  (104, (2, ((0 : Nat) : Int), 0, 105, [])),
  (105, (35, ((9 : Nat) : Int), ((3 : Nat) : Int), 108, [])),
  (108, (1, ((4 : Nat) : Int), 0, 110, [])),
  (110, (1, ((3 : Nat) : Int), 0, 111, [])),
  (111, (39, 0, 0, 112, [])),
  (112, (2, ((0 : Nat) : Int), 0, 113, [])),
  (113, (35, ((9 : Nat) : Int), ((4 : Nat) : Int), 116, [])),
  (116, (0, 8, 0, 118, [])),
  (118, (1, ((1 : Nat) : Int), 0, 119, [])),
  (119, (10, 0, 0, 120, [])),
  (120, (1, ((2 : Nat) : Int), 0, 121, [])),
  (121, (8, 0, 0, 122, [])),
  (122, (1, ((4 : Nat) : Int), 0, 124, [])),
  (124, (39, 0, 0, 125, [])),
  (125, (2, ((0 : Nat) : Int), 0, 126, [])),
  (126, (35, ((9 : Nat) : Int), ((4 : Nat) : Int), 129, [])),
  (129, (0, 8, 0, 131, [])),
  (131, (1, ((2 : Nat) : Int), 0, 132, [])),
  (132, (10, 0, 0, 133, [])),
  (133, (1, ((1 : Nat) : Int), 0, 134, [])),
  (134, (8, 0, 0, 135, [])),
  (135, (1, ((4 : Nat) : Int), 0, 137, [])),
  (137, (39, 0, 0, 138, [])),
  (138, (2, ((0 : Nat) : Int), 0, 139, [])),
  (139, (1, ((1 : Nat) : Int), 0, 140, [])),
  (140, (51, ((97 : Nat) : Int), ((2 : Nat) : Int), 143, [9])),
  (143, (2, ((0 : Nat) : Int), 0, 144, [])),
  (144, (1, ((2 : Nat) : Int), 0, 145, [])),
  (145, (51, ((97 : Nat) : Int), ((2 : Nat) : Int), 148, [9])),
  (148, (1, ((4 : Nat) : Int), 0, 150, [])),
  (150, (48, 0, 0, 0, []))]
theorem tk_X9_link_0 : tOk mi_X9_link ((tl_X9_link.drop 0).take 45) = true := by decide +kernel
theorem tk_X9_link_1 : tOk mi_X9_link ((tl_X9_link.drop 45).take 45) = true := by decide +kernel
theorem tk_X9_link : tOk mi_X9_link tl_X9_link = true := by
  refine tOk_cut 45 (by decide) (fun q hq => ?_)
  have hl : tl_X9_link.length = 89 := by decide +kernel
  rw [hl] at hq
  rcases (show q = 0 ∨ q = 1 by omega) with rfl | rfl
  · exact tk_X9_link_0
  · exact tk_X9_link_1
def pm_X9_link (pc : Nat) : Option PT := if [].contains pc then none else tl_X9_link.lookup pc
theorem pk_X9_link : ∀ pc pt, pm_X9_link pc = some pt → okPt mi_X9_link pc pt := fun pc pt h => tOk_pm tk_X9_link h
section
variable {E : ET} {g : GT} {d : Nat} {lm : Nat × Nat} {RT : RTy} {F : FT} {n : Nat} {L : LV} {st : List AV} {h : AH}
theorem r_X9_link_0 : run E g mi_X9_link d lm RT F pm_X9_link (n + 1) 0 L st h = exI E d lm RT F (run E g mi_X9_link d lm RT F pm_X9_link n) (1, ((1 : Nat) : Int), 0, 1, []) L st h := run_s rfl
theorem r_X9_link_1 : run E g mi_X9_link d lm RT F pm_X9_link (n + 1) 1 L st h = exI E d lm RT F (run E g mi_X9_link d lm RT F pm_X9_link n) (45, ((91 : Nat) : Int), ((1 : Nat) : Int), 4, []) L st h := run_s rfl
theorem r_X9_link_4 : run E g mi_X9_link d lm RT F pm_X9_link (n + 1) 4 L st h = exI E d lm RT F (run E g mi_X9_link d lm RT F pm_X9_link n) (31, 0, ((14 : Nat) : Int), 7, []) L st h := run_s rfl
theorem r_X9_link_7 : run E g mi_X9_link d lm RT F pm_X9_link (n + 1) 7 L st h = exI E d lm RT F (run E g mi_X9_link d lm RT F pm_X9_link n) (1, ((2 : Nat) : Int), 0, 8, []) L st h := run_s rfl
theorem r_X9_link_8 : run E g mi_X9_link d lm RT F pm_X9_link (n + 1) 8 L st h = exI E d lm RT F (run E g mi_X9_link d lm RT F pm_X9_link n) (45, ((91 : Nat) : Int), ((1 : Nat) : Int), 11, []) L st h := run_s rfl
theorem r_X9_link_11 : run E g mi_X9_link d lm RT F pm_X9_link (n + 1) 11 L st h = exI E d lm RT F (run E g mi_X9_link d lm RT F pm_X9_link n) (31, 1, ((16 : Nat) : Int), 14, []) L st h := run_s rfl
theorem r_X9_link_14 : run E g mi_X9_link d lm RT F pm_X9_link (n + 1) 14 L st h = exI E d lm RT F (run E g mi_X9_link d lm RT F pm_X9_link n) (0, (-1), 0, 15, []) L st h := run_s rfl
theorem r_X9_link_15 : run E g mi_X9_link d lm RT F pm_X9_link (n + 1) 15 L st h = exI E d lm RT F (run E g mi_X9_link d lm RT F pm_X9_link n) (48, 0, 0, 0, []) L st h := run_s rfl
theorem r_X9_link_16 : run E g mi_X9_link d lm RT F pm_X9_link (n + 1) 16 L st h = exI E d lm RT F (run E g mi_X9_link d lm RT F pm_X9_link n) (1, ((3 : Nat) : Int), 0, 17, []) L st h := run_s rfl
theorem r_X9_link_17 : run E g mi_X9_link d lm RT F pm_X9_link (n + 1) 17 L st h = exI E d lm RT F (run E g mi_X9_link d lm RT F pm_X9_link n) (0, 1, 0, 18, []) L st h := run_s rfl
theorem r_X9_link_18 : run E g mi_X9_link d lm RT F pm_X9_link (n + 1) 18 L st h = exI E d lm RT F (run E g mi_X9_link d lm RT F pm_X9_link n) (0, 60, 0, 20, []) L st h := run_s rfl
theorem r_X9_link_20 : run E g mi_X9_link d lm RT F pm_X9_link (n + 1) 20 L st h = exI E d lm RT F (run E g mi_X9_link d lm RT F pm_X9_link n) (45, ((90 : Nat) : Int), ((3 : Nat) : Int), 23, []) L st h := run_s rfl
theorem r_X9_link_23 : run E g mi_X9_link d lm RT F pm_X9_link (n + 1) 23 L st h = exI E d lm RT F (run E g mi_X9_link d lm RT F pm_X9_link n) (31, 1, ((29 : Nat) : Int), 26, []) L st h := run_s rfl
theorem r_X9_link_26 : run E g mi_X9_link d lm RT F pm_X9_link (n + 1) 26 L st h = exI E d lm RT F (run E g mi_X9_link d lm RT F pm_X9_link n) (0, (-2), 0, 28, []) L st h := run_s rfl
theorem r_X9_link_28 : run E g mi_X9_link d lm RT F pm_X9_link (n + 1) 28 L st h = exI E d lm RT F (run E g mi_X9_link d lm RT F pm_X9_link n) (48, 0, 0, 0, []) L st h := run_s rfl
theorem r_X9_link_29 : run E g mi_X9_link d lm RT F pm_X9_link (n + 1) 29 L st h = exI E d lm RT F (run E g mi_X9_link d lm RT F pm_X9_link n) (1, ((1 : Nat) : Int), 0, 30, []) L st h := run_s rfl
theorem r_X9_link_30 : run E g mi_X9_link d lm RT F pm_X9_link (n + 1) 30 L st h = exI E d lm RT F (run E g mi_X9_link d lm RT F pm_X9_link n) (1, ((2 : Nat) : Int), 0, 31, []) L st h := run_s rfl
theorem r_X9_link_31 : run E g mi_X9_link d lm RT F pm_X9_link (n + 1) 31 L st h = exI E d lm RT F (run E g mi_X9_link d lm RT F pm_X9_link n) (32, 0, ((43 : Nat) : Int), 34, []) L st h := run_s rfl
theorem r_X9_link_34 : run E g mi_X9_link d lm RT F pm_X9_link (n + 1) 34 L st h = exI E d lm RT F (run E g mi_X9_link d lm RT F pm_X9_link n) (2, ((0 : Nat) : Int), 0, 35, []) L st h := run_s rfl
theorem r_X9_link_35 : run E g mi_X9_link d lm RT F pm_X9_link (n + 1) 35 L st h = exI E d lm RT F (run E g mi_X9_link d lm RT F pm_X9_link n) (1, ((1 : Nat) : Int), 0, 36, []) L st h := run_s rfl
theorem r_X9_link_36 : run E g mi_X9_link d lm RT F pm_X9_link (n + 1) 36 L st h = exI E d lm RT F (run E g mi_X9_link d lm RT F pm_X9_link n) (1, ((2 : Nat) : Int), 0, 37, []) L st h := run_s rfl
theorem r_X9_link_37 : run E g mi_X9_link d lm RT F pm_X9_link (n + 1) 37 L st h = exI E d lm RT F (run E g mi_X9_link d lm RT F pm_X9_link n) (52, ((92 : Nat) : Int), ((3 : Nat) : Int), 40, [9]) L st h := run_s rfl
theorem r_X9_link_40 : run E g mi_X9_link d lm RT F pm_X9_link (n + 1) 40 L st h = exI E d lm RT F (run E g mi_X9_link d lm RT F pm_X9_link n) (31, 0, ((46 : Nat) : Int), 43, []) L st h := run_s rfl
theorem r_X9_link_43 : run E g mi_X9_link d lm RT F pm_X9_link (n + 1) 43 L st h = exI E d lm RT F (run E g mi_X9_link d lm RT F pm_X9_link n) (0, (-3), 0, 45, []) L st h := run_s rfl
theorem r_X9_link_45 : run E g mi_X9_link d lm RT F pm_X9_link (n + 1) 45 L st h = exI E d lm RT F (run E g mi_X9_link d lm RT F pm_X9_link n) (48, 0, 0, 0, []) L st h := run_s rfl
theorem r_X9_link_46 : run E g mi_X9_link d lm RT F pm_X9_link (n + 1) 46 L st h = exI E d lm RT F (run E g mi_X9_link d lm RT F pm_X9_link n) (2, ((0 : Nat) : Int), 0, 47, []) L st h := run_s rfl
theorem r_X9_link_47 : run E g mi_X9_link d lm RT F pm_X9_link (n + 1) 47 L st h = exI E d lm RT F (run E g mi_X9_link d lm RT F pm_X9_link n) (51, ((98 : Nat) : Int), ((1 : Nat) : Int), 50, [9]) L st h := run_s rfl
theorem r_X9_link_50 : run E g mi_X9_link d lm RT F pm_X9_link (n + 1) 50 L st h = exI E d lm RT F (run E g mi_X9_link d lm RT F pm_X9_link n) (4, ((4 : Nat) : Int), 0, 52, []) L st h := run_s rfl
theorem r_X9_link_52 : run E g mi_X9_link d lm RT F pm_X9_link (n + 1) 52 L st h = exI E d lm RT F (run E g mi_X9_link d lm RT F pm_X9_link n) (1, ((4 : Nat) : Int), 0, 54, []) L st h := run_s rfl
theorem r_X9_link_54 : run E g mi_X9_link d lm RT F pm_X9_link (n + 1) 54 L st h = exI E d lm RT F (run E g mi_X9_link d lm RT F pm_X9_link n) (0, (-9), 0, 56, []) L st h := run_s rfl
theorem r_X9_link_56 : run E g mi_X9_link d lm RT F pm_X9_link (n + 1) 56 L st h = exI E d lm RT F (run E g mi_X9_link d lm RT F pm_X9_link n) (32, 1, ((62 : Nat) : Int), 59, []) L st h := run_s rfl
theorem r_X9_link_59 : run E g mi_X9_link d lm RT F pm_X9_link (n + 1) 59 L st h = exI E d lm RT F (run E g mi_X9_link d lm RT F pm_X9_link n) (0, (-4), 0, 61, []) L st h := run_s rfl
theorem r_X9_link_61 : run E g mi_X9_link d lm RT F pm_X9_link (n + 1) 61 L st h = exI E d lm RT F (run E g mi_X9_link d lm RT F pm_X9_link n) (48, 0, 0, 0, []) L st h := run_s rfl
theorem r_X9_link_62 : run E g mi_X9_link d lm RT F pm_X9_link (n + 1) 62 L st h = exI E d lm RT F (run E g mi_X9_link d lm RT F pm_X9_link n) (2, ((0 : Nat) : Int), 0, 63, []) L st h := run_s rfl
theorem r_X9_link_63 : run E g mi_X9_link d lm RT F pm_X9_link (n + 1) 63 L st h = exI E d lm RT F (run E g mi_X9_link d lm RT F pm_X9_link n) (35, ((9 : Nat) : Int), ((0 : Nat) : Int), 66, []) L st h := run_s rfl
theorem r_X9_link_66 : run E g mi_X9_link d lm RT F pm_X9_link (n + 1) 66 L st h = exI E d lm RT F (run E g mi_X9_link d lm RT F pm_X9_link n) (1, ((4 : Nat) : Int), 0, 68, []) L st h := run_s rfl
theorem r_X9_link_68 : run E g mi_X9_link d lm RT F pm_X9_link (n + 1) 68 L st h = exI E d lm RT F (run E g mi_X9_link d lm RT F pm_X9_link n) (0, 1, 0, 69, []) L st h := run_s rfl
theorem r_X9_link_69 : run E g mi_X9_link d lm RT F pm_X9_link (n + 1) 69 L st h = exI E d lm RT F (run E g mi_X9_link d lm RT F pm_X9_link n) (39, 1, 0, 70, []) L st h := run_s rfl
theorem r_X9_link_70 : run E g mi_X9_link d lm RT F pm_X9_link (n + 1) 70 L st h = exI E d lm RT F (run E g mi_X9_link d lm RT F pm_X9_link n) (2, ((0 : Nat) : Int), 0, 71, []) L st h := run_s rfl
theorem r_X9_link_71 : run E g mi_X9_link d lm RT F pm_X9_link (n + 1) 71 L st h = exI E d lm RT F (run E g mi_X9_link d lm RT F pm_X9_link n) (35, ((9 : Nat) : Int), ((1 : Nat) : Int), 74, []) L st h := run_s rfl
theorem r_X9_link_74 : run E g mi_X9_link d lm RT F pm_X9_link (n + 1) 74 L st h = exI E d lm RT F (run E g mi_X9_link d lm RT F pm_X9_link n) (1, ((4 : Nat) : Int), 0, 76, []) L st h := run_s rfl
theorem r_X9_link_76 : run E g mi_X9_link d lm RT F pm_X9_link (n + 1) 76 L st h = exI E d lm RT F (run E g mi_X9_link d lm RT F pm_X9_link n) (1, ((1 : Nat) : Int), 0, 77, []) L st h := run_s rfl
theorem r_X9_link_77 : run E g mi_X9_link d lm RT F pm_X9_link (n + 1) 77 L st h = exI E d lm RT F (run E g mi_X9_link d lm RT F pm_X9_link n) (1, ((2 : Nat) : Int), 0, 78, []) L st h := run_s rfl
theorem r_X9_link_78 : run E g mi_X9_link d lm RT F pm_X9_link (n + 1) 78 L st h = exI E d lm RT F (run E g mi_X9_link d lm RT F pm_X9_link n) (32, 3, ((85 : Nat) : Int), 81, []) L st h := run_s rfl
theorem r_X9_link_81 : run E g mi_X9_link d lm RT F pm_X9_link (n + 1) 81 L st h = exI E d lm RT F (run E g mi_X9_link d lm RT F pm_X9_link n) (1, ((1 : Nat) : Int), 0, 82, []) L st h := run_s rfl
theorem r_X9_link_82 : run E g mi_X9_link d lm RT F pm_X9_link (n + 1) 82 L st h = exI E d lm RT F (run E g mi_X9_link d lm RT F pm_X9_link n) (33, ((86 : Nat) : Int), 0, 0, []) L st h := run_s rfl
theorem r_X9_link_85 : run E g mi_X9_link d lm RT F pm_X9_link (n + 1) 85 L st h = exI E d lm RT F (run E g mi_X9_link d lm RT F pm_X9_link n) (1, ((2 : Nat) : Int), 0, 86, []) L st h := run_s rfl
theorem r_X9_link_86 : run E g mi_X9_link d lm RT F pm_X9_link (n + 1) 86 L st h = exI E d lm RT F (run E g mi_X9_link d lm RT F pm_X9_link n) (39, 0, 0, 87, []) L st h := run_s rfl
theorem r_X9_link_87 : run E g mi_X9_link d lm RT F pm_X9_link (n + 1) 87 L st h = exI E d lm RT F (run E g mi_X9_link d lm RT F pm_X9_link n) (2, ((0 : Nat) : Int), 0, 88, []) L st h := run_s rfl
theorem r_X9_link_88 : run E g mi_X9_link d lm RT F pm_X9_link (n + 1) 88 L st h = exI E d lm RT F (run E g mi_X9_link d lm RT F pm_X9_link n) (35, ((9 : Nat) : Int), ((2 : Nat) : Int), 91, []) L st h := run_s rfl
theorem r_X9_link_91 : run E g mi_X9_link d lm RT F pm_X9_link (n + 1) 91 L st h = exI E d lm RT F (run E g mi_X9_link d lm RT F pm_X9_link n) (1, ((4 : Nat) : Int), 0, 93, []) L st h := run_s rfl
theorem r_X9_link_93 : run E g mi_X9_link d lm RT F pm_X9_link (n + 1) 93 L st h = exI E d lm RT F (run E g mi_X9_link d lm RT F pm_X9_link n) (1, ((1 : Nat) : Int), 0, 94, []) L st h := run_s rfl
theorem r_X9_link_94 : run E g mi_X9_link d lm RT F pm_X9_link (n + 1) 94 L st h = exI E d lm RT F (run E g mi_X9_link d lm RT F pm_X9_link n) (1, ((2 : Nat) : Int), 0, 95, []) L st h := run_s rfl
theorem r_X9_link_95 : run E g mi_X9_link d lm RT F pm_X9_link (n + 1) 95 L st h = exI E d lm RT F (run E g mi_X9_link d lm RT F pm_X9_link n) (32, 3, ((102 : Nat) : Int), 98, []) L st h := run_s rfl
theorem r_X9_link_98 : run E g mi_X9_link d lm RT F pm_X9_link (n + 1) 98 L st h = exI E d lm RT F (run E g mi_X9_link d lm RT F pm_X9_link n) (1, ((2 : Nat) : Int), 0, 99, []) L st h := run_s rfl
theorem r_X9_link_99 : run E g mi_X9_link d lm RT F pm_X9_link (n + 1) 99 L st h = exI E d lm RT F (run E g mi_X9_link d lm RT F pm_X9_link n) (33, ((103 : Nat) : Int), 0, 0, []) L st h := run_s rfl
theorem r_X9_link_102 : run E g mi_X9_link d lm RT F pm_X9_link (n + 1) 102 L st h = exI E d lm RT F (run E g mi_X9_link d lm RT F pm_X9_link n) (1, ((1 : Nat) : Int), 0, 103, []) L st h := run_s rfl
theorem r_X9_link_103 : run E g mi_X9_link d lm RT F pm_X9_link (n + 1) 103 L st h = exI E d lm RT F (run E g mi_X9_link d lm RT F pm_X9_link n) (39, 0, 0, 104, []) L st h := run_s rfl
theorem r_X9_link_104 : run E g mi_X9_link d lm RT F pm_X9_link (n + 1) 104 L st h = exI E d lm RT F (run E g mi_X9_link d lm RT F pm_X9_link n) (2, ((0 : Nat) : Int), 0, 105, []) L st h := run_s rfl
theorem r_X9_link_105 : run E g mi_X9_link d lm RT F pm_X9_link (n + 1) 105 L st h = exI E d lm RT F (run E g mi_X9_link d lm RT F pm_X9_link n) (35, ((9 : Nat) : Int), ((3 : Nat) : Int), 108, []) L st h := run_s rfl
theorem r_X9_link_108 : run E g mi_X9_link d lm RT F pm_X9_link (n + 1) 108 L st h = exI E d lm RT F (run E g mi_X9_link d lm RT F pm_X9_link n) (1, ((4 : Nat) : Int), 0, 110, []) L st h := run_s rfl
theorem r_X9_link_110 : run E g mi_X9_link d lm RT F pm_X9_link (n + 1) 110 L st h = exI E d lm RT F (run E g mi_X9_link d lm RT F pm_X9_link n) (1, ((3 : Nat) : Int), 0, 111, []) L st h := run_s rfl
theorem r_X9_link_111 : run E g mi_X9_link d lm RT F pm_X9_link (n + 1) 111 L st h = exI E d lm RT F (run E g mi_X9_link d lm RT F pm_X9_link n) (39, 0, 0, 112, []) L st h := run_s rfl
theorem r_X9_link_112 : run E g mi_X9_link d lm RT F pm_X9_link (n + 1) 112 L st h = exI E d lm RT F (run E g mi_X9_link d lm RT F pm_X9_link n) (2, ((0 : Nat) : Int), 0, 113, []) L st h := run_s rfl
theorem r_X9_link_113 : run E g mi_X9_link d lm RT F pm_X9_link (n + 1) 113 L st h = exI E d lm RT F (run E g mi_X9_link d lm RT F pm_X9_link n) (35, ((9 : Nat) : Int), ((4 : Nat) : Int), 116, []) L st h := run_s rfl
theorem r_X9_link_116 : run E g mi_X9_link d lm RT F pm_X9_link (n + 1) 116 L st h = exI E d lm RT F (run E g mi_X9_link d lm RT F pm_X9_link n) (0, 8, 0, 118, []) L st h := run_s rfl
theorem r_X9_link_118 : run E g mi_X9_link d lm RT F pm_X9_link (n + 1) 118 L st h = exI E d lm RT F (run E g mi_X9_link d lm RT F pm_X9_link n) (1, ((1 : Nat) : Int), 0, 119, []) L st h := run_s rfl
theorem r_X9_link_119 : run E g mi_X9_link d lm RT F pm_X9_link (n + 1) 119 L st h = exI E d lm RT F (run E g mi_X9_link d lm RT F pm_X9_link n) (10, 0, 0, 120, []) L st h := run_s rfl
theorem r_X9_link_120 : run E g mi_X9_link d lm RT F pm_X9_link (n + 1) 120 L st h = exI E d lm RT F (run E g mi_X9_link d lm RT F pm_X9_link n) (1, ((2 : Nat) : Int), 0, 121, []) L st h := run_s rfl
theorem r_X9_link_121 : run E g mi_X9_link d lm RT F pm_X9_link (n + 1) 121 L st h = exI E d lm RT F (run E g mi_X9_link d lm RT F pm_X9_link n) (8, 0, 0, 122, []) L st h := run_s rfl
theorem r_X9_link_122 : run E g mi_X9_link d lm RT F pm_X9_link (n + 1) 122 L st h = exI E d lm RT F (run E g mi_X9_link d lm RT F pm_X9_link n) (1, ((4 : Nat) : Int), 0, 124, []) L st h := run_s rfl
theorem r_X9_link_124 : run E g mi_X9_link d lm RT F pm_X9_link (n + 1) 124 L st h = exI E d lm RT F (run E g mi_X9_link d lm RT F pm_X9_link n) (39, 0, 0, 125, []) L st h := run_s rfl
theorem r_X9_link_125 : run E g mi_X9_link d lm RT F pm_X9_link (n + 1) 125 L st h = exI E d lm RT F (run E g mi_X9_link d lm RT F pm_X9_link n) (2, ((0 : Nat) : Int), 0, 126, []) L st h := run_s rfl
theorem r_X9_link_126 : run E g mi_X9_link d lm RT F pm_X9_link (n + 1) 126 L st h = exI E d lm RT F (run E g mi_X9_link d lm RT F pm_X9_link n) (35, ((9 : Nat) : Int), ((4 : Nat) : Int), 129, []) L st h := run_s rfl
theorem r_X9_link_129 : run E g mi_X9_link d lm RT F pm_X9_link (n + 1) 129 L st h = exI E d lm RT F (run E g mi_X9_link d lm RT F pm_X9_link n) (0, 8, 0, 131, []) L st h := run_s rfl
theorem r_X9_link_131 : run E g mi_X9_link d lm RT F pm_X9_link (n + 1) 131 L st h = exI E d lm RT F (run E g mi_X9_link d lm RT F pm_X9_link n) (1, ((2 : Nat) : Int), 0, 132, []) L st h := run_s rfl
theorem r_X9_link_132 : run E g mi_X9_link d lm RT F pm_X9_link (n + 1) 132 L st h = exI E d lm RT F (run E g mi_X9_link d lm RT F pm_X9_link n) (10, 0, 0, 133, []) L st h := run_s rfl
theorem r_X9_link_133 : run E g mi_X9_link d lm RT F pm_X9_link (n + 1) 133 L st h = exI E d lm RT F (run E g mi_X9_link d lm RT F pm_X9_link n) (1, ((1 : Nat) : Int), 0, 134, []) L st h := run_s rfl
theorem r_X9_link_134 : run E g mi_X9_link d lm RT F pm_X9_link (n + 1) 134 L st h = exI E d lm RT F (run E g mi_X9_link d lm RT F pm_X9_link n) (8, 0, 0, 135, []) L st h := run_s rfl
theorem r_X9_link_135 : run E g mi_X9_link d lm RT F pm_X9_link (n + 1) 135 L st h = exI E d lm RT F (run E g mi_X9_link d lm RT F pm_X9_link n) (1, ((4 : Nat) : Int), 0, 137, []) L st h := run_s rfl
theorem r_X9_link_137 : run E g mi_X9_link d lm RT F pm_X9_link (n + 1) 137 L st h = exI E d lm RT F (run E g mi_X9_link d lm RT F pm_X9_link n) (39, 0, 0, 138, []) L st h := run_s rfl
theorem r_X9_link_138 : run E g mi_X9_link d lm RT F pm_X9_link (n + 1) 138 L st h = exI E d lm RT F (run E g mi_X9_link d lm RT F pm_X9_link n) (2, ((0 : Nat) : Int), 0, 139, []) L st h := run_s rfl
theorem r_X9_link_139 : run E g mi_X9_link d lm RT F pm_X9_link (n + 1) 139 L st h = exI E d lm RT F (run E g mi_X9_link d lm RT F pm_X9_link n) (1, ((1 : Nat) : Int), 0, 140, []) L st h := run_s rfl
theorem r_X9_link_140 : run E g mi_X9_link d lm RT F pm_X9_link (n + 1) 140 L st h = exI E d lm RT F (run E g mi_X9_link d lm RT F pm_X9_link n) (51, ((97 : Nat) : Int), ((2 : Nat) : Int), 143, [9]) L st h := run_s rfl
theorem r_X9_link_143 : run E g mi_X9_link d lm RT F pm_X9_link (n + 1) 143 L st h = exI E d lm RT F (run E g mi_X9_link d lm RT F pm_X9_link n) (2, ((0 : Nat) : Int), 0, 144, []) L st h := run_s rfl
theorem r_X9_link_144 : run E g mi_X9_link d lm RT F pm_X9_link (n + 1) 144 L st h = exI E d lm RT F (run E g mi_X9_link d lm RT F pm_X9_link n) (1, ((2 : Nat) : Int), 0, 145, []) L st h := run_s rfl
theorem r_X9_link_145 : run E g mi_X9_link d lm RT F pm_X9_link (n + 1) 145 L st h = exI E d lm RT F (run E g mi_X9_link d lm RT F pm_X9_link n) (51, ((97 : Nat) : Int), ((2 : Nat) : Int), 148, [9]) L st h := run_s rfl
theorem r_X9_link_148 : run E g mi_X9_link d lm RT F pm_X9_link (n + 1) 148 L st h = exI E d lm RT F (run E g mi_X9_link d lm RT F pm_X9_link n) (1, ((4 : Nat) : Int), 0, 150, []) L st h := run_s rfl
theorem r_X9_link_150 : run E g mi_X9_link d lm RT F pm_X9_link (n + 1) 150 L st h = exI E d lm RT F (run E g mi_X9_link d lm RT F pm_X9_link n) (48, 0, 0, 0, []) L st h := run_s rfl
theorem e_X9_link (n : Nat) {pc : Nat} (hF : FOk E d F) (hx : run E g mi_X9_link d lm RT F pm_X9_link n pc L st h) : G E g mi_X9_link d lm RT pc L st h := run_sound hF pk_X9_link n pc L st h hx
end
def mi_X9_cut : MI := (9, cX9_cut, 4, 0, false)
theorem mo_X9_cut : miOk mi_X9_cut (mt 101) = true := by decide +kernel
def tl_X9_cut : List (Nat × PT) := [(0, (2, ((0 : Nat) : Int), 0, 1, [])),
  (1, (1, ((1 : Nat) : Int), 0, 2, [])),
  (2, (52, ((100 : Nat) : Int), ((2 : Nat) : Int), 5, [9])),
  (5, (31, 1, ((10 : Nat) : Int), 8, [])),
  (8, (0, (-1), 0, 9, [])),
  (9, (48, 0, 0, 0, [])),
  (10, (0, 0, 0, 11, [])),
  (11, (4, ((2 : Nat) : Int), 0, 12, [])),
  (12, (0, 0, 0, 13, [])),
  (13, (4, ((3 : Nat) : Int), 0, 14, [])),
  (14, (1, ((3 : Nat) : Int), 0, 15, [])),
  (15, (0, 12, 0, 17, [])),
  (17, (32, 3, ((53 : Nat) : Int), 20, [])),
  (20, (2, ((0 : Nat) : Int), 0, 21, [])),
  (21, (35, ((9 : Nat) : Int), ((17 : Nat) : Int), 24, [])),
  (24, (1, ((3 : Nat) : Int), 0, 25, [])),
  (25, (38, 1, 0, 26, [])),
  (26, (31, 0, ((47 : Nat) : Int), 29, [])),
  (29, (2, ((0 : Nat) : Int), 0, 30, [])),
  (30, (35, ((9 : Nat) : Int), ((22 : Nat) : Int), 33, [])),
  (33, (1, ((3 : Nat) : Int), 0, 34, [])),
  (34, (38, 0, 0, 35, [])),
  (35, (1, ((1 : Nat) : Int), 0, 36, [])),
  (36, (32, 1, ((47 : Nat) : Int), 39, [])),
  (39, (2, ((0 : Nat) : Int), 0, 40, [])),
  (40, (1, ((3 : Nat) : Int), 0, 41, [])),
  (41, (51, ((120 : Nat) : Int), ((2 : Nat) : Int), 44, [9])),
  (44, (7, ((2 : Nat) : Int), 1, 47, [])),
  (47, (7, ((3 : Nat) : Int), 1, 50, [])),
  (50, (33, ((14 : Nat) : Int), 0, 0, [])),
  (53, (2, ((0 : Nat) : Int), 0, 54, [])),
  (54, (35, ((9 : Nat) : Int), ((0 : Nat) : Int), 57, [])),
  (57, (1, ((1 : Nat) : Int), 0, 58, [])),
  (58, (0, 0, 0, 59, [])),
  (59, (39, 1, 0, 60, [])),
  (60, (2, ((0 : Nat) : Int), 0, 61, [])),
  (61, (35, ((9 : Nat) : Int), ((4 : Nat) : Int), 64, [])),
  (64, (0, 8, 0, 66, [])),
  (66, (2, ((0 : Nat) : Int), 0, 67, [])),
  (67, (35, ((9 : Nat) : Int), ((1 : Nat) : Int), 70, [])),
  (70, (1, ((1 : Nat) : Int), 0, 71, [])),
  (71, (38, 0, 0, 72, [])),
  (72, (10, 0, 0, 73, [])),
  (73, (2, ((0 : Nat) : Int), 0, 74, [])),
  (74, (35, ((9 : Nat) : Int), ((2 : Nat) : Int), 77, [])),
  (77, (1, ((1 : Nat) : Int), 0, 78, [])),
  (78, (38, 0, 0, 79, [])),
  (79, (8, 0, 0, 80, [])),
  (80, (0, (-9), 0, 82, [])),
  (82, (39, 0, 0, 83, [])),
  (83, (2, ((0 : Nat) : Int), 0, 84, [])),
  (84, (35, ((9 : Nat) : Int), ((4 : Nat) : Int), 87, [])),
  (87, (0, 8, 0, 89, [])),
  (89, (2, ((0 : Nat) : Int), 0, 90, [])),
  (90, (35, ((9 : Nat) : Int), ((2 : Nat) : Int), 93, [])),
  (93, (1, ((1 : Nat) : Int), 0, 94, [])),
  (94, (38, 0, 0, 95, [])),
  (95, (10, 0, 0, 96, [])),
  (96, (2, ((0 : Nat) : Int), 0, 97, [])),
  (97, (35, ((9 : Nat) : Int), ((1 : Nat) : Int), 100, [])),
  (100, (1, ((1 : Nat) : Int), 0, 101, [])),
  (101, (38, 0, 0, 102, [])),
  (102, (8, 0, 0, 103, [])),
  (103, (0, (-9), 0, 105, [])),
  (105, (39, 0, 0, 106, [])),
  (106, (2, ((0 : Nat) : Int), 0, 107, [])),
  (107, (2, ((0 : Nat) : Int), 0, 108, [])),
  (108, (35, ((9 : Nat) : Int), ((1 : Nat) : Int), 111, [])),
  (111, (1, ((1 : Nat) : Int), 0, 112, [])),
  (112, (38, 0, 0, 113, [])),
  (113, (51, ((97 : Nat) : Int), ((2 : Nat) : Int), 116, [9])),
  (116, (2, ((0 : Nat) : Int), 0, 117, [])),
  (117, (2, ((0 : Nat) : Int), 0, 118, [])),
  (118, (35, ((9 : Nat) : Int), ((2 : Nat) : Int), 121, [])),
  (121, (1, ((1 : Nat) : Int), 0, 122, [])),
  (122, (38, 0, 0, 123, [])),
  (123, (51, ((97 : Nat) : Int), ((2 : Nat) : Int), 126, [9])),
  (126, (1, ((2 : Nat) : Int), 0, 127, [])),
  (127, (48, 0, 0, 0, []))]
theorem tk_X9_cut_0 : tOk mi_X9_cut ((tl_X9_cut.drop 0).take 45) = true := by decide +kernel
theorem tk_X9_cut_1 : tOk mi_X9_cut ((tl_X9_cut.drop 45).take 45) = true := by decide +kernel
theorem tk_X9_cut : tOk mi_X9_cut tl_X9_cut = true := by
  refine tOk_cut 45 (by decide) (fun q hq => ?_)
  have hl : tl_X9_cut.length = 79 := by decide +kernel
  rw [hl] at hq
  rcases (show q = 0 ∨ q = 1 by omega) with rfl | rfl
  · exact tk_X9_cut_0
  · exact tk_X9_cut_1
def pm_X9_cut (pc : Nat) : Option PT := if [14].contains pc then none else tl_X9_cut.lookup pc
theorem pk_X9_cut : ∀ pc pt, pm_X9_cut pc = some pt → okPt mi_X9_cut pc pt := fun pc pt h => tOk_pm tk_X9_cut h
section
variable {E : ET} {g : GT} {d : Nat} {lm : Nat × Nat} {RT : RTy} {F : FT} {n : Nat} {L : LV} {st : List AV} {h : AH}
theorem r_X9_cut_0 : run E g mi_X9_cut d lm RT F pm_X9_cut (n + 1) 0 L st h = exI E d lm RT F (run E g mi_X9_cut d lm RT F pm_X9_cut n) (2, ((0 : Nat) : Int), 0, 1, []) L st h := run_s rfl
theorem r_X9_cut_1 : run E g mi_X9_cut d lm RT F pm_X9_cut (n + 1) 1 L st h = exI E d lm RT F (run E g mi_X9_cut d lm RT F pm_X9_cut n) (1, ((1 : Nat) : Int), 0, 2, []) L st h := run_s rfl
theorem r_X9_cut_2 : run E g mi_X9_cut d lm RT F pm_X9_cut (n + 1) 2 L st h = exI E d lm RT F (run E g mi_X9_cut d lm RT F pm_X9_cut n) (52, ((100 : Nat) : Int), ((2 : Nat) : Int), 5, [9]) L st h := run_s rfl
theorem r_X9_cut_5 : run E g mi_X9_cut d lm RT F pm_X9_cut (n + 1) 5 L st h = exI E d lm RT F (run E g mi_X9_cut d lm RT F pm_X9_cut n) (31, 1, ((10 : Nat) : Int), 8, []) L st h := run_s rfl
theorem r_X9_cut_8 : run E g mi_X9_cut d lm RT F pm_X9_cut (n + 1) 8 L st h = exI E d lm RT F (run E g mi_X9_cut d lm RT F pm_X9_cut n) (0, (-1), 0, 9, []) L st h := run_s rfl
theorem r_X9_cut_9 : run E g mi_X9_cut d lm RT F pm_X9_cut (n + 1) 9 L st h = exI E d lm RT F (run E g mi_X9_cut d lm RT F pm_X9_cut n) (48, 0, 0, 0, []) L st h := run_s rfl
theorem r_X9_cut_10 : run E g mi_X9_cut d lm RT F pm_X9_cut (n + 1) 10 L st h = exI E d lm RT F (run E g mi_X9_cut d lm RT F pm_X9_cut n) (0, 0, 0, 11, []) L st h := run_s rfl
theorem r_X9_cut_11 : run E g mi_X9_cut d lm RT F pm_X9_cut (n + 1) 11 L st h = exI E d lm RT F (run E g mi_X9_cut d lm RT F pm_X9_cut n) (4, ((2 : Nat) : Int), 0, 12, []) L st h := run_s rfl
theorem r_X9_cut_12 : run E g mi_X9_cut d lm RT F pm_X9_cut (n + 1) 12 L st h = exI E d lm RT F (run E g mi_X9_cut d lm RT F pm_X9_cut n) (0, 0, 0, 13, []) L st h := run_s rfl
theorem r_X9_cut_13 : run E g mi_X9_cut d lm RT F pm_X9_cut (n + 1) 13 L st h = exI E d lm RT F (run E g mi_X9_cut d lm RT F pm_X9_cut n) (4, ((3 : Nat) : Int), 0, 14, []) L st h := run_s rfl
theorem r_X9_cut_14 : run E g mi_X9_cut d lm RT F pm_X9_cut (n + 1) 14 L st h = G E g mi_X9_cut d lm RT 14 L st h := run_c rfl
theorem q_X9_cut_14 (n : Nat) (hF : FOk E d F) (hx : exI E d lm RT F (run E g mi_X9_cut d lm RT F pm_X9_cut n) (1, ((3 : Nat) : Int), 0, 15, []) L st h) : G E g mi_X9_cut d lm RT 14 L st h := sstep hF (tOk_spec tk_X9_cut (by decide +kernel)) (run_sound hF pk_X9_cut n) hx
theorem r_X9_cut_15 : run E g mi_X9_cut d lm RT F pm_X9_cut (n + 1) 15 L st h = exI E d lm RT F (run E g mi_X9_cut d lm RT F pm_X9_cut n) (0, 12, 0, 17, []) L st h := run_s rfl
theorem r_X9_cut_17 : run E g mi_X9_cut d lm RT F pm_X9_cut (n + 1) 17 L st h = exI E d lm RT F (run E g mi_X9_cut d lm RT F pm_X9_cut n) (32, 3, ((53 : Nat) : Int), 20, []) L st h := run_s rfl
theorem r_X9_cut_20 : run E g mi_X9_cut d lm RT F pm_X9_cut (n + 1) 20 L st h = exI E d lm RT F (run E g mi_X9_cut d lm RT F pm_X9_cut n) (2, ((0 : Nat) : Int), 0, 21, []) L st h := run_s rfl
theorem r_X9_cut_21 : run E g mi_X9_cut d lm RT F pm_X9_cut (n + 1) 21 L st h = exI E d lm RT F (run E g mi_X9_cut d lm RT F pm_X9_cut n) (35, ((9 : Nat) : Int), ((17 : Nat) : Int), 24, []) L st h := run_s rfl
theorem r_X9_cut_24 : run E g mi_X9_cut d lm RT F pm_X9_cut (n + 1) 24 L st h = exI E d lm RT F (run E g mi_X9_cut d lm RT F pm_X9_cut n) (1, ((3 : Nat) : Int), 0, 25, []) L st h := run_s rfl
theorem r_X9_cut_25 : run E g mi_X9_cut d lm RT F pm_X9_cut (n + 1) 25 L st h = exI E d lm RT F (run E g mi_X9_cut d lm RT F pm_X9_cut n) (38, 1, 0, 26, []) L st h := run_s rfl
theorem r_X9_cut_26 : run E g mi_X9_cut d lm RT F pm_X9_cut (n + 1) 26 L st h = exI E d lm RT F (run E g mi_X9_cut d lm RT F pm_X9_cut n) (31, 0, ((47 : Nat) : Int), 29, []) L st h := run_s rfl
theorem r_X9_cut_29 : run E g mi_X9_cut d lm RT F pm_X9_cut (n + 1) 29 L st h = exI E d lm RT F (run E g mi_X9_cut d lm RT F pm_X9_cut n) (2, ((0 : Nat) : Int), 0, 30, []) L st h := run_s rfl
theorem r_X9_cut_30 : run E g mi_X9_cut d lm RT F pm_X9_cut (n + 1) 30 L st h = exI E d lm RT F (run E g mi_X9_cut d lm RT F pm_X9_cut n) (35, ((9 : Nat) : Int), ((22 : Nat) : Int), 33, []) L st h := run_s rfl
theorem r_X9_cut_33 : run E g mi_X9_cut d lm RT F pm_X9_cut (n + 1) 33 L st h = exI E d lm RT F (run E g mi_X9_cut d lm RT F pm_X9_cut n) (1, ((3 : Nat) : Int), 0, 34, []) L st h := run_s rfl
theorem r_X9_cut_34 : run E g mi_X9_cut d lm RT F pm_X9_cut (n + 1) 34 L st h = exI E d lm RT F (run E g mi_X9_cut d lm RT F pm_X9_cut n) (38, 0, 0, 35, []) L st h := run_s rfl
theorem r_X9_cut_35 : run E g mi_X9_cut d lm RT F pm_X9_cut (n + 1) 35 L st h = exI E d lm RT F (run E g mi_X9_cut d lm RT F pm_X9_cut n) (1, ((1 : Nat) : Int), 0, 36, []) L st h := run_s rfl
theorem r_X9_cut_36 : run E g mi_X9_cut d lm RT F pm_X9_cut (n + 1) 36 L st h = exI E d lm RT F (run E g mi_X9_cut d lm RT F pm_X9_cut n) (32, 1, ((47 : Nat) : Int), 39, []) L st h := run_s rfl
theorem r_X9_cut_39 : run E g mi_X9_cut d lm RT F pm_X9_cut (n + 1) 39 L st h = exI E d lm RT F (run E g mi_X9_cut d lm RT F pm_X9_cut n) (2, ((0 : Nat) : Int), 0, 40, []) L st h := run_s rfl
theorem r_X9_cut_40 : run E g mi_X9_cut d lm RT F pm_X9_cut (n + 1) 40 L st h = exI E d lm RT F (run E g mi_X9_cut d lm RT F pm_X9_cut n) (1, ((3 : Nat) : Int), 0, 41, []) L st h := run_s rfl
theorem r_X9_cut_41 : run E g mi_X9_cut d lm RT F pm_X9_cut (n + 1) 41 L st h = exI E d lm RT F (run E g mi_X9_cut d lm RT F pm_X9_cut n) (51, ((120 : Nat) : Int), ((2 : Nat) : Int), 44, [9]) L st h := run_s rfl
theorem r_X9_cut_44 : run E g mi_X9_cut d lm RT F pm_X9_cut (n + 1) 44 L st h = exI E d lm RT F (run E g mi_X9_cut d lm RT F pm_X9_cut n) (7, ((2 : Nat) : Int), 1, 47, []) L st h := run_s rfl
theorem r_X9_cut_47 : run E g mi_X9_cut d lm RT F pm_X9_cut (n + 1) 47 L st h = exI E d lm RT F (run E g mi_X9_cut d lm RT F pm_X9_cut n) (7, ((3 : Nat) : Int), 1, 50, []) L st h := run_s rfl
theorem r_X9_cut_50 : run E g mi_X9_cut d lm RT F pm_X9_cut (n + 1) 50 L st h = exI E d lm RT F (run E g mi_X9_cut d lm RT F pm_X9_cut n) (33, ((14 : Nat) : Int), 0, 0, []) L st h := run_s rfl
theorem r_X9_cut_53 : run E g mi_X9_cut d lm RT F pm_X9_cut (n + 1) 53 L st h = exI E d lm RT F (run E g mi_X9_cut d lm RT F pm_X9_cut n) (2, ((0 : Nat) : Int), 0, 54, []) L st h := run_s rfl
theorem r_X9_cut_54 : run E g mi_X9_cut d lm RT F pm_X9_cut (n + 1) 54 L st h = exI E d lm RT F (run E g mi_X9_cut d lm RT F pm_X9_cut n) (35, ((9 : Nat) : Int), ((0 : Nat) : Int), 57, []) L st h := run_s rfl
theorem r_X9_cut_57 : run E g mi_X9_cut d lm RT F pm_X9_cut (n + 1) 57 L st h = exI E d lm RT F (run E g mi_X9_cut d lm RT F pm_X9_cut n) (1, ((1 : Nat) : Int), 0, 58, []) L st h := run_s rfl
theorem r_X9_cut_58 : run E g mi_X9_cut d lm RT F pm_X9_cut (n + 1) 58 L st h = exI E d lm RT F (run E g mi_X9_cut d lm RT F pm_X9_cut n) (0, 0, 0, 59, []) L st h := run_s rfl
theorem r_X9_cut_59 : run E g mi_X9_cut d lm RT F pm_X9_cut (n + 1) 59 L st h = exI E d lm RT F (run E g mi_X9_cut d lm RT F pm_X9_cut n) (39, 1, 0, 60, []) L st h := run_s rfl
theorem r_X9_cut_60 : run E g mi_X9_cut d lm RT F pm_X9_cut (n + 1) 60 L st h = exI E d lm RT F (run E g mi_X9_cut d lm RT F pm_X9_cut n) (2, ((0 : Nat) : Int), 0, 61, []) L st h := run_s rfl
theorem r_X9_cut_61 : run E g mi_X9_cut d lm RT F pm_X9_cut (n + 1) 61 L st h = exI E d lm RT F (run E g mi_X9_cut d lm RT F pm_X9_cut n) (35, ((9 : Nat) : Int), ((4 : Nat) : Int), 64, []) L st h := run_s rfl
theorem r_X9_cut_64 : run E g mi_X9_cut d lm RT F pm_X9_cut (n + 1) 64 L st h = exI E d lm RT F (run E g mi_X9_cut d lm RT F pm_X9_cut n) (0, 8, 0, 66, []) L st h := run_s rfl
theorem r_X9_cut_66 : run E g mi_X9_cut d lm RT F pm_X9_cut (n + 1) 66 L st h = exI E d lm RT F (run E g mi_X9_cut d lm RT F pm_X9_cut n) (2, ((0 : Nat) : Int), 0, 67, []) L st h := run_s rfl
theorem r_X9_cut_67 : run E g mi_X9_cut d lm RT F pm_X9_cut (n + 1) 67 L st h = exI E d lm RT F (run E g mi_X9_cut d lm RT F pm_X9_cut n) (35, ((9 : Nat) : Int), ((1 : Nat) : Int), 70, []) L st h := run_s rfl
theorem r_X9_cut_70 : run E g mi_X9_cut d lm RT F pm_X9_cut (n + 1) 70 L st h = exI E d lm RT F (run E g mi_X9_cut d lm RT F pm_X9_cut n) (1, ((1 : Nat) : Int), 0, 71, []) L st h := run_s rfl
theorem r_X9_cut_71 : run E g mi_X9_cut d lm RT F pm_X9_cut (n + 1) 71 L st h = exI E d lm RT F (run E g mi_X9_cut d lm RT F pm_X9_cut n) (38, 0, 0, 72, []) L st h := run_s rfl
theorem r_X9_cut_72 : run E g mi_X9_cut d lm RT F pm_X9_cut (n + 1) 72 L st h = exI E d lm RT F (run E g mi_X9_cut d lm RT F pm_X9_cut n) (10, 0, 0, 73, []) L st h := run_s rfl
theorem r_X9_cut_73 : run E g mi_X9_cut d lm RT F pm_X9_cut (n + 1) 73 L st h = exI E d lm RT F (run E g mi_X9_cut d lm RT F pm_X9_cut n) (2, ((0 : Nat) : Int), 0, 74, []) L st h := run_s rfl
theorem r_X9_cut_74 : run E g mi_X9_cut d lm RT F pm_X9_cut (n + 1) 74 L st h = exI E d lm RT F (run E g mi_X9_cut d lm RT F pm_X9_cut n) (35, ((9 : Nat) : Int), ((2 : Nat) : Int), 77, []) L st h := run_s rfl
theorem r_X9_cut_77 : run E g mi_X9_cut d lm RT F pm_X9_cut (n + 1) 77 L st h = exI E d lm RT F (run E g mi_X9_cut d lm RT F pm_X9_cut n) (1, ((1 : Nat) : Int), 0, 78, []) L st h := run_s rfl
theorem r_X9_cut_78 : run E g mi_X9_cut d lm RT F pm_X9_cut (n + 1) 78 L st h = exI E d lm RT F (run E g mi_X9_cut d lm RT F pm_X9_cut n) (38, 0, 0, 79, []) L st h := run_s rfl
theorem r_X9_cut_79 : run E g mi_X9_cut d lm RT F pm_X9_cut (n + 1) 79 L st h = exI E d lm RT F (run E g mi_X9_cut d lm RT F pm_X9_cut n) (8, 0, 0, 80, []) L st h := run_s rfl
theorem r_X9_cut_80 : run E g mi_X9_cut d lm RT F pm_X9_cut (n + 1) 80 L st h = exI E d lm RT F (run E g mi_X9_cut d lm RT F pm_X9_cut n) (0, (-9), 0, 82, []) L st h := run_s rfl
theorem r_X9_cut_82 : run E g mi_X9_cut d lm RT F pm_X9_cut (n + 1) 82 L st h = exI E d lm RT F (run E g mi_X9_cut d lm RT F pm_X9_cut n) (39, 0, 0, 83, []) L st h := run_s rfl
theorem r_X9_cut_83 : run E g mi_X9_cut d lm RT F pm_X9_cut (n + 1) 83 L st h = exI E d lm RT F (run E g mi_X9_cut d lm RT F pm_X9_cut n) (2, ((0 : Nat) : Int), 0, 84, []) L st h := run_s rfl
theorem r_X9_cut_84 : run E g mi_X9_cut d lm RT F pm_X9_cut (n + 1) 84 L st h = exI E d lm RT F (run E g mi_X9_cut d lm RT F pm_X9_cut n) (35, ((9 : Nat) : Int), ((4 : Nat) : Int), 87, []) L st h := run_s rfl
theorem r_X9_cut_87 : run E g mi_X9_cut d lm RT F pm_X9_cut (n + 1) 87 L st h = exI E d lm RT F (run E g mi_X9_cut d lm RT F pm_X9_cut n) (0, 8, 0, 89, []) L st h := run_s rfl
theorem r_X9_cut_89 : run E g mi_X9_cut d lm RT F pm_X9_cut (n + 1) 89 L st h = exI E d lm RT F (run E g mi_X9_cut d lm RT F pm_X9_cut n) (2, ((0 : Nat) : Int), 0, 90, []) L st h := run_s rfl
theorem r_X9_cut_90 : run E g mi_X9_cut d lm RT F pm_X9_cut (n + 1) 90 L st h = exI E d lm RT F (run E g mi_X9_cut d lm RT F pm_X9_cut n) (35, ((9 : Nat) : Int), ((2 : Nat) : Int), 93, []) L st h := run_s rfl
theorem r_X9_cut_93 : run E g mi_X9_cut d lm RT F pm_X9_cut (n + 1) 93 L st h = exI E d lm RT F (run E g mi_X9_cut d lm RT F pm_X9_cut n) (1, ((1 : Nat) : Int), 0, 94, []) L st h := run_s rfl
theorem r_X9_cut_94 : run E g mi_X9_cut d lm RT F pm_X9_cut (n + 1) 94 L st h = exI E d lm RT F (run E g mi_X9_cut d lm RT F pm_X9_cut n) (38, 0, 0, 95, []) L st h := run_s rfl
theorem r_X9_cut_95 : run E g mi_X9_cut d lm RT F pm_X9_cut (n + 1) 95 L st h = exI E d lm RT F (run E g mi_X9_cut d lm RT F pm_X9_cut n) (10, 0, 0, 96, []) L st h := run_s rfl
theorem r_X9_cut_96 : run E g mi_X9_cut d lm RT F pm_X9_cut (n + 1) 96 L st h = exI E d lm RT F (run E g mi_X9_cut d lm RT F pm_X9_cut n) (2, ((0 : Nat) : Int), 0, 97, []) L st h := run_s rfl
theorem r_X9_cut_97 : run E g mi_X9_cut d lm RT F pm_X9_cut (n + 1) 97 L st h = exI E d lm RT F (run E g mi_X9_cut d lm RT F pm_X9_cut n) (35, ((9 : Nat) : Int), ((1 : Nat) : Int), 100, []) L st h := run_s rfl
theorem r_X9_cut_100 : run E g mi_X9_cut d lm RT F pm_X9_cut (n + 1) 100 L st h = exI E d lm RT F (run E g mi_X9_cut d lm RT F pm_X9_cut n) (1, ((1 : Nat) : Int), 0, 101, []) L st h := run_s rfl
theorem r_X9_cut_101 : run E g mi_X9_cut d lm RT F pm_X9_cut (n + 1) 101 L st h = exI E d lm RT F (run E g mi_X9_cut d lm RT F pm_X9_cut n) (38, 0, 0, 102, []) L st h := run_s rfl
theorem r_X9_cut_102 : run E g mi_X9_cut d lm RT F pm_X9_cut (n + 1) 102 L st h = exI E d lm RT F (run E g mi_X9_cut d lm RT F pm_X9_cut n) (8, 0, 0, 103, []) L st h := run_s rfl
theorem r_X9_cut_103 : run E g mi_X9_cut d lm RT F pm_X9_cut (n + 1) 103 L st h = exI E d lm RT F (run E g mi_X9_cut d lm RT F pm_X9_cut n) (0, (-9), 0, 105, []) L st h := run_s rfl
theorem r_X9_cut_105 : run E g mi_X9_cut d lm RT F pm_X9_cut (n + 1) 105 L st h = exI E d lm RT F (run E g mi_X9_cut d lm RT F pm_X9_cut n) (39, 0, 0, 106, []) L st h := run_s rfl
theorem r_X9_cut_106 : run E g mi_X9_cut d lm RT F pm_X9_cut (n + 1) 106 L st h = exI E d lm RT F (run E g mi_X9_cut d lm RT F pm_X9_cut n) (2, ((0 : Nat) : Int), 0, 107, []) L st h := run_s rfl
theorem r_X9_cut_107 : run E g mi_X9_cut d lm RT F pm_X9_cut (n + 1) 107 L st h = exI E d lm RT F (run E g mi_X9_cut d lm RT F pm_X9_cut n) (2, ((0 : Nat) : Int), 0, 108, []) L st h := run_s rfl
theorem r_X9_cut_108 : run E g mi_X9_cut d lm RT F pm_X9_cut (n + 1) 108 L st h = exI E d lm RT F (run E g mi_X9_cut d lm RT F pm_X9_cut n) (35, ((9 : Nat) : Int), ((1 : Nat) : Int), 111, []) L st h := run_s rfl
theorem r_X9_cut_111 : run E g mi_X9_cut d lm RT F pm_X9_cut (n + 1) 111 L st h = exI E d lm RT F (run E g mi_X9_cut d lm RT F pm_X9_cut n) (1, ((1 : Nat) : Int), 0, 112, []) L st h := run_s rfl
theorem r_X9_cut_112 : run E g mi_X9_cut d lm RT F pm_X9_cut (n + 1) 112 L st h = exI E d lm RT F (run E g mi_X9_cut d lm RT F pm_X9_cut n) (38, 0, 0, 113, []) L st h := run_s rfl
theorem r_X9_cut_113 : run E g mi_X9_cut d lm RT F pm_X9_cut (n + 1) 113 L st h = exI E d lm RT F (run E g mi_X9_cut d lm RT F pm_X9_cut n) (51, ((97 : Nat) : Int), ((2 : Nat) : Int), 116, [9]) L st h := run_s rfl
theorem r_X9_cut_116 : run E g mi_X9_cut d lm RT F pm_X9_cut (n + 1) 116 L st h = exI E d lm RT F (run E g mi_X9_cut d lm RT F pm_X9_cut n) (2, ((0 : Nat) : Int), 0, 117, []) L st h := run_s rfl
theorem r_X9_cut_117 : run E g mi_X9_cut d lm RT F pm_X9_cut (n + 1) 117 L st h = exI E d lm RT F (run E g mi_X9_cut d lm RT F pm_X9_cut n) (2, ((0 : Nat) : Int), 0, 118, []) L st h := run_s rfl
theorem r_X9_cut_118 : run E g mi_X9_cut d lm RT F pm_X9_cut (n + 1) 118 L st h = exI E d lm RT F (run E g mi_X9_cut d lm RT F pm_X9_cut n) (35, ((9 : Nat) : Int), ((2 : Nat) : Int), 121, []) L st h := run_s rfl
theorem r_X9_cut_121 : run E g mi_X9_cut d lm RT F pm_X9_cut (n + 1) 121 L st h = exI E d lm RT F (run E g mi_X9_cut d lm RT F pm_X9_cut n) (1, ((1 : Nat) : Int), 0, 122, []) L st h := run_s rfl
theorem r_X9_cut_122 : run E g mi_X9_cut d lm RT F pm_X9_cut (n + 1) 122 L st h = exI E d lm RT F (run E g mi_X9_cut d lm RT F pm_X9_cut n) (38, 0, 0, 123, []) L st h := run_s rfl
theorem r_X9_cut_123 : run E g mi_X9_cut d lm RT F pm_X9_cut (n + 1) 123 L st h = exI E d lm RT F (run E g mi_X9_cut d lm RT F pm_X9_cut n) (51, ((97 : Nat) : Int), ((2 : Nat) : Int), 126, [9]) L st h := run_s rfl
theorem r_X9_cut_126 : run E g mi_X9_cut d lm RT F pm_X9_cut (n + 1) 126 L st h = exI E d lm RT F (run E g mi_X9_cut d lm RT F pm_X9_cut n) (1, ((2 : Nat) : Int), 0, 127, []) L st h := run_s rfl
theorem r_X9_cut_127 : run E g mi_X9_cut d lm RT F pm_X9_cut (n + 1) 127 L st h = exI E d lm RT F (run E g mi_X9_cut d lm RT F pm_X9_cut n) (48, 0, 0, 0, []) L st h := run_s rfl
theorem e_X9_cut (n : Nat) {pc : Nat} (hF : FOk E d F) (hx : run E g mi_X9_cut d lm RT F pm_X9_cut n pc L st h) : G E g mi_X9_cut d lm RT pc L st h := run_sound hF pk_X9_cut n pc L st h hx
end
def mi_X9_delay : MI := (9, cX9_delay, 4, 0, false)
theorem mo_X9_delay : miOk mi_X9_delay (mt 102) = true := by decide +kernel
def tl_X9_delay : List (Nat × PT) := [(0, (2, ((0 : Nat) : Int), 0, 1, [])),
  (1, (1, ((1 : Nat) : Int), 0, 2, [])),
  (2, (52, ((100 : Nat) : Int), ((2 : Nat) : Int), 5, [9])),
  (5, (31, 1, ((10 : Nat) : Int), 8, [])),
  (8, (0, (-1), 0, 9, [])),
  (9, (48, 0, 0, 0, [])),
  (10, (1, ((2 : Nat) : Int), 0, 11, [])),
  (11, (0, 1, 0, 12, [])),
  (12, (0, 60, 0, 14, [])),
  (14, (45, ((90 : Nat) : Int), ((3 : Nat) : Int), 17, [])),
  (17, (31, 1, ((23 : Nat) : Int), 20, [])),
  (20, (0, (-2), 0, 22, [])),
  (22, (48, 0, 0, 0, [])),
  (23, (2, ((0 : Nat) : Int), 0, 24, [])),
  (24, (35, ((9 : Nat) : Int), ((3 : Nat) : Int), 27, [])),
  (27, (1, ((1 : Nat) : Int), 0, 28, [])),
  (28, (38, 0, 0, 29, [])),
  (29, (4, ((3 : Nat) : Int), 0, 30, [])),
  (30, (2, ((0 : Nat) : Int), 0, 31, [])),
  (31, (35, ((9 : Nat) : Int), ((3 : Nat) : Int), 34, [])),
  (34, (1, ((1 : Nat) : Int), 0, 35, [])),
  (35, (1, ((2 : Nat) : Int), 0, 36, [])),
  (36, (39, 0, 0, 37, [])),
  (37, (1, ((3 : Nat) : Int), 0, 38, [])),
  (38, (48, 0, 0, 0, []))]
theorem tk_X9_delay : tOk mi_X9_delay tl_X9_delay = true := by decide +kernel
def pm_X9_delay (pc : Nat) : Option PT := if [].contains pc then none else tl_X9_delay.lookup pc
theorem pk_X9_delay : ∀ pc pt, pm_X9_delay pc = some pt → okPt mi_X9_delay pc pt := fun pc pt h => tOk_pm tk_X9_delay h
section
variable {E : ET} {g : GT} {d : Nat} {lm : Nat × Nat} {RT : RTy} {F : FT} {n : Nat} {L : LV} {st : List AV} {h : AH}
theorem r_X9_delay_0 : run E g mi_X9_delay d lm RT F pm_X9_delay (n + 1) 0 L st h = exI E d lm RT F (run E g mi_X9_delay d lm RT F pm_X9_delay n) (2, ((0 : Nat) : Int), 0, 1, []) L st h := run_s rfl
theorem r_X9_delay_1 : run E g mi_X9_delay d lm RT F pm_X9_delay (n + 1) 1 L st h = exI E d lm RT F (run E g mi_X9_delay d lm RT F pm_X9_delay n) (1, ((1 : Nat) : Int), 0, 2, []) L st h := run_s rfl
theorem r_X9_delay_2 : run E g mi_X9_delay d lm RT F pm_X9_delay (n + 1) 2 L st h = exI E d lm RT F (run E g mi_X9_delay d lm RT F pm_X9_delay n) (52, ((100 : Nat) : Int), ((2 : Nat) : Int), 5, [9]) L st h := run_s rfl
theorem r_X9_delay_5 : run E g mi_X9_delay d lm RT F pm_X9_delay (n + 1) 5 L st h = exI E d lm RT F (run E g mi_X9_delay d lm RT F pm_X9_delay n) (31, 1, ((10 : Nat) : Int), 8, []) L st h := run_s rfl
theorem r_X9_delay_8 : run E g mi_X9_delay d lm RT F pm_X9_delay (n + 1) 8 L st h = exI E d lm RT F (run E g mi_X9_delay d lm RT F pm_X9_delay n) (0, (-1), 0, 9, []) L st h := run_s rfl
theorem r_X9_delay_9 : run E g mi_X9_delay d lm RT F pm_X9_delay (n + 1) 9 L st h = exI E d lm RT F (run E g mi_X9_delay d lm RT F pm_X9_delay n) (48, 0, 0, 0, []) L st h := run_s rfl
theorem r_X9_delay_10 : run E g mi_X9_delay d lm RT F pm_X9_delay (n + 1) 10 L st h = exI E d lm RT F (run E g mi_X9_delay d lm RT F pm_X9_delay n) (1, ((2 : Nat) : Int), 0, 11, []) L st h := run_s rfl
theorem r_X9_delay_11 : run E g mi_X9_delay d lm RT F pm_X9_delay (n + 1) 11 L st h = exI E d lm RT F (run E g mi_X9_delay d lm RT F pm_X9_delay n) (0, 1, 0, 12, []) L st h := run_s rfl
theorem r_X9_delay_12 : run E g mi_X9_delay d lm RT F pm_X9_delay (n + 1) 12 L st h = exI E d lm RT F (run E g mi_X9_delay d lm RT F pm_X9_delay n) (0, 60, 0, 14, []) L st h := run_s rfl
theorem r_X9_delay_14 : run E g mi_X9_delay d lm RT F pm_X9_delay (n + 1) 14 L st h = exI E d lm RT F (run E g mi_X9_delay d lm RT F pm_X9_delay n) (45, ((90 : Nat) : Int), ((3 : Nat) : Int), 17, []) L st h := run_s rfl
theorem r_X9_delay_17 : run E g mi_X9_delay d lm RT F pm_X9_delay (n + 1) 17 L st h = exI E d lm RT F (run E g mi_X9_delay d lm RT F pm_X9_delay n) (31, 1, ((23 : Nat) : Int), 20, []) L st h := run_s rfl
theorem r_X9_delay_20 : run E g mi_X9_delay d lm RT F pm_X9_delay (n + 1) 20 L st h = exI E d lm RT F (run E g mi_X9_delay d lm RT F pm_X9_delay n) (0, (-2), 0, 22, []) L st h := run_s rfl
theorem r_X9_delay_22 : run E g mi_X9_delay d lm RT F pm_X9_delay (n + 1) 22 L st h = exI E d lm RT F (run E g mi_X9_delay d lm RT F pm_X9_delay n) (48, 0, 0, 0, []) L st h := run_s rfl
theorem r_X9_delay_23 : run E g mi_X9_delay d lm RT F pm_X9_delay (n + 1) 23 L st h = exI E d lm RT F (run E g mi_X9_delay d lm RT F pm_X9_delay n) (2, ((0 : Nat) : Int), 0, 24, []) L st h := run_s rfl
theorem r_X9_delay_24 : run E g mi_X9_delay d lm RT F pm_X9_delay (n + 1) 24 L st h = exI E d lm RT F (run E g mi_X9_delay d lm RT F pm_X9_delay n) (35, ((9 : Nat) : Int), ((3 : Nat) : Int), 27, []) L st h := run_s rfl
theorem r_X9_delay_27 : run E g mi_X9_delay d lm RT F pm_X9_delay (n + 1) 27 L st h = exI E d lm RT F (run E g mi_X9_delay d lm RT F pm_X9_delay n) (1, ((1 : Nat) : Int), 0, 28, []) L st h := run_s rfl
theorem r_X9_delay_28 : run E g mi_X9_delay d lm RT F pm_X9_delay (n + 1) 28 L st h = exI E d lm RT F (run E g mi_X9_delay d lm RT F pm_X9_delay n) (38, 0, 0, 29, []) L st h := run_s rfl
theorem r_X9_delay_29 : run E g mi_X9_delay d lm RT F pm_X9_delay (n + 1) 29 L st h = exI E d lm RT F (run E g mi_X9_delay d lm RT F pm_X9_delay n) (4, ((3 : Nat) : Int), 0, 30, []) L st h := run_s rfl
theorem r_X9_delay_30 : run E g mi_X9_delay d lm RT F pm_X9_delay (n + 1) 30 L st h = exI E d lm RT F (run E g mi_X9_delay d lm RT F pm_X9_delay n) (2, ((0 : Nat) : Int), 0, 31, []) L st h := run_s rfl
theorem r_X9_delay_31 : run E g mi_X9_delay d lm RT F pm_X9_delay (n + 1) 31 L st h = exI E d lm RT F (run E g mi_X9_delay d lm RT F pm_X9_delay n) (35, ((9 : Nat) : Int), ((3 : Nat) : Int), 34, []) L st h := run_s rfl
theorem r_X9_delay_34 : run E g mi_X9_delay d lm RT F pm_X9_delay (n + 1) 34 L st h = exI E d lm RT F (run E g mi_X9_delay d lm RT F pm_X9_delay n) (1, ((1 : Nat) : Int), 0, 35, []) L st h := run_s rfl
theorem r_X9_delay_35 : run E g mi_X9_delay d lm RT F pm_X9_delay (n + 1) 35 L st h = exI E d lm RT F (run E g mi_X9_delay d lm RT F pm_X9_delay n) (1, ((2 : Nat) : Int), 0, 36, []) L st h := run_s rfl
theorem r_X9_delay_36 : run E g mi_X9_delay d lm RT F pm_X9_delay (n + 1) 36 L st h = exI E d lm RT F (run E g mi_X9_delay d lm RT F pm_X9_delay n) (39, 0, 0, 37, []) L st h := run_s rfl
theorem r_X9_delay_37 : run E g mi_X9_delay d lm RT F pm_X9_delay (n + 1) 37 L st h = exI E d lm RT F (run E g mi_X9_delay d lm RT F pm_X9_delay n) (1, ((3 : Nat) : Int), 0, 38, []) L st h := run_s rfl
theorem r_X9_delay_38 : run E g mi_X9_delay d lm RT F pm_X9_delay (n + 1) 38 L st h = exI E d lm RT F (run E g mi_X9_delay d lm RT F pm_X9_delay n) (48, 0, 0, 0, []) L st h := run_s rfl
theorem e_X9_delay (n : Nat) {pc : Nat} (hF : FOk E d F) (hx : run E g mi_X9_delay d lm RT F pm_X9_delay n pc L st h) : G E g mi_X9_delay d lm RT pc L st h := run_sound hF pk_X9_delay n pc L st h hx
end
def mi_X9_onIt : MI := (9, cX9_onIt, 5, 0, false)
theorem mo_X9_onIt : miOk mi_X9_onIt (mt 103) = true := by decide +kernel
def tl_X9_onIt : List (Nat × PT) := [(0, (0, 0, 0, 1, [])),
  (1, (4, ((3 : Nat) : Int), 0, 2, [])),
  (2, (0, 0, 0, 3, [])),
  (3, (4, ((4 : Nat) : Int), 0, 5, [])),
  (5, (1, ((4 : Nat) : Int), 0, 7, [])),
  (7, (0, 12, 0, 9, [])),
  (9, (32, 3, ((58 : Nat) : Int), 12, [])),
  (12, (1, ((3 : Nat) : Int), 0, 13, [])),
  (13, (2, ((0 : Nat) : Int), 0, 14, [])),
  (14, (35, ((9 : Nat) : Int), ((17 : Nat) : Int), 17, [])),
  (17, (1, ((4 : Nat) : Int), 0, 19, [])),
  (19, (38, 1, 0, 20, [])),
  (20, (31, 0, ((49 : Nat) : Int), 23, [])),
  (23, (2, ((0 : Nat) : Int), 0, 24, [])),
  (24, (35, ((9 : Nat) : Int), ((22 : Nat) : Int), 27, [])),
  (27, (1, ((4 : Nat) : Int), 0, 29, [])),
  (29, (38, 0, 0, 30, [])),
  (30, (1, ((1 : Nat) : Int), 0, 31, [])),
  (31, (32, 1, ((49 : Nat) : Int), 34, [])),
  (34, (2, ((0 : Nat) : Int), 0, 35, [])),
  (35, (35, ((9 : Nat) : Int), ((21 : Nat) : Int), 38, [])),
  (38, (1, ((4 : Nat) : Int), 0, 40, [])),
  (40, (38, 1, 0, 41, [])),
  (41, (1, ((2 : Nat) : Int), 0, 42, [])),
  (42, (32, 1, ((49 : Nat) : Int), 45, [])),
  (45, (0, 1, 0, 46, [])),
  (46, (33, ((50 : Nat) : Int), 0, 0, [])),
  (49, (0, 0, 0, 50, [])),
  (50, (8, 0, 0, 51, [])),
  (51, (4, ((3 : Nat) : Int), 0, 52, [])),
  (52, (7, ((4 : Nat) : Int), 1, 55, [])),
  (55, (33, ((5 : Nat) : Int), 0, 0, [])),
  (58, (1, ((3 : Nat) : Int), 0, 59, [])),
  (59, (48, 0, 0, 0, []))]
theorem tk_X9_onIt : tOk mi_X9_onIt tl_X9_onIt = true := by decide +kernel
def pm_X9_onIt (pc : Nat) : Option PT := if [5].contains pc then none else tl_X9_onIt.lookup pc
theorem pk_X9_onIt : ∀ pc pt, pm_X9_onIt pc = some pt → okPt mi_X9_onIt pc pt := fun pc pt h => tOk_pm tk_X9_onIt h
section
variable {E : ET} {g : GT} {d : Nat} {lm : Nat × Nat} {RT : RTy} {F : FT} {n : Nat} {L : LV} {st : List AV} {h : AH}
theorem r_X9_onIt_0 : run E g mi_X9_onIt d lm RT F pm_X9_onIt (n + 1) 0 L st h = exI E d lm RT F (run E g mi_X9_onIt d lm RT F pm_X9_onIt n) (0, 0, 0, 1, []) L st h := run_s rfl
theorem r_X9_onIt_1 : run E g mi_X9_onIt d lm RT F pm_X9_onIt (n + 1) 1 L st h = exI E d lm RT F (run E g mi_X9_onIt d lm RT F pm_X9_onIt n) (4, ((3 : Nat) : Int), 0, 2, []) L st h := run_s rfl
theorem r_X9_onIt_2 : run E g mi_X9_onIt d lm RT F pm_X9_onIt (n + 1) 2 L st h = exI E d lm RT F (run E g mi_X9_onIt d lm RT F pm_X9_onIt n) (0, 0, 0, 3, []) L st h := run_s rfl
theorem r_X9_onIt_3 : run E g mi_X9_onIt d lm RT F pm_X9_onIt (n + 1) 3 L st h = exI E d lm RT F (run E g mi_X9_onIt d lm RT F pm_X9_onIt n) (4, ((4 : Nat) : Int), 0, 5, []) L st h := run_s rfl
theorem r_X9_onIt_5 : run E g mi_X9_onIt d lm RT F pm_X9_onIt (n + 1) 5 L st h = G E g mi_X9_onIt d lm RT 5 L st h := run_c rfl
theorem q_X9_onIt_5 (n : Nat) (hF : FOk E d F) (hx : exI E d lm RT F (run E g mi_X9_onIt d lm RT F pm_X9_onIt n) (1, ((4 : Nat) : Int), 0, 7, []) L st h) : G E g mi_X9_onIt d lm RT 5 L st h := sstep hF (tOk_spec tk_X9_onIt (by decide +kernel)) (run_sound hF pk_X9_onIt n) hx
theorem r_X9_onIt_7 : run E g mi_X9_onIt d lm RT F pm_X9_onIt (n + 1) 7 L st h = exI E d lm RT F (run E g mi_X9_onIt d lm RT F pm_X9_onIt n) (0, 12, 0, 9, []) L st h := run_s rfl
theorem r_X9_onIt_9 : run E g mi_X9_onIt d lm RT F pm_X9_onIt (n + 1) 9 L st h = exI E d lm RT F (run E g mi_X9_onIt d lm RT F pm_X9_onIt n) (32, 3, ((58 : Nat) : Int), 12, []) L st h := run_s rfl
theorem r_X9_onIt_12 : run E g mi_X9_onIt d lm RT F pm_X9_onIt (n + 1) 12 L st h = exI E d lm RT F (run E g mi_X9_onIt d lm RT F pm_X9_onIt n) (1, ((3 : Nat) : Int), 0, 13, []) L st h := run_s rfl
theorem r_X9_onIt_13 : run E g mi_X9_onIt d lm RT F pm_X9_onIt (n + 1) 13 L st h = exI E d lm RT F (run E g mi_X9_onIt d lm RT F pm_X9_onIt n) (2, ((0 : Nat) : Int), 0, 14, []) L st h := run_s rfl
theorem r_X9_onIt_14 : run E g mi_X9_onIt d lm RT F pm_X9_onIt (n + 1) 14 L st h = exI E d lm RT F (run E g mi_X9_onIt d lm RT F pm_X9_onIt n) (35, ((9 : Nat) : Int), ((17 : Nat) : Int), 17, []) L st h := run_s rfl
theorem r_X9_onIt_17 : run E g mi_X9_onIt d lm RT F pm_X9_onIt (n + 1) 17 L st h = exI E d lm RT F (run E g mi_X9_onIt d lm RT F pm_X9_onIt n) (1, ((4 : Nat) : Int), 0, 19, []) L st h := run_s rfl
theorem r_X9_onIt_19 : run E g mi_X9_onIt d lm RT F pm_X9_onIt (n + 1) 19 L st h = exI E d lm RT F (run E g mi_X9_onIt d lm RT F pm_X9_onIt n) (38, 1, 0, 20, []) L st h := run_s rfl
theorem r_X9_onIt_20 : run E g mi_X9_onIt d lm RT F pm_X9_onIt (n + 1) 20 L st h = exI E d lm RT F (run E g mi_X9_onIt d lm RT F pm_X9_onIt n) (31, 0, ((49 : Nat) : Int), 23, []) L st h := run_s rfl
theorem r_X9_onIt_23 : run E g mi_X9_onIt d lm RT F pm_X9_onIt (n + 1) 23 L st h = exI E d lm RT F (run E g mi_X9_onIt d lm RT F pm_X9_onIt n) (2, ((0 : Nat) : Int), 0, 24, []) L st h := run_s rfl
theorem r_X9_onIt_24 : run E g mi_X9_onIt d lm RT F pm_X9_onIt (n + 1) 24 L st h = exI E d lm RT F (run E g mi_X9_onIt d lm RT F pm_X9_onIt n) (35, ((9 : Nat) : Int), ((22 : Nat) : Int), 27, []) L st h := run_s rfl
theorem r_X9_onIt_27 : run E g mi_X9_onIt d lm RT F pm_X9_onIt (n + 1) 27 L st h = exI E d lm RT F (run E g mi_X9_onIt d lm RT F pm_X9_onIt n) (1, ((4 : Nat) : Int), 0, 29, []) L st h := run_s rfl
theorem r_X9_onIt_29 : run E g mi_X9_onIt d lm RT F pm_X9_onIt (n + 1) 29 L st h = exI E d lm RT F (run E g mi_X9_onIt d lm RT F pm_X9_onIt n) (38, 0, 0, 30, []) L st h := run_s rfl
theorem r_X9_onIt_30 : run E g mi_X9_onIt d lm RT F pm_X9_onIt (n + 1) 30 L st h = exI E d lm RT F (run E g mi_X9_onIt d lm RT F pm_X9_onIt n) (1, ((1 : Nat) : Int), 0, 31, []) L st h := run_s rfl
theorem r_X9_onIt_31 : run E g mi_X9_onIt d lm RT F pm_X9_onIt (n + 1) 31 L st h = exI E d lm RT F (run E g mi_X9_onIt d lm RT F pm_X9_onIt n) (32, 1, ((49 : Nat) : Int), 34, []) L st h := run_s rfl
theorem r_X9_onIt_34 : run E g mi_X9_onIt d lm RT F pm_X9_onIt (n + 1) 34 L st h = exI E d lm RT F (run E g mi_X9_onIt d lm RT F pm_X9_onIt n) (2, ((0 : Nat) : Int), 0, 35, []) L st h := run_s rfl
theorem r_X9_onIt_35 : run E g mi_X9_onIt d lm RT F pm_X9_onIt (n + 1) 35 L st h = exI E d lm RT F (run E g mi_X9_onIt d lm RT F pm_X9_onIt n) (35, ((9 : Nat) : Int), ((21 : Nat) : Int), 38, []) L st h := run_s rfl
theorem r_X9_onIt_38 : run E g mi_X9_onIt d lm RT F pm_X9_onIt (n + 1) 38 L st h = exI E d lm RT F (run E g mi_X9_onIt d lm RT F pm_X9_onIt n) (1, ((4 : Nat) : Int), 0, 40, []) L st h := run_s rfl
theorem r_X9_onIt_40 : run E g mi_X9_onIt d lm RT F pm_X9_onIt (n + 1) 40 L st h = exI E d lm RT F (run E g mi_X9_onIt d lm RT F pm_X9_onIt n) (38, 1, 0, 41, []) L st h := run_s rfl
theorem r_X9_onIt_41 : run E g mi_X9_onIt d lm RT F pm_X9_onIt (n + 1) 41 L st h = exI E d lm RT F (run E g mi_X9_onIt d lm RT F pm_X9_onIt n) (1, ((2 : Nat) : Int), 0, 42, []) L st h := run_s rfl
theorem r_X9_onIt_42 : run E g mi_X9_onIt d lm RT F pm_X9_onIt (n + 1) 42 L st h = exI E d lm RT F (run E g mi_X9_onIt d lm RT F pm_X9_onIt n) (32, 1, ((49 : Nat) : Int), 45, []) L st h := run_s rfl
theorem r_X9_onIt_45 : run E g mi_X9_onIt d lm RT F pm_X9_onIt (n + 1) 45 L st h = exI E d lm RT F (run E g mi_X9_onIt d lm RT F pm_X9_onIt n) (0, 1, 0, 46, []) L st h := run_s rfl
theorem r_X9_onIt_46 : run E g mi_X9_onIt d lm RT F pm_X9_onIt (n + 1) 46 L st h = exI E d lm RT F (run E g mi_X9_onIt d lm RT F pm_X9_onIt n) (33, ((50 : Nat) : Int), 0, 0, []) L st h := run_s rfl
theorem r_X9_onIt_49 : run E g mi_X9_onIt d lm RT F pm_X9_onIt (n + 1) 49 L st h = exI E d lm RT F (run E g mi_X9_onIt d lm RT F pm_X9_onIt n) (0, 0, 0, 50, []) L st h := run_s rfl
theorem r_X9_onIt_50 : run E g mi_X9_onIt d lm RT F pm_X9_onIt (n + 1) 50 L st h = exI E d lm RT F (run E g mi_X9_onIt d lm RT F pm_X9_onIt n) (8, 0, 0, 51, []) L st h := run_s rfl
theorem r_X9_onIt_51 : run E g mi_X9_onIt d lm RT F pm_X9_onIt (n + 1) 51 L st h = exI E d lm RT F (run E g mi_X9_onIt d lm RT F pm_X9_onIt n) (4, ((3 : Nat) : Int), 0, 52, []) L st h := run_s rfl
theorem r_X9_onIt_52 : run E g mi_X9_onIt d lm RT F pm_X9_onIt (n + 1) 52 L st h = exI E d lm RT F (run E g mi_X9_onIt d lm RT F pm_X9_onIt n) (7, ((4 : Nat) : Int), 1, 55, []) L st h := run_s rfl
theorem r_X9_onIt_55 : run E g mi_X9_onIt d lm RT F pm_X9_onIt (n + 1) 55 L st h = exI E d lm RT F (run E g mi_X9_onIt d lm RT F pm_X9_onIt n) (33, ((5 : Nat) : Int), 0, 0, []) L st h := run_s rfl
theorem r_X9_onIt_58 : run E g mi_X9_onIt d lm RT F pm_X9_onIt (n + 1) 58 L st h = exI E d lm RT F (run E g mi_X9_onIt d lm RT F pm_X9_onIt n) (1, ((3 : Nat) : Int), 0, 59, []) L st h := run_s rfl
theorem r_X9_onIt_59 : run E g mi_X9_onIt d lm RT F pm_X9_onIt (n + 1) 59 L st h = exI E d lm RT F (run E g mi_X9_onIt d lm RT F pm_X9_onIt n) (48, 0, 0, 0, []) L st h := run_s rfl
theorem e_X9_onIt (n : Nat) {pc : Nat} (hF : FOk E d F) (hx : run E g mi_X9_onIt d lm RT F pm_X9_onIt n pc L st h) : G E g mi_X9_onIt d lm RT pc L st h := run_sound hF pk_X9_onIt n pc L st h hx
end
def mi_X9_ofLink : MI := (9, cX9_ofLink, 3, 0, false)
theorem mo_X9_ofLink : miOk mi_X9_ofLink (mt 104) = true := by decide +kernel
def tl_X9_ofLink : List (Nat × PT) := [(0, (2, ((0 : Nat) : Int), 0, 1, [])),
  (1, (1, ((1 : Nat) : Int), 0, 2, [])),
  (2, (52, ((100 : Nat) : Int), ((2 : Nat) : Int), 5, [9])),
  (5, (31, 1, ((10 : Nat) : Int), 8, [])),
  (8, (0, (-1), 0, 9, [])),
  (9, (48, 0, 0, 0, [])),
  (10, (1, ((2 : Nat) : Int), 0, 11, [])),
  (11, (34, 0, ((79 : Nat) : Int), 0, [44, 51, 58, 65, 72])),
  (44, (2, ((0 : Nat) : Int), 0, 45, [])),
  (45, (35, ((9 : Nat) : Int), ((1 : Nat) : Int), 48, [])),
  (48, (1, ((1 : Nat) : Int), 0, 49, [])),
  (49, (38, 0, 0, 50, [])),
  (50, (48, 0, 0, 0, [])),
  (51, (2, ((0 : Nat) : Int), 0, 52, [])),
  (52, (35, ((9 : Nat) : Int), ((2 : Nat) : Int), 55, [])),
  (55, (1, ((1 : Nat) : Int), 0, 56, [])),
  (56, (38, 0, 0, 57, [])),
  (57, (48, 0, 0, 0, [])),
  (58, (2, ((0 : Nat) : Int), 0, 59, [])),
  (59, (35, ((9 : Nat) : Int), ((3 : Nat) : Int), 62, [])),
  (62, (1, ((1 : Nat) : Int), 0, 63, [])),
  (63, (38, 0, 0, 64, [])),
  (64, (48, 0, 0, 0, [])),
  (65, (2, ((0 : Nat) : Int), 0, 66, [])),
  (66, (1, ((1 : Nat) : Int), 0, 67, [])),
  (67, (0, 0, 0, 68, [])),
  (68, (51, ((103 : Nat) : Int), ((3 : Nat) : Int), 71, [9])),
  (71, (48, 0, 0, 0, [])),
  (72, (2, ((0 : Nat) : Int), 0, 73, [])),
  (73, (1, ((1 : Nat) : Int), 0, 74, [])),
  (74, (0, 1, 0, 75, [])),
  (75, (51, ((103 : Nat) : Int), ((3 : Nat) : Int), 78, [9])),
  (78, (48, 0, 0, 0, [])),
  (79, (0, (-2), 0, 81, [])),
  (81, (48, 0, 0, 0, []))]
theorem tk_X9_ofLink : tOk mi_X9_ofLink tl_X9_ofLink = true := by decide +kernel
def pm_X9_ofLink (pc : Nat) : Option PT := if [].contains pc then none else tl_X9_ofLink.lookup pc
theorem pk_X9_ofLink : ∀ pc pt, pm_X9_ofLink pc = some pt → okPt mi_X9_ofLink pc pt := fun pc pt h => tOk_pm tk_X9_ofLink h
section
variable {E : ET} {g : GT} {d : Nat} {lm : Nat × Nat} {RT : RTy} {F : FT} {n : Nat} {L : LV} {st : List AV} {h : AH}
theorem r_X9_ofLink_0 : run E g mi_X9_ofLink d lm RT F pm_X9_ofLink (n + 1) 0 L st h = exI E d lm RT F (run E g mi_X9_ofLink d lm RT F pm_X9_ofLink n) (2, ((0 : Nat) : Int), 0, 1, []) L st h := run_s rfl
theorem r_X9_ofLink_1 : run E g mi_X9_ofLink d lm RT F pm_X9_ofLink (n + 1) 1 L st h = exI E d lm RT F (run E g mi_X9_ofLink d lm RT F pm_X9_ofLink n) (1, ((1 : Nat) : Int), 0, 2, []) L st h := run_s rfl
theorem r_X9_ofLink_2 : run E g mi_X9_ofLink d lm RT F pm_X9_ofLink (n + 1) 2 L st h = exI E d lm RT F (run E g mi_X9_ofLink d lm RT F pm_X9_ofLink n) (52, ((100 : Nat) : Int), ((2 : Nat) : Int), 5, [9]) L st h := run_s rfl
theorem r_X9_ofLink_5 : run E g mi_X9_ofLink d lm RT F pm_X9_ofLink (n + 1) 5 L st h = exI E d lm RT F (run E g mi_X9_ofLink d lm RT F pm_X9_ofLink n) (31, 1, ((10 : Nat) : Int), 8, []) L st h := run_s rfl
theorem r_X9_ofLink_8 : run E g mi_X9_ofLink d lm RT F pm_X9_ofLink (n + 1) 8 L st h = exI E d lm RT F (run E g mi_X9_ofLink d lm RT F pm_X9_ofLink n) (0, (-1), 0, 9, []) L st h := run_s rfl
theorem r_X9_ofLink_9 : run E g mi_X9_ofLink d lm RT F pm_X9_ofLink (n + 1) 9 L st h = exI E d lm RT F (run E g mi_X9_ofLink d lm RT F pm_X9_ofLink n) (48, 0, 0, 0, []) L st h := run_s rfl
theorem r_X9_ofLink_10 : run E g mi_X9_ofLink d lm RT F pm_X9_ofLink (n + 1) 10 L st h = exI E d lm RT F (run E g mi_X9_ofLink d lm RT F pm_X9_ofLink n) (1, ((2 : Nat) : Int), 0, 11, []) L st h := run_s rfl
theorem r_X9_ofLink_11 : run E g mi_X9_ofLink d lm RT F pm_X9_ofLink (n + 1) 11 L st h = exI E d lm RT F (run E g mi_X9_ofLink d lm RT F pm_X9_ofLink n) (34, 0, ((79 : Nat) : Int), 0, [44, 51, 58, 65, 72]) L st h := run_s rfl
theorem r_X9_ofLink_44 : run E g mi_X9_ofLink d lm RT F pm_X9_ofLink (n + 1) 44 L st h = exI E d lm RT F (run E g mi_X9_ofLink d lm RT F pm_X9_ofLink n) (2, ((0 : Nat) : Int), 0, 45, []) L st h := run_s rfl
theorem r_X9_ofLink_45 : run E g mi_X9_ofLink d lm RT F pm_X9_ofLink (n + 1) 45 L st h = exI E d lm RT F (run E g mi_X9_ofLink d lm RT F pm_X9_ofLink n) (35, ((9 : Nat) : Int), ((1 : Nat) : Int), 48, []) L st h := run_s rfl
theorem r_X9_ofLink_48 : run E g mi_X9_ofLink d lm RT F pm_X9_ofLink (n + 1) 48 L st h = exI E d lm RT F (run E g mi_X9_ofLink d lm RT F pm_X9_ofLink n) (1, ((1 : Nat) : Int), 0, 49, []) L st h := run_s rfl
theorem r_X9_ofLink_49 : run E g mi_X9_ofLink d lm RT F pm_X9_ofLink (n + 1) 49 L st h = exI E d lm RT F (run E g mi_X9_ofLink d lm RT F pm_X9_ofLink n) (38, 0, 0, 50, []) L st h := run_s rfl
theorem r_X9_ofLink_50 : run E g mi_X9_ofLink d lm RT F pm_X9_ofLink (n + 1) 50 L st h = exI E d lm RT F (run E g mi_X9_ofLink d lm RT F pm_X9_ofLink n) (48, 0, 0, 0, []) L st h := run_s rfl
theorem r_X9_ofLink_51 : run E g mi_X9_ofLink d lm RT F pm_X9_ofLink (n + 1) 51 L st h = exI E d lm RT F (run E g mi_X9_ofLink d lm RT F pm_X9_ofLink n) (2, ((0 : Nat) : Int), 0, 52, []) L st h := run_s rfl
theorem r_X9_ofLink_52 : run E g mi_X9_ofLink d lm RT F pm_X9_ofLink (n + 1) 52 L st h = exI E d lm RT F (run E g mi_X9_ofLink d lm RT F pm_X9_ofLink n) (35, ((9 : Nat) : Int), ((2 : Nat) : Int), 55, []) L st h := run_s rfl
theorem r_X9_ofLink_55 : run E g mi_X9_ofLink d lm RT F pm_X9_ofLink (n + 1) 55 L st h = exI E d lm RT F (run E g mi_X9_ofLink d lm RT F pm_X9_ofLink n) (1, ((1 : Nat) : Int), 0, 56, []) L st h := run_s rfl
theorem r_X9_ofLink_56 : run E g mi_X9_ofLink d lm RT F pm_X9_ofLink (n + 1) 56 L st h = exI E d lm RT F (run E g mi_X9_ofLink d lm RT F pm_X9_ofLink n) (38, 0, 0, 57, []) L st h := run_s rfl
theorem r_X9_ofLink_57 : run E g mi_X9_ofLink d lm RT F pm_X9_ofLink (n + 1) 57 L st h = exI E d lm RT F (run E g mi_X9_ofLink d lm RT F pm_X9_ofLink n) (48, 0, 0, 0, []) L st h := run_s rfl
theorem r_X9_ofLink_58 : run E g mi_X9_ofLink d lm RT F pm_X9_ofLink (n + 1) 58 L st h = exI E d lm RT F (run E g mi_X9_ofLink d lm RT F pm_X9_ofLink n) (2, ((0 : Nat) : Int), 0, 59, []) L st h := run_s rfl
theorem r_X9_ofLink_59 : run E g mi_X9_ofLink d lm RT F pm_X9_ofLink (n + 1) 59 L st h = exI E d lm RT F (run E g mi_X9_ofLink d lm RT F pm_X9_ofLink n) (35, ((9 : Nat) : Int), ((3 : Nat) : Int), 62, []) L st h := run_s rfl
theorem r_X9_ofLink_62 : run E g mi_X9_ofLink d lm RT F pm_X9_ofLink (n + 1) 62 L st h = exI E d lm RT F (run E g mi_X9_ofLink d lm RT F pm_X9_ofLink n) (1, ((1 : Nat) : Int), 0, 63, []) L st h := run_s rfl
theorem r_X9_ofLink_63 : run E g mi_X9_ofLink d lm RT F pm_X9_ofLink (n + 1) 63 L st h = exI E d lm RT F (run E g mi_X9_ofLink d lm RT F pm_X9_ofLink n) (38, 0, 0, 64, []) L st h := run_s rfl
theorem r_X9_ofLink_64 : run E g mi_X9_ofLink d lm RT F pm_X9_ofLink (n + 1) 64 L st h = exI E d lm RT F (run E g mi_X9_ofLink d lm RT F pm_X9_ofLink n) (48, 0, 0, 0, []) L st h := run_s rfl
theorem r_X9_ofLink_65 : run E g mi_X9_ofLink d lm RT F pm_X9_ofLink (n + 1) 65 L st h = exI E d lm RT F (run E g mi_X9_ofLink d lm RT F pm_X9_ofLink n) (2, ((0 : Nat) : Int), 0, 66, []) L st h := run_s rfl
theorem r_X9_ofLink_66 : run E g mi_X9_ofLink d lm RT F pm_X9_ofLink (n + 1) 66 L st h = exI E d lm RT F (run E g mi_X9_ofLink d lm RT F pm_X9_ofLink n) (1, ((1 : Nat) : Int), 0, 67, []) L st h := run_s rfl
theorem r_X9_ofLink_67 : run E g mi_X9_ofLink d lm RT F pm_X9_ofLink (n + 1) 67 L st h = exI E d lm RT F (run E g mi_X9_ofLink d lm RT F pm_X9_ofLink n) (0, 0, 0, 68, []) L st h := run_s rfl
theorem r_X9_ofLink_68 : run E g mi_X9_ofLink d lm RT F pm_X9_ofLink (n + 1) 68 L st h = exI E d lm RT F (run E g mi_X9_ofLink d lm RT F pm_X9_ofLink n) (51, ((103 : Nat) : Int), ((3 : Nat) : Int), 71, [9]) L st h := run_s rfl
theorem r_X9_ofLink_71 : run E g mi_X9_ofLink d lm RT F pm_X9_ofLink (n + 1) 71 L st h = exI E d lm RT F (run E g mi_X9_ofLink d lm RT F pm_X9_ofLink n) (48, 0, 0, 0, []) L st h := run_s rfl
theorem r_X9_ofLink_72 : run E g mi_X9_ofLink d lm RT F pm_X9_ofLink (n + 1) 72 L st h = exI E d lm RT F (run E g mi_X9_ofLink d lm RT F pm_X9_ofLink n) (2, ((0 : Nat) : Int), 0, 73, []) L st h := run_s rfl
theorem r_X9_ofLink_73 : run E g mi_X9_ofLink d lm RT F pm_X9_ofLink (n + 1) 73 L st h = exI E d lm RT F (run E g mi_X9_ofLink d lm RT F pm_X9_ofLink n) (1, ((1 : Nat) : Int), 0, 74, []) L st h := run_s rfl
theorem r_X9_ofLink_74 : run E g mi_X9_ofLink d lm RT F pm_X9_ofLink (n + 1) 74 L st h = exI E d lm RT F (run E g mi_X9_ofLink d lm RT F pm_X9_ofLink n) (0, 1, 0, 75, []) L st h := run_s rfl
theorem r_X9_ofLink_75 : run E g mi_X9_ofLink d lm RT F pm_X9_ofLink (n + 1) 75 L st h = exI E d lm RT F (run E g mi_X9_ofLink d lm RT F pm_X9_ofLink n) (51, ((103 : Nat) : Int), ((3 : Nat) : Int), 78, [9]) L st h := run_s rfl
theorem r_X9_ofLink_78 : run E g mi_X9_ofLink d lm RT F pm_X9_ofLink (n + 1) 78 L st h = exI E d lm RT F (run E g mi_X9_ofLink d lm RT F pm_X9_ofLink n) (48, 0, 0, 0, []) L st h := run_s rfl
theorem r_X9_ofLink_79 : run E g mi_X9_ofLink d lm RT F pm_X9_ofLink (n + 1) 79 L st h = exI E d lm RT F (run E g mi_X9_ofLink d lm RT F pm_X9_ofLink n) (0, (-2), 0, 81, []) L st h := run_s rfl
theorem r_X9_ofLink_81 : run E g mi_X9_ofLink d lm RT F pm_X9_ofLink (n + 1) 81 L st h = exI E d lm RT F (run E g mi_X9_ofLink d lm RT F pm_X9_ofLink n) (48, 0, 0, 0, []) L st h := run_s rfl
theorem e_X9_ofLink (n : Nat) {pc : Nat} (hF : FOk E d F) (hx : run E g mi_X9_ofLink d lm RT F pm_X9_ofLink n pc L st h) : G E g mi_X9_ofLink d lm RT pc L st h := run_sound hF pk_X9_ofLink n pc L st h hx
end
def mi_X9_neighbours : MI := (9, cX9_neighbours, 4, 0, false)
theorem mo_X9_neighbours : miOk mi_X9_neighbours (mt 105) = true := by decide +kernel
def tl_X9_neighbours : List (Nat × PT) := [(0, (1, ((1 : Nat) : Int), 0, 1, [])),
  (1, (45, ((91 : Nat) : Int), ((1 : Nat) : Int), 4, [])),
  (4, (31, 1, ((9 : Nat) : Int), 7, [])),
  (7, (0, (-1), 0, 8, [])),
  (8, (48, 0, 0, 0, [])),
  (9, (0, 0, 0, 10, [])),
  (10, (4, ((2 : Nat) : Int), 0, 11, [])),
  (11, (0, 0, 0, 12, [])),
  (12, (4, ((3 : Nat) : Int), 0, 13, [])),
  (13, (1, ((3 : Nat) : Int), 0, 14, [])),
  (14, (0, 8, 0, 16, [])),
  (16, (32, 3, ((44 : Nat) : Int), 19, [])),
  (19, (1, ((2 : Nat) : Int), 0, 20, [])),
  (20, (2, ((0 : Nat) : Int), 0, 21, [])),
  (21, (1, ((1 : Nat) : Int), 0, 22, [])),
  (22, (1, ((3 : Nat) : Int), 0, 23, [])),
  (23, (52, ((92 : Nat) : Int), ((3 : Nat) : Int), 26, [9])),
  (26, (31, 0, ((35 : Nat) : Int), 29, [])),
  (29, (0, 1, 0, 30, [])),
  (30, (1, ((3 : Nat) : Int), 0, 31, [])),
  (31, (16, 0, 0, 32, [])),
  (32, (33, ((36 : Nat) : Int), 0, 0, [])),
  (35, (0, 0, 0, 36, [])),
  (36, (14, 0, 0, 37, [])),
  (37, (4, ((2 : Nat) : Int), 0, 38, [])),
  (38, (7, ((3 : Nat) : Int), 1, 41, [])),
  (41, (33, ((13 : Nat) : Int), 0, 0, [])),
  (44, (1, ((2 : Nat) : Int), 0, 45, [])),
  (45, (48, 0, 0, 0, []))]
theorem tk_X9_neighbours : tOk mi_X9_neighbours tl_X9_neighbours = true := by decide +kernel
def pm_X9_neighbours (pc : Nat) : Option PT := if [13].contains pc then none else tl_X9_neighbours.lookup pc
theorem pk_X9_neighbours : ∀ pc pt, pm_X9_neighbours pc = some pt → okPt mi_X9_neighbours pc pt := fun pc pt h => tOk_pm tk_X9_neighbours h
section
variable {E : ET} {g : GT} {d : Nat} {lm : Nat × Nat} {RT : RTy} {F : FT} {n : Nat} {L : LV} {st : List AV} {h : AH}
theorem r_X9_neighbours_0 : run E g mi_X9_neighbours d lm RT F pm_X9_neighbours (n + 1) 0 L st h = exI E d lm RT F (run E g mi_X9_neighbours d lm RT F pm_X9_neighbours n) (1, ((1 : Nat) : Int), 0, 1, []) L st h := run_s rfl
theorem r_X9_neighbours_1 : run E g mi_X9_neighbours d lm RT F pm_X9_neighbours (n + 1) 1 L st h = exI E d lm RT F (run E g mi_X9_neighbours d lm RT F pm_X9_neighbours n) (45, ((91 : Nat) : Int), ((1 : Nat) : Int), 4, []) L st h := run_s rfl
theorem r_X9_neighbours_4 : run E g mi_X9_neighbours d lm RT F pm_X9_neighbours (n + 1) 4 L st h = exI E d lm RT F (run E g mi_X9_neighbours d lm RT F pm_X9_neighbours n) (31, 1, ((9 : Nat) : Int), 7, []) L st h := run_s rfl
theorem r_X9_neighbours_7 : run E g mi_X9_neighbours d lm RT F pm_X9_neighbours (n + 1) 7 L st h = exI E d lm RT F (run E g mi_X9_neighbours d lm RT F pm_X9_neighbours n) (0, (-1), 0, 8, []) L st h := run_s rfl
theorem r_X9_neighbours_8 : run E g mi_X9_neighbours d lm RT F pm_X9_neighbours (n + 1) 8 L st h = exI E d lm RT F (run E g mi_X9_neighbours d lm RT F pm_X9_neighbours n) (48, 0, 0, 0, []) L st h := run_s rfl
theorem r_X9_neighbours_9 : run E g mi_X9_neighbours d lm RT F pm_X9_neighbours (n + 1) 9 L st h = exI E d lm RT F (run E g mi_X9_neighbours d lm RT F pm_X9_neighbours n) (0, 0, 0, 10, []) L st h := run_s rfl
theorem r_X9_neighbours_10 : run E g mi_X9_neighbours d lm RT F pm_X9_neighbours (n + 1) 10 L st h = exI E d lm RT F (run E g mi_X9_neighbours d lm RT F pm_X9_neighbours n) (4, ((2 : Nat) : Int), 0, 11, []) L st h := run_s rfl
theorem r_X9_neighbours_11 : run E g mi_X9_neighbours d lm RT F pm_X9_neighbours (n + 1) 11 L st h = exI E d lm RT F (run E g mi_X9_neighbours d lm RT F pm_X9_neighbours n) (0, 0, 0, 12, []) L st h := run_s rfl
theorem r_X9_neighbours_12 : run E g mi_X9_neighbours d lm RT F pm_X9_neighbours (n + 1) 12 L st h = exI E d lm RT F (run E g mi_X9_neighbours d lm RT F pm_X9_neighbours n) (4, ((3 : Nat) : Int), 0, 13, []) L st h := run_s rfl
theorem r_X9_neighbours_13 : run E g mi_X9_neighbours d lm RT F pm_X9_neighbours (n + 1) 13 L st h = G E g mi_X9_neighbours d lm RT 13 L st h := run_c rfl
theorem q_X9_neighbours_13 (n : Nat) (hF : FOk E d F) (hx : exI E d lm RT F (run E g mi_X9_neighbours d lm RT F pm_X9_neighbours n) (1, ((3 : Nat) : Int), 0, 14, []) L st h) : G E g mi_X9_neighbours d lm RT 13 L st h := sstep hF (tOk_spec tk_X9_neighbours (by decide +kernel)) (run_sound hF pk_X9_neighbours n) hx
theorem r_X9_neighbours_14 : run E g mi_X9_neighbours d lm RT F pm_X9_neighbours (n + 1) 14 L st h = exI E d lm RT F (run E g mi_X9_neighbours d lm RT F pm_X9_neighbours n) (0, 8, 0, 16, []) L st h := run_s rfl
theorem r_X9_neighbours_16 : run E g mi_X9_neighbours d lm RT F pm_X9_neighbours (n + 1) 16 L st h = exI E d lm RT F (run E g mi_X9_neighbours d lm RT F pm_X9_neighbours n) (32, 3, ((44 : Nat) : Int), 19, []) L st h := run_s rfl
theorem r_X9_neighbours_19 : run E g mi_X9_neighbours d lm RT F pm_X9_neighbours (n + 1) 19 L st h = exI E d lm RT F (run E g mi_X9_neighbours d lm RT F pm_X9_neighbours n) (1, ((2 : Nat) : Int), 0, 20, []) L st h := run_s rfl
theorem r_X9_neighbours_20 : run E g mi_X9_neighbours d lm RT F pm_X9_neighbours (n + 1) 20 L st h = exI E d lm RT F (run E g mi_X9_neighbours d lm RT F pm_X9_neighbours n) (2, ((0 : Nat) : Int), 0, 21, []) L st h := run_s rfl
theorem r_X9_neighbours_21 : run E g mi_X9_neighbours d lm RT F pm_X9_neighbours (n + 1) 21 L st h = exI E d lm RT F (run E g mi_X9_neighbours d lm RT F pm_X9_neighbours n) (1, ((1 : Nat) : Int), 0, 22, []) L st h := run_s rfl
theorem r_X9_neighbours_22 : run E g mi_X9_neighbours d lm RT F pm_X9_neighbours (n + 1) 22 L st h = exI E d lm RT F (run E g mi_X9_neighbours d lm RT F pm_X9_neighbours n) (1, ((3 : Nat) : Int), 0, 23, []) L st h := run_s rfl
theorem r_X9_neighbours_23 : run E g mi_X9_neighbours d lm RT F pm_X9_neighbours (n + 1) 23 L st h = exI E d lm RT F (run E g mi_X9_neighbours d lm RT F pm_X9_neighbours n) (52, ((92 : Nat) : Int), ((3 : Nat) : Int), 26, [9]) L st h := run_s rfl
theorem r_X9_neighbours_26 : run E g mi_X9_neighbours d lm RT F pm_X9_neighbours (n + 1) 26 L st h = exI E d lm RT F (run E g mi_X9_neighbours d lm RT F pm_X9_neighbours n) (31, 0, ((35 : Nat) : Int), 29, []) L st h := run_s rfl
theorem r_X9_neighbours_29 : run E g mi_X9_neighbours d lm RT F pm_X9_neighbours (n + 1) 29 L st h = exI E d lm RT F (run E g mi_X9_neighbours d lm RT F pm_X9_neighbours n) (0, 1, 0, 30, []) L st h := run_s rfl
theorem r_X9_neighbours_30 : run E g mi_X9_neighbours d lm RT F pm_X9_neighbours (n + 1) 30 L st h = exI E d lm RT F (run E g mi_X9_neighbours d lm RT F pm_X9_neighbours n) (1, ((3 : Nat) : Int), 0, 31, []) L st h := run_s rfl
theorem r_X9_neighbours_31 : run E g mi_X9_neighbours d lm RT F pm_X9_neighbours (n + 1) 31 L st h = exI E d lm RT F (run E g mi_X9_neighbours d lm RT F pm_X9_neighbours n) (16, 0, 0, 32, []) L st h := run_s rfl
theorem r_X9_neighbours_32 : run E g mi_X9_neighbours d lm RT F pm_X9_neighbours (n + 1) 32 L st h = exI E d lm RT F (run E g mi_X9_neighbours d lm RT F pm_X9_neighbours n) (33, ((36 : Nat) : Int), 0, 0, []) L st h := run_s rfl
theorem r_X9_neighbours_35 : run E g mi_X9_neighbours d lm RT F pm_X9_neighbours (n + 1) 35 L st h = exI E d lm RT F (run E g mi_X9_neighbours d lm RT F pm_X9_neighbours n) (0, 0, 0, 36, []) L st h := run_s rfl
theorem r_X9_neighbours_36 : run E g mi_X9_neighbours d lm RT F pm_X9_neighbours (n + 1) 36 L st h = exI E d lm RT F (run E g mi_X9_neighbours d lm RT F pm_X9_neighbours n) (14, 0, 0, 37, []) L st h := run_s rfl
theorem r_X9_neighbours_37 : run E g mi_X9_neighbours d lm RT F pm_X9_neighbours (n + 1) 37 L st h = exI E d lm RT F (run E g mi_X9_neighbours d lm RT F pm_X9_neighbours n) (4, ((2 : Nat) : Int), 0, 38, []) L st h := run_s rfl
theorem r_X9_neighbours_38 : run E g mi_X9_neighbours d lm RT F pm_X9_neighbours (n + 1) 38 L st h = exI E d lm RT F (run E g mi_X9_neighbours d lm RT F pm_X9_neighbours n) (7, ((3 : Nat) : Int), 1, 41, []) L st h := run_s rfl
theorem r_X9_neighbours_41 : run E g mi_X9_neighbours d lm RT F pm_X9_neighbours (n + 1) 41 L st h = exI E d lm RT F (run E g mi_X9_neighbours d lm RT F pm_X9_neighbours n) (33, ((13 : Nat) : Int), 0, 0, []) L st h := run_s rfl
theorem r_X9_neighbours_44 : run E g mi_X9_neighbours d lm RT F pm_X9_neighbours (n + 1) 44 L st h = exI E d lm RT F (run E g mi_X9_neighbours d lm RT F pm_X9_neighbours n) (1, ((2 : Nat) : Int), 0, 45, []) L st h := run_s rfl
theorem r_X9_neighbours_45 : run E g mi_X9_neighbours d lm RT F pm_X9_neighbours (n + 1) 45 L st h = exI E d lm RT F (run E g mi_X9_neighbours d lm RT F pm_X9_neighbours n) (48, 0, 0, 0, []) L st h := run_s rfl
theorem e_X9_neighbours (n : Nat) {pc : Nat} (hF : FOk E d F) (hx : run E g mi_X9_neighbours d lm RT F pm_X9_neighbours n pc L st h) : G E g mi_X9_neighbours d lm RT pc L st h := run_sound hF pk_X9_neighbours n pc L st h hx
end
def mi_X9_share : MI := (9, cX9_share, 4, 0, false)
theorem mo_X9_share : miOk mi_X9_share (mt 106) = true := by decide +kernel
def tl_X9_share : List (Nat × PT) := [(0, (1, ((1 : Nat) : Int), 0, 1, [])),
  (1, (45, ((91 : Nat) : Int), ((1 : Nat) : Int), 4, [])),
  (4, (31, 0, ((21 : Nat) : Int), 7, [])),
  (7, (1, ((2 : Nat) : Int), 0, 8, [])),
  (8, (45, ((91 : Nat) : Int), ((1 : Nat) : Int), 11, [])),
  (11, (31, 0, ((21 : Nat) : Int), 14, [])),
  (14, (1, ((3 : Nat) : Int), 0, 15, [])),
  (15, (45, ((91 : Nat) : Int), ((1 : Nat) : Int), 18, [])),
  (18, (31, 1, ((23 : Nat) : Int), 21, [])),
  (21, (0, (-1), 0, 22, [])),
  (22, (48, 0, 0, 0, [])),
  (23, (1, ((1 : Nat) : Int), 0, 24, [])),
  (24, (1, ((2 : Nat) : Int), 0, 25, [])),
  (25, (32, 1, ((31 : Nat) : Int), 28, [])),
  (28, (0, (-3), 0, 30, [])),
  (30, (48, 0, 0, 0, [])),
  (31, (2, ((0 : Nat) : Int), 0, 32, [])),
  (32, (1, ((1 : Nat) : Int), 0, 33, [])),
  (33, (1, ((3 : Nat) : Int), 0, 34, [])),
  (34, (52, ((92 : Nat) : Int), ((3 : Nat) : Int), 37, [9])),
  (37, (31, 0, ((55 : Nat) : Int), 40, [])),
  (40, (2, ((0 : Nat) : Int), 0, 41, [])),
  (41, (35, ((9 : Nat) : Int), ((5 : Nat) : Int), 44, [])),
  (44, (1, ((1 : Nat) : Int), 0, 45, [])),
  (45, (1, ((2 : Nat) : Int), 0, 46, [])),
  (46, (45, ((94 : Nat) : Int), ((2 : Nat) : Int), 49, [])),
  (49, (1, ((3 : Nat) : Int), 0, 50, [])),
  (50, (8, 0, 0, 51, [])),
  (51, (38, 0, 0, 52, [])),
  (52, (33, ((57 : Nat) : Int), 0, 0, [])),
  (55, (0, (-9), 0, 57, [])),
  (57, (48, 0, 0, 0, []))]
theorem tk_X9_share : tOk mi_X9_share tl_X9_share = true := by decide +kernel
def pm_X9_share (pc : Nat) : Option PT := if [].contains pc then none else tl_X9_share.lookup pc
theorem pk_X9_share : ∀ pc pt, pm_X9_share pc = some pt → okPt mi_X9_share pc pt := fun pc pt h => tOk_pm tk_X9_share h
section
variable {E : ET} {g : GT} {d : Nat} {lm : Nat × Nat} {RT : RTy} {F : FT} {n : Nat} {L : LV} {st : List AV} {h : AH}
theorem r_X9_share_0 : run E g mi_X9_share d lm RT F pm_X9_share (n + 1) 0 L st h = exI E d lm RT F (run E g mi_X9_share d lm RT F pm_X9_share n) (1, ((1 : Nat) : Int), 0, 1, []) L st h := run_s rfl
theorem r_X9_share_1 : run E g mi_X9_share d lm RT F pm_X9_share (n + 1) 1 L st h = exI E d lm RT F (run E g mi_X9_share d lm RT F pm_X9_share n) (45, ((91 : Nat) : Int), ((1 : Nat) : Int), 4, []) L st h := run_s rfl
theorem r_X9_share_4 : run E g mi_X9_share d lm RT F pm_X9_share (n + 1) 4 L st h = exI E d lm RT F (run E g mi_X9_share d lm RT F pm_X9_share n) (31, 0, ((21 : Nat) : Int), 7, []) L st h := run_s rfl
theorem r_X9_share_7 : run E g mi_X9_share d lm RT F pm_X9_share (n + 1) 7 L st h = exI E d lm RT F (run E g mi_X9_share d lm RT F pm_X9_share n) (1, ((2 : Nat) : Int), 0, 8, []) L st h := run_s rfl
theorem r_X9_share_8 : run E g mi_X9_share d lm RT F pm_X9_share (n + 1) 8 L st h = exI E d lm RT F (run E g mi_X9_share d lm RT F pm_X9_share n) (45, ((91 : Nat) : Int), ((1 : Nat) : Int), 11, []) L st h := run_s rfl
theorem r_X9_share_11 : run E g mi_X9_share d lm RT F pm_X9_share (n + 1) 11 L st h = exI E d lm RT F (run E g mi_X9_share d lm RT F pm_X9_share n) (31, 0, ((21 : Nat) : Int), 14, []) L st h := run_s rfl
theorem r_X9_share_14 : run E g mi_X9_share d lm RT F pm_X9_share (n + 1) 14 L st h = exI E d lm RT F (run E g mi_X9_share d lm RT F pm_X9_share n) (1, ((3 : Nat) : Int), 0, 15, []) L st h := run_s rfl
theorem r_X9_share_15 : run E g mi_X9_share d lm RT F pm_X9_share (n + 1) 15 L st h = exI E d lm RT F (run E g mi_X9_share d lm RT F pm_X9_share n) (45, ((91 : Nat) : Int), ((1 : Nat) : Int), 18, []) L st h := run_s rfl
theorem r_X9_share_18 : run E g mi_X9_share d lm RT F pm_X9_share (n + 1) 18 L st h = exI E d lm RT F (run E g mi_X9_share d lm RT F pm_X9_share n) (31, 1, ((23 : Nat) : Int), 21, []) L st h := run_s rfl
theorem r_X9_share_21 : run E g mi_X9_share d lm RT F pm_X9_share (n + 1) 21 L st h = exI E d lm RT F (run E g mi_X9_share d lm RT F pm_X9_share n) (0, (-1), 0, 22, []) L st h := run_s rfl
theorem r_X9_share_22 : run E g mi_X9_share d lm RT F pm_X9_share (n + 1) 22 L st h = exI E d lm RT F (run E g mi_X9_share d lm RT F pm_X9_share n) (48, 0, 0, 0, []) L st h := run_s rfl
theorem r_X9_share_23 : run E g mi_X9_share d lm RT F pm_X9_share (n + 1) 23 L st h = exI E d lm RT F (run E g mi_X9_share d lm RT F pm_X9_share n) (1, ((1 : Nat) : Int), 0, 24, []) L st h := run_s rfl
theorem r_X9_share_24 : run E g mi_X9_share d lm RT F pm_X9_share (n + 1) 24 L st h = exI E d lm RT F (run E g mi_X9_share d lm RT F pm_X9_share n) (1, ((2 : Nat) : Int), 0, 25, []) L st h := run_s rfl
theorem r_X9_share_25 : run E g mi_X9_share d lm RT F pm_X9_share (n + 1) 25 L st h = exI E d lm RT F (run E g mi_X9_share d lm RT F pm_X9_share n) (32, 1, ((31 : Nat) : Int), 28, []) L st h := run_s rfl
theorem r_X9_share_28 : run E g mi_X9_share d lm RT F pm_X9_share (n + 1) 28 L st h = exI E d lm RT F (run E g mi_X9_share d lm RT F pm_X9_share n) (0, (-3), 0, 30, []) L st h := run_s rfl
theorem r_X9_share_30 : run E g mi_X9_share d lm RT F pm_X9_share (n + 1) 30 L st h = exI E d lm RT F (run E g mi_X9_share d lm RT F pm_X9_share n) (48, 0, 0, 0, []) L st h := run_s rfl
theorem r_X9_share_31 : run E g mi_X9_share d lm RT F pm_X9_share (n + 1) 31 L st h = exI E d lm RT F (run E g mi_X9_share d lm RT F pm_X9_share n) (2, ((0 : Nat) : Int), 0, 32, []) L st h := run_s rfl
theorem r_X9_share_32 : run E g mi_X9_share d lm RT F pm_X9_share (n + 1) 32 L st h = exI E d lm RT F (run E g mi_X9_share d lm RT F pm_X9_share n) (1, ((1 : Nat) : Int), 0, 33, []) L st h := run_s rfl
theorem r_X9_share_33 : run E g mi_X9_share d lm RT F pm_X9_share (n + 1) 33 L st h = exI E d lm RT F (run E g mi_X9_share d lm RT F pm_X9_share n) (1, ((3 : Nat) : Int), 0, 34, []) L st h := run_s rfl
theorem r_X9_share_34 : run E g mi_X9_share d lm RT F pm_X9_share (n + 1) 34 L st h = exI E d lm RT F (run E g mi_X9_share d lm RT F pm_X9_share n) (52, ((92 : Nat) : Int), ((3 : Nat) : Int), 37, [9]) L st h := run_s rfl
theorem r_X9_share_37 : run E g mi_X9_share d lm RT F pm_X9_share (n + 1) 37 L st h = exI E d lm RT F (run E g mi_X9_share d lm RT F pm_X9_share n) (31, 0, ((55 : Nat) : Int), 40, []) L st h := run_s rfl
theorem r_X9_share_40 : run E g mi_X9_share d lm RT F pm_X9_share (n + 1) 40 L st h = exI E d lm RT F (run E g mi_X9_share d lm RT F pm_X9_share n) (2, ((0 : Nat) : Int), 0, 41, []) L st h := run_s rfl
theorem r_X9_share_41 : run E g mi_X9_share d lm RT F pm_X9_share (n + 1) 41 L st h = exI E d lm RT F (run E g mi_X9_share d lm RT F pm_X9_share n) (35, ((9 : Nat) : Int), ((5 : Nat) : Int), 44, []) L st h := run_s rfl
theorem r_X9_share_44 : run E g mi_X9_share d lm RT F pm_X9_share (n + 1) 44 L st h = exI E d lm RT F (run E g mi_X9_share d lm RT F pm_X9_share n) (1, ((1 : Nat) : Int), 0, 45, []) L st h := run_s rfl
theorem r_X9_share_45 : run E g mi_X9_share d lm RT F pm_X9_share (n + 1) 45 L st h = exI E d lm RT F (run E g mi_X9_share d lm RT F pm_X9_share n) (1, ((2 : Nat) : Int), 0, 46, []) L st h := run_s rfl
theorem r_X9_share_46 : run E g mi_X9_share d lm RT F pm_X9_share (n + 1) 46 L st h = exI E d lm RT F (run E g mi_X9_share d lm RT F pm_X9_share n) (45, ((94 : Nat) : Int), ((2 : Nat) : Int), 49, []) L st h := run_s rfl
theorem r_X9_share_49 : run E g mi_X9_share d lm RT F pm_X9_share (n + 1) 49 L st h = exI E d lm RT F (run E g mi_X9_share d lm RT F pm_X9_share n) (1, ((3 : Nat) : Int), 0, 50, []) L st h := run_s rfl
theorem r_X9_share_50 : run E g mi_X9_share d lm RT F pm_X9_share (n + 1) 50 L st h = exI E d lm RT F (run E g mi_X9_share d lm RT F pm_X9_share n) (8, 0, 0, 51, []) L st h := run_s rfl
theorem r_X9_share_51 : run E g mi_X9_share d lm RT F pm_X9_share (n + 1) 51 L st h = exI E d lm RT F (run E g mi_X9_share d lm RT F pm_X9_share n) (38, 0, 0, 52, []) L st h := run_s rfl
theorem r_X9_share_52 : run E g mi_X9_share d lm RT F pm_X9_share (n + 1) 52 L st h = exI E d lm RT F (run E g mi_X9_share d lm RT F pm_X9_share n) (33, ((57 : Nat) : Int), 0, 0, []) L st h := run_s rfl
theorem r_X9_share_55 : run E g mi_X9_share d lm RT F pm_X9_share (n + 1) 55 L st h = exI E d lm RT F (run E g mi_X9_share d lm RT F pm_X9_share n) (0, (-9), 0, 57, []) L st h := run_s rfl
theorem r_X9_share_57 : run E g mi_X9_share d lm RT F pm_X9_share (n + 1) 57 L st h = exI E d lm RT F (run E g mi_X9_share d lm RT F pm_X9_share n) (48, 0, 0, 0, []) L st h := run_s rfl
theorem e_X9_share (n : Nat) {pc : Nat} (hF : FOk E d F) (hx : run E g mi_X9_share d lm RT F pm_X9_share n pc L st h) : G E g mi_X9_share d lm RT pc L st h := run_sound hF pk_X9_share n pc L st h hx
end
def mi_X9_floor : MI := (9, cX9_floor, 3, 0, false)
theorem mo_X9_floor : miOk mi_X9_floor (mt 107) = true := by decide +kernel
def tl_X9_floor : List (Nat × PT) := [(0, (1, ((1 : Nat) : Int), 0, 1, [])),
  (1, (0, 0, 0, 2, [])),
  (2, (0, 100, 0, 4, [])),
  (4, (45, ((90 : Nat) : Int), ((3 : Nat) : Int), 7, [])),
  (7, (31, 1, ((13 : Nat) : Int), 10, [])),
  (10, (0, (-2), 0, 12, [])),
  (12, (48, 0, 0, 0, [])),
  (13, (2, ((0 : Nat) : Int), 0, 14, [])),
  (14, (35, ((9 : Nat) : Int), ((6 : Nat) : Int), 17, [])),
  (17, (4, ((2 : Nat) : Int), 0, 18, [])),
  (18, (2, ((0 : Nat) : Int), 0, 19, [])),
  (19, (1, ((1 : Nat) : Int), 0, 20, [])),
  (20, (36, ((9 : Nat) : Int), ((6 : Nat) : Int), 23, [0])),
  (23, (1, ((2 : Nat) : Int), 0, 24, [])),
  (24, (48, 0, 0, 0, []))]
theorem tk_X9_floor : tOk mi_X9_floor tl_X9_floor = true := by decide +kernel
def pm_X9_floor (pc : Nat) : Option PT := if [].contains pc then none else tl_X9_floor.lookup pc
theorem pk_X9_floor : ∀ pc pt, pm_X9_floor pc = some pt → okPt mi_X9_floor pc pt := fun pc pt h => tOk_pm tk_X9_floor h
section
variable {E : ET} {g : GT} {d : Nat} {lm : Nat × Nat} {RT : RTy} {F : FT} {n : Nat} {L : LV} {st : List AV} {h : AH}
theorem r_X9_floor_0 : run E g mi_X9_floor d lm RT F pm_X9_floor (n + 1) 0 L st h = exI E d lm RT F (run E g mi_X9_floor d lm RT F pm_X9_floor n) (1, ((1 : Nat) : Int), 0, 1, []) L st h := run_s rfl
theorem r_X9_floor_1 : run E g mi_X9_floor d lm RT F pm_X9_floor (n + 1) 1 L st h = exI E d lm RT F (run E g mi_X9_floor d lm RT F pm_X9_floor n) (0, 0, 0, 2, []) L st h := run_s rfl
theorem r_X9_floor_2 : run E g mi_X9_floor d lm RT F pm_X9_floor (n + 1) 2 L st h = exI E d lm RT F (run E g mi_X9_floor d lm RT F pm_X9_floor n) (0, 100, 0, 4, []) L st h := run_s rfl
theorem r_X9_floor_4 : run E g mi_X9_floor d lm RT F pm_X9_floor (n + 1) 4 L st h = exI E d lm RT F (run E g mi_X9_floor d lm RT F pm_X9_floor n) (45, ((90 : Nat) : Int), ((3 : Nat) : Int), 7, []) L st h := run_s rfl
theorem r_X9_floor_7 : run E g mi_X9_floor d lm RT F pm_X9_floor (n + 1) 7 L st h = exI E d lm RT F (run E g mi_X9_floor d lm RT F pm_X9_floor n) (31, 1, ((13 : Nat) : Int), 10, []) L st h := run_s rfl
theorem r_X9_floor_10 : run E g mi_X9_floor d lm RT F pm_X9_floor (n + 1) 10 L st h = exI E d lm RT F (run E g mi_X9_floor d lm RT F pm_X9_floor n) (0, (-2), 0, 12, []) L st h := run_s rfl
theorem r_X9_floor_12 : run E g mi_X9_floor d lm RT F pm_X9_floor (n + 1) 12 L st h = exI E d lm RT F (run E g mi_X9_floor d lm RT F pm_X9_floor n) (48, 0, 0, 0, []) L st h := run_s rfl
theorem r_X9_floor_13 : run E g mi_X9_floor d lm RT F pm_X9_floor (n + 1) 13 L st h = exI E d lm RT F (run E g mi_X9_floor d lm RT F pm_X9_floor n) (2, ((0 : Nat) : Int), 0, 14, []) L st h := run_s rfl
theorem r_X9_floor_14 : run E g mi_X9_floor d lm RT F pm_X9_floor (n + 1) 14 L st h = exI E d lm RT F (run E g mi_X9_floor d lm RT F pm_X9_floor n) (35, ((9 : Nat) : Int), ((6 : Nat) : Int), 17, []) L st h := run_s rfl
theorem r_X9_floor_17 : run E g mi_X9_floor d lm RT F pm_X9_floor (n + 1) 17 L st h = exI E d lm RT F (run E g mi_X9_floor d lm RT F pm_X9_floor n) (4, ((2 : Nat) : Int), 0, 18, []) L st h := run_s rfl
theorem r_X9_floor_18 : run E g mi_X9_floor d lm RT F pm_X9_floor (n + 1) 18 L st h = exI E d lm RT F (run E g mi_X9_floor d lm RT F pm_X9_floor n) (2, ((0 : Nat) : Int), 0, 19, []) L st h := run_s rfl
theorem r_X9_floor_19 : run E g mi_X9_floor d lm RT F pm_X9_floor (n + 1) 19 L st h = exI E d lm RT F (run E g mi_X9_floor d lm RT F pm_X9_floor n) (1, ((1 : Nat) : Int), 0, 20, []) L st h := run_s rfl
theorem r_X9_floor_20 : run E g mi_X9_floor d lm RT F pm_X9_floor (n + 1) 20 L st h = exI E d lm RT F (run E g mi_X9_floor d lm RT F pm_X9_floor n) (36, ((9 : Nat) : Int), ((6 : Nat) : Int), 23, [0]) L st h := run_s rfl
theorem r_X9_floor_23 : run E g mi_X9_floor d lm RT F pm_X9_floor (n + 1) 23 L st h = exI E d lm RT F (run E g mi_X9_floor d lm RT F pm_X9_floor n) (1, ((2 : Nat) : Int), 0, 24, []) L st h := run_s rfl
theorem r_X9_floor_24 : run E g mi_X9_floor d lm RT F pm_X9_floor (n + 1) 24 L st h = exI E d lm RT F (run E g mi_X9_floor d lm RT F pm_X9_floor n) (48, 0, 0, 0, []) L st h := run_s rfl
theorem e_X9_floor (n : Nat) {pc : Nat} (hF : FOk E d F) (hx : run E g mi_X9_floor d lm RT F pm_X9_floor n pc L st h) : G E g mi_X9_floor d lm RT pc L st h := run_sound hF pk_X9_floor n pc L st h hx
end
def mi_X9_gain : MI := (9, cX9_gain, 3, 0, false)
theorem mo_X9_gain : miOk mi_X9_gain (mt 108) = true := by decide +kernel
def tl_X9_gain : List (Nat × PT) := [(0, (1, ((1 : Nat) : Int), 0, 1, [])),
  (1, (0, 0, 0, 2, [])),
  (2, (0, 1000, 0, 5, [])),
  (5, (45, ((90 : Nat) : Int), ((3 : Nat) : Int), 8, [])),
  (8, (31, 1, ((14 : Nat) : Int), 11, [])),
  (11, (0, (-2), 0, 13, [])),
  (13, (48, 0, 0, 0, [])),
  (14, (2, ((0 : Nat) : Int), 0, 15, [])),
  (15, (35, ((9 : Nat) : Int), ((7 : Nat) : Int), 18, [])),
  (18, (4, ((2 : Nat) : Int), 0, 19, [])),
  (19, (2, ((0 : Nat) : Int), 0, 20, [])),
  (20, (1, ((1 : Nat) : Int), 0, 21, [])),
  (21, (36, ((9 : Nat) : Int), ((7 : Nat) : Int), 24, [0])),
  (24, (1, ((2 : Nat) : Int), 0, 25, [])),
  (25, (48, 0, 0, 0, []))]
theorem tk_X9_gain : tOk mi_X9_gain tl_X9_gain = true := by decide +kernel
def pm_X9_gain (pc : Nat) : Option PT := if [].contains pc then none else tl_X9_gain.lookup pc
theorem pk_X9_gain : ∀ pc pt, pm_X9_gain pc = some pt → okPt mi_X9_gain pc pt := fun pc pt h => tOk_pm tk_X9_gain h
section
variable {E : ET} {g : GT} {d : Nat} {lm : Nat × Nat} {RT : RTy} {F : FT} {n : Nat} {L : LV} {st : List AV} {h : AH}
theorem r_X9_gain_0 : run E g mi_X9_gain d lm RT F pm_X9_gain (n + 1) 0 L st h = exI E d lm RT F (run E g mi_X9_gain d lm RT F pm_X9_gain n) (1, ((1 : Nat) : Int), 0, 1, []) L st h := run_s rfl
theorem r_X9_gain_1 : run E g mi_X9_gain d lm RT F pm_X9_gain (n + 1) 1 L st h = exI E d lm RT F (run E g mi_X9_gain d lm RT F pm_X9_gain n) (0, 0, 0, 2, []) L st h := run_s rfl
theorem r_X9_gain_2 : run E g mi_X9_gain d lm RT F pm_X9_gain (n + 1) 2 L st h = exI E d lm RT F (run E g mi_X9_gain d lm RT F pm_X9_gain n) (0, 1000, 0, 5, []) L st h := run_s rfl
theorem r_X9_gain_5 : run E g mi_X9_gain d lm RT F pm_X9_gain (n + 1) 5 L st h = exI E d lm RT F (run E g mi_X9_gain d lm RT F pm_X9_gain n) (45, ((90 : Nat) : Int), ((3 : Nat) : Int), 8, []) L st h := run_s rfl
theorem r_X9_gain_8 : run E g mi_X9_gain d lm RT F pm_X9_gain (n + 1) 8 L st h = exI E d lm RT F (run E g mi_X9_gain d lm RT F pm_X9_gain n) (31, 1, ((14 : Nat) : Int), 11, []) L st h := run_s rfl
theorem r_X9_gain_11 : run E g mi_X9_gain d lm RT F pm_X9_gain (n + 1) 11 L st h = exI E d lm RT F (run E g mi_X9_gain d lm RT F pm_X9_gain n) (0, (-2), 0, 13, []) L st h := run_s rfl
theorem r_X9_gain_13 : run E g mi_X9_gain d lm RT F pm_X9_gain (n + 1) 13 L st h = exI E d lm RT F (run E g mi_X9_gain d lm RT F pm_X9_gain n) (48, 0, 0, 0, []) L st h := run_s rfl
theorem r_X9_gain_14 : run E g mi_X9_gain d lm RT F pm_X9_gain (n + 1) 14 L st h = exI E d lm RT F (run E g mi_X9_gain d lm RT F pm_X9_gain n) (2, ((0 : Nat) : Int), 0, 15, []) L st h := run_s rfl
theorem r_X9_gain_15 : run E g mi_X9_gain d lm RT F pm_X9_gain (n + 1) 15 L st h = exI E d lm RT F (run E g mi_X9_gain d lm RT F pm_X9_gain n) (35, ((9 : Nat) : Int), ((7 : Nat) : Int), 18, []) L st h := run_s rfl
theorem r_X9_gain_18 : run E g mi_X9_gain d lm RT F pm_X9_gain (n + 1) 18 L st h = exI E d lm RT F (run E g mi_X9_gain d lm RT F pm_X9_gain n) (4, ((2 : Nat) : Int), 0, 19, []) L st h := run_s rfl
theorem r_X9_gain_19 : run E g mi_X9_gain d lm RT F pm_X9_gain (n + 1) 19 L st h = exI E d lm RT F (run E g mi_X9_gain d lm RT F pm_X9_gain n) (2, ((0 : Nat) : Int), 0, 20, []) L st h := run_s rfl
theorem r_X9_gain_20 : run E g mi_X9_gain d lm RT F pm_X9_gain (n + 1) 20 L st h = exI E d lm RT F (run E g mi_X9_gain d lm RT F pm_X9_gain n) (1, ((1 : Nat) : Int), 0, 21, []) L st h := run_s rfl
theorem r_X9_gain_21 : run E g mi_X9_gain d lm RT F pm_X9_gain (n + 1) 21 L st h = exI E d lm RT F (run E g mi_X9_gain d lm RT F pm_X9_gain n) (36, ((9 : Nat) : Int), ((7 : Nat) : Int), 24, [0]) L st h := run_s rfl
theorem r_X9_gain_24 : run E g mi_X9_gain d lm RT F pm_X9_gain (n + 1) 24 L st h = exI E d lm RT F (run E g mi_X9_gain d lm RT F pm_X9_gain n) (1, ((2 : Nat) : Int), 0, 25, []) L st h := run_s rfl
theorem r_X9_gain_25 : run E g mi_X9_gain d lm RT F pm_X9_gain (n + 1) 25 L st h = exI E d lm RT F (run E g mi_X9_gain d lm RT F pm_X9_gain n) (48, 0, 0, 0, []) L st h := run_s rfl
theorem e_X9_gain (n : Nat) {pc : Nat} (hF : FOk E d F) (hx : run E g mi_X9_gain d lm RT F pm_X9_gain n pc L st h) : G E g mi_X9_gain d lm RT pc L st h := run_sound hF pk_X9_gain n pc L st h hx
end
