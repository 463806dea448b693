def mi_X9_shareOut : MI := (9, cX9_shareOut, 12, 4, false)
theorem mo_X9_shareOut : miOk mi_X9_shareOut (mt 109) = true := by decide +kernel
def tl_X9_shareOut : List (Nat × PT) := [(0, (27, 0, 0, 1, [])),
  (1, (6, ((6 : Nat) : Int), 0, 3, [])),
  (3, (0, 0, 0, 4, [])),
  (4, (4, ((8 : Nat) : Int), 0, 6, [])),
  (6, (1, ((8 : Nat) : Int), 0, 8, [])),
  (8, (0, 8, 0, 10, [])),
  (10, (32, 3, ((52 : Nat) : Int), 13, [])),
  (13, (3, ((6 : Nat) : Int), 0, 15, [])),
  (15, (2, ((0 : Nat) : Int), 0, 16, [])),
  (16, (1, ((1 : Nat) : Int), 0, 17, [])),
  (17, (1, ((8 : Nat) : Int), 0, 19, [])),
  (19, (52, ((92 : Nat) : Int), ((3 : Nat) : Int), 22, [9])),
  (22, (31, 0, ((42 : Nat) : Int), 25, [])),
  (25, (1, ((8 : Nat) : Int), 0, 27, [])),
  (27, (1, ((5 : Nat) : Int), 0, 29, [])),
  (29, (32, 0, ((42 : Nat) : Int), 32, [])),
  (32, (2, ((0 : Nat) : Int), 0, 33, [])),
  (33, (35, ((9 : Nat) : Int), ((8 : Nat) : Int), 36, [])),
  (36, (1, ((8 : Nat) : Int), 0, 38, [])),
  (38, (38, 2, 0, 39, [])),
  (39, (33, ((43 : Nat) : Int), 0, 0, [])),
  (42, (27, 0, 0, 43, [])),
  (43, (19, 0, 0, 44, [])),
  (44, (6, ((6 : Nat) : Int), 0, 46, [])),
  (46, (7, ((8 : Nat) : Int), 1, 49, [])),
  (49, (33, ((6 : Nat) : Int), 0, 0, [])),
  (52, (3, ((3 : Nat) : Int), 0, 53, [])),
  (53, (6, ((8 : Nat) : Int), 0, 55, [])),
  (55, (0, 0, 0, 56, [])),
  (56, (4, ((10 : Nat) : Int), 0, 58, [])),
  (58, (1, ((10 : Nat) : Int), 0, 60, [])),
  (60, (0, 8, 0, 62, [])),
  (62, (32, 3, ((154 : Nat) : Int), 65, [])),
  (65, (2, ((0 : Nat) : Int), 0, 66, [])),
  (66, (35, ((9 : Nat) : Int), ((9 : Nat) : Int), 69, [])),
  (69, (1, ((10 : Nat) : Int), 0, 71, [])),
  (71, (27, (-1), 0, 74, [])),
  (74, (39, 2, 0, 75, [])),
  (75, (2, ((0 : Nat) : Int), 0, 76, [])),
  (76, (1, ((1 : Nat) : Int), 0, 77, [])),
  (77, (1, ((10 : Nat) : Int), 0, 79, [])),
  (79, (52, ((92 : Nat) : Int), ((3 : Nat) : Int), 82, [9])),
  (82, (31, 0, ((148 : Nat) : Int), 85, [])),
  (85, (1, ((10 : Nat) : Int), 0, 87, [])),
  (87, (1, ((5 : Nat) : Int), 0, 89, [])),
  (89, (32, 0, ((148 : Nat) : Int), 92, [])),
  (92, (2, ((0 : Nat) : Int), 0, 93, [])),
  (93, (35, ((9 : Nat) : Int), ((5 : Nat) : Int), 96, [])),
  (96, (1, ((2 : Nat) : Int), 0, 97, [])),
  (97, (1, ((10 : Nat) : Int), 0, 99, [])),
  (99, (8, 0, 0, 100, [])),
  (100, (3, ((3 : Nat) : Int), 0, 101, [])),
  (101, (2, ((0 : Nat) : Int), 0, 102, [])),
  (102, (35, ((9 : Nat) : Int), ((8 : Nat) : Int), 105, [])),
  (105, (1, ((10 : Nat) : Int), 0, 107, [])),
  (107, (38, 2, 0, 108, [])),
  (108, (21, 0, 0, 109, [])),
  (109, (3, ((6 : Nat) : Int), 0, 111, [])),
  (111, (22, 0, 0, 112, [])),
  (112, (26, 0, 0, 113, [])),
  (113, (39, 0, 0, 114, [])),
  (114, (2, ((0 : Nat) : Int), 0, 115, [])),
  (115, (35, ((9 : Nat) : Int), ((9 : Nat) : Int), 118, [])),
  (118, (1, ((10 : Nat) : Int), 0, 120, [])),
  (120, (3, ((3 : Nat) : Int), 0, 121, [])),
  (121, (2, ((0 : Nat) : Int), 0, 122, [])),
  (122, (35, ((9 : Nat) : Int), ((8 : Nat) : Int), 125, [])),
  (125, (1, ((10 : Nat) : Int), 0, 127, [])),
  (127, (38, 2, 0, 128, [])),
  (128, (21, 0, 0, 129, [])),
  (129, (3, ((6 : Nat) : Int), 0, 131, [])),
  (131, (23, 0, 0, 132, [])),
  (132, (39, 2, 0, 133, [])),
  (133, (3, ((8 : Nat) : Int), 0, 135, [])),
  (135, (2, ((0 : Nat) : Int), 0, 136, [])),
  (136, (35, ((9 : Nat) : Int), ((5 : Nat) : Int), 139, [])),
  (139, (1, ((2 : Nat) : Int), 0, 140, [])),
  (140, (1, ((10 : Nat) : Int), 0, 142, [])),
  (142, (8, 0, 0, 143, [])),
  (143, (38, 0, 0, 144, [])),
  (144, (25, 0, 0, 145, [])),
  (145, (20, 0, 0, 146, [])),
  (146, (6, ((8 : Nat) : Int), 0, 148, [])),
  (148, (7, ((10 : Nat) : Int), 1, 151, [])),
  (151, (33, ((58 : Nat) : Int), 0, 0, [])),
  (154, (3, ((8 : Nat) : Int), 0, 156, [])),
  (156, (27, 0, 0, 157, [])),
  (157, (24, 0, 0, 158, [])),
  (158, (31, 5, ((239 : Nat) : Int), 161, [])),
  (161, (0, 0, 0, 162, [])),
  (162, (4, ((10 : Nat) : Int), 0, 164, [])),
  (164, (0, 1, 0, 165, [])),
  (165, (4, ((11 : Nat) : Int), 0, 167, [])),
  (167, (1, ((11 : Nat) : Int), 0, 169, [])),
  (169, (0, 8, 0, 171, [])),
  (171, (32, 3, ((207 : Nat) : Int), 174, [])),
  (174, (2, ((0 : Nat) : Int), 0, 175, [])),
  (175, (35, ((9 : Nat) : Int), ((9 : Nat) : Int), 178, [])),
  (178, (1, ((11 : Nat) : Int), 0, 180, [])),
  (180, (38, 2, 0, 181, [])),
  (181, (2, ((0 : Nat) : Int), 0, 182, [])),
  (182, (35, ((9 : Nat) : Int), ((9 : Nat) : Int), 185, [])),
  (185, (1, ((10 : Nat) : Int), 0, 187, [])),
  (187, (38, 2, 0, 188, [])),
  (188, (24, 0, 0, 189, [])),
  (189, (31, 5, ((197 : Nat) : Int), 192, [])),
  (192, (1, ((11 : Nat) : Int), 0, 194, [])),
  (194, (33, ((199 : Nat) : Int), 0, 0, [])),
  (197, (1, ((10 : Nat) : Int), 0, 199, [])),
  (199, (4, ((10 : Nat) : Int), 0, 201, [])),
  (201, (7, ((11 : Nat) : Int), 1, 204, [])),
  (204, (33, ((167 : Nat) : Int), 0, 0, [])),
  (207, (2, ((0 : Nat) : Int), 0, 208, [])),
  (208, (35, ((9 : Nat) : Int), ((5 : Nat) : Int), 211, [])),
  (211, (1, ((2 : Nat) : Int), 0, 212, [])),
  (212, (1, ((10 : Nat) : Int), 0, 214, [])),
  (214, (8, 0, 0, 215, [])),
  (215, (29, 0, 0, 216, [])),
  (216, (38, 0, 0, 217, [])),
  (217, (0, 1, 0, 218, [])),
  (218, (8, 0, 0, 219, [])),
  (219, (39, 0, 0, 220, [])),
  (220, (2, ((0 : Nat) : Int), 0, 221, [])),
  (221, (35, ((9 : Nat) : Int), ((9 : Nat) : Int), 224, [])),
  (224, (1, ((10 : Nat) : Int), 0, 226, [])),
  (226, (27, (-1), 0, 229, [])),
  (229, (39, 2, 0, 230, [])),
  (230, (3, ((8 : Nat) : Int), 0, 232, [])),
  (232, (27, 1, 0, 233, [])),
  (233, (20, 0, 0, 234, [])),
  (234, (6, ((8 : Nat) : Int), 0, 236, [])),
  (236, (33, ((154 : Nat) : Int), 0, 0, [])),
  (239, (48, 4, 0, 0, []))]
theorem tk_X9_shareOut_0 : tOk mi_X9_shareOut ((tl_X9_shareOut.drop 0).take 45) = true := by decide +kernel
theorem tk_X9_shareOut_1 : tOk mi_X9_shareOut ((tl_X9_shareOut.drop 45).take 45) = true := by decide +kernel
theorem tk_X9_shareOut_2 : tOk mi_X9_shareOut ((tl_X9_shareOut.drop 90).take 45) = true := by decide +kernel
theorem tk_X9_shareOut : tOk mi_X9_shareOut tl_X9_shareOut = true := by
  refine tOk_cut 45 (by decide) (fun q hq => ?_)
  have hl : tl_X9_shareOut.length = 133 := by decide +kernel
  rw [hl] at hq
  rcases (show q = 0 ∨ q = 1 ∨ q = 2 by omega) with rfl | rfl | rfl
  · exact tk_X9_shareOut_0
  · exact tk_X9_shareOut_1
  · exact tk_X9_shareOut_2
def pm_X9_shareOut (pc : Nat) : Option PT := if [6, 58, 154, 167].contains pc then none else tl_X9_shareOut.lookup pc
theorem pk_X9_shareOut : ∀ pc pt, pm_X9_shareOut pc = some pt → okPt mi_X9_shareOut pc pt := fun pc pt h => tOk_pm tk_X9_shareOut h
section
variable {E : ET} {g : GT} {d : Nat} {lm : Nat × Nat} {RT : RTy} {F : FT} {n : Nat} {L : LV} {st : List AV} {h : AH}
theorem r_X9_shareOut_0 : run E g mi_X9_shareOut d lm RT F pm_X9_shareOut (n + 1) 0 L st h = exI E d lm RT F (run E g mi_X9_shareOut d lm RT F pm_X9_shareOut n) (27, 0, 0, 1, []) L st h := run_s rfl
theorem r_X9_shareOut_1 : run E g mi_X9_shareOut d lm RT F pm_X9_shareOut (n + 1) 1 L st h = exI E d lm RT F (run E g mi_X9_shareOut d lm RT F pm_X9_shareOut n) (6, ((6 : Nat) : Int), 0, 3, []) L st h := run_s rfl
theorem r_X9_shareOut_3 : run E g mi_X9_shareOut d lm RT F pm_X9_shareOut (n + 1) 3 L st h = exI E d lm RT F (run E g mi_X9_shareOut d lm RT F pm_X9_shareOut n) (0, 0, 0, 4, []) L st h := run_s rfl
theorem r_X9_shareOut_4 : run E g mi_X9_shareOut d lm RT F pm_X9_shareOut (n + 1) 4 L st h = exI E d lm RT F (run E g mi_X9_shareOut d lm RT F pm_X9_shareOut n) (4, ((8 : Nat) : Int), 0, 6, []) L st h := run_s rfl
theorem r_X9_shareOut_6 : run E g mi_X9_shareOut d lm RT F pm_X9_shareOut (n + 1) 6 L st h = G E g mi_X9_shareOut d lm RT 6 L st h := run_c rfl
theorem q_X9_shareOut_6 (n : Nat) (hF : FOk E d F) (hx : exI E d lm RT F (run E g mi_X9_shareOut d lm RT F pm_X9_shareOut n) (1, ((8 : Nat) : Int), 0, 8, []) L st h) : G E g mi_X9_shareOut d lm RT 6 L st h := sstep hF (tOk_spec tk_X9_shareOut (by decide +kernel)) (run_sound hF pk_X9_shareOut n) hx
theorem r_X9_shareOut_8 : run E g mi_X9_shareOut d lm RT F pm_X9_shareOut (n + 1) 8 L st h = exI E d lm RT F (run E g mi_X9_shareOut d lm RT F pm_X9_shareOut n) (0, 8, 0, 10, []) L st h := run_s rfl
theorem r_X9_shareOut_10 : run E g mi_X9_shareOut d lm RT F pm_X9_shareOut (n + 1) 10 L st h = exI E d lm RT F (run E g mi_X9_shareOut d lm RT F pm_X9_shareOut n) (32, 3, ((52 : Nat) : Int), 13, []) L st h := run_s rfl
theorem r_X9_shareOut_13 : run E g mi_X9_shareOut d lm RT F pm_X9_shareOut (n + 1) 13 L st h = exI E d lm RT F (run E g mi_X9_shareOut d lm RT F pm_X9_shareOut n) (3, ((6 : Nat) : Int), 0, 15, []) L st h := run_s rfl
theorem r_X9_shareOut_15 : run E g mi_X9_shareOut d lm RT F pm_X9_shareOut (n + 1) 15 L st h = exI E d lm RT F (run E g mi_X9_shareOut d lm RT F pm_X9_shareOut n) (2, ((0 : Nat) : Int), 0, 16, []) L st h := run_s rfl
theorem r_X9_shareOut_16 : run E g mi_X9_shareOut d lm RT F pm_X9_shareOut (n + 1) 16 L st h = exI E d lm RT F (run E g mi_X9_shareOut d lm RT F pm_X9_shareOut n) (1, ((1 : Nat) : Int), 0, 17, []) L st h := run_s rfl
theorem r_X9_shareOut_17 : run E g mi_X9_shareOut d lm RT F pm_X9_shareOut (n + 1) 17 L st h = exI E d lm RT F (run E g mi_X9_shareOut d lm RT F pm_X9_shareOut n) (1, ((8 : Nat) : Int), 0, 19, []) L st h := run_s rfl
theorem r_X9_shareOut_19 : run E g mi_X9_shareOut d lm RT F pm_X9_shareOut (n + 1) 19 L st h = exI E d lm RT F (run E g mi_X9_shareOut d lm RT F pm_X9_shareOut n) (52, ((92 : Nat) : Int), ((3 : Nat) : Int), 22, [9]) L st h := run_s rfl
theorem r_X9_shareOut_22 : run E g mi_X9_shareOut d lm RT F pm_X9_shareOut (n + 1) 22 L st h = exI E d lm RT F (run E g mi_X9_shareOut d lm RT F pm_X9_shareOut n) (31, 0, ((42 : Nat) : Int), 25, []) L st h := run_s rfl
theorem r_X9_shareOut_25 : run E g mi_X9_shareOut d lm RT F pm_X9_shareOut (n + 1) 25 L st h = exI E d lm RT F (run E g mi_X9_shareOut d lm RT F pm_X9_shareOut n) (1, ((8 : Nat) : Int), 0, 27, []) L st h := run_s rfl
theorem r_X9_shareOut_27 : run E g mi_X9_shareOut d lm RT F pm_X9_shareOut (n + 1) 27 L st h = exI E d lm RT F (run E g mi_X9_shareOut d lm RT F pm_X9_shareOut n) (1, ((5 : Nat) : Int), 0, 29, []) L st h := run_s rfl
theorem r_X9_shareOut_29 : run E g mi_X9_shareOut d lm RT F pm_X9_shareOut (n + 1) 29 L st h = exI E d lm RT F (run E g mi_X9_shareOut d lm RT F pm_X9_shareOut n) (32, 0, ((42 : Nat) : Int), 32, []) L st h := run_s rfl
theorem r_X9_shareOut_32 : run E g mi_X9_shareOut d lm RT F pm_X9_shareOut (n + 1) 32 L st h = exI E d lm RT F (run E g mi_X9_shareOut d lm RT F pm_X9_shareOut n) (2, ((0 : Nat) : Int), 0, 33, []) L st h := run_s rfl
theorem r_X9_shareOut_33 : run E g mi_X9_shareOut d lm RT F pm_X9_shareOut (n + 1) 33 L st h = exI E d lm RT F (run E g mi_X9_shareOut d lm RT F pm_X9_shareOut n) (35, ((9 : Nat) : Int), ((8 : Nat) : Int), 36, []) L st h := run_s rfl
theorem r_X9_shareOut_36 : run E g mi_X9_shareOut d lm RT F pm_X9_shareOut (n + 1) 36 L st h = exI E d lm RT F (run E g mi_X9_shareOut d lm RT F pm_X9_shareOut n) (1, ((8 : Nat) : Int), 0, 38, []) L st h := run_s rfl
theorem r_X9_shareOut_38 : run E g mi_X9_shareOut d lm RT F pm_X9_shareOut (n + 1) 38 L st h = exI E d lm RT F (run E g mi_X9_shareOut d lm RT F pm_X9_shareOut n) (38, 2, 0, 39, []) L st h := run_s rfl
theorem r_X9_shareOut_39 : run E g mi_X9_shareOut d lm RT F pm_X9_shareOut (n + 1) 39 L st h = exI E d lm RT F (run E g mi_X9_shareOut d lm RT F pm_X9_shareOut n) (33, ((43 : Nat) : Int), 0, 0, []) L st h := run_s rfl
theorem r_X9_shareOut_42 : run E g mi_X9_shareOut d lm RT F pm_X9_shareOut (n + 1) 42 L st h = exI E d lm RT F (run E g mi_X9_shareOut d lm RT F pm_X9_shareOut n) (27, 0, 0, 43, []) L st h := run_s rfl
theorem r_X9_shareOut_43 : run E g mi_X9_shareOut d lm RT F pm_X9_shareOut (n + 1) 43 L st h = exI E d lm RT F (run E g mi_X9_shareOut d lm RT F pm_X9_shareOut n) (19, 0, 0, 44, []) L st h := run_s rfl
theorem r_X9_shareOut_44 : run E g mi_X9_shareOut d lm RT F pm_X9_shareOut (n + 1) 44 L st h = exI E d lm RT F (run E g mi_X9_shareOut d lm RT F pm_X9_shareOut n) (6, ((6 : Nat) : Int), 0, 46, []) L st h := run_s rfl
theorem r_X9_shareOut_46 : run E g mi_X9_shareOut d lm RT F pm_X9_shareOut (n + 1) 46 L st h = exI E d lm RT F (run E g mi_X9_shareOut d lm RT F pm_X9_shareOut n) (7, ((8 : Nat) : Int), 1, 49, []) L st h := run_s rfl
theorem r_X9_shareOut_49 : run E g mi_X9_shareOut d lm RT F pm_X9_shareOut (n + 1) 49 L st h = exI E d lm RT F (run E g mi_X9_shareOut d lm RT F pm_X9_shareOut n) (33, ((6 : Nat) : Int), 0, 0, []) L st h := run_s rfl
theorem r_X9_shareOut_52 : run E g mi_X9_shareOut d lm RT F pm_X9_shareOut (n + 1) 52 L st h = exI E d lm RT F (run E g mi_X9_shareOut d lm RT F pm_X9_shareOut n) (3, ((3 : Nat) : Int), 0, 53, []) L st h := run_s rfl
theorem r_X9_shareOut_53 : run E g mi_X9_shareOut d lm RT F pm_X9_shareOut (n + 1) 53 L st h = exI E d lm RT F (run E g mi_X9_shareOut d lm RT F pm_X9_shareOut n) (6, ((8 : Nat) : Int), 0, 55, []) L st h := run_s rfl
theorem r_X9_shareOut_55 : run E g mi_X9_shareOut d lm RT F pm_X9_shareOut (n + 1) 55 L st h = exI E d lm RT F (run E g mi_X9_shareOut d lm RT F pm_X9_shareOut n) (0, 0, 0, 56, []) L st h := run_s rfl
theorem r_X9_shareOut_56 : run E g mi_X9_shareOut d lm RT F pm_X9_shareOut (n + 1) 56 L st h = exI E d lm RT F (run E g mi_X9_shareOut d lm RT F pm_X9_shareOut n) (4, ((10 : Nat) : Int), 0, 58, []) L st h := run_s rfl
theorem r_X9_shareOut_58 : run E g mi_X9_shareOut d lm RT F pm_X9_shareOut (n + 1) 58 L st h = G E g mi_X9_shareOut d lm RT 58 L st h := run_c rfl
theorem q_X9_shareOut_58 (n : Nat) (hF : FOk E d F) (hx : exI E d lm RT F (run E g mi_X9_shareOut d lm RT F pm_X9_shareOut n) (1, ((10 : Nat) : Int), 0, 60, []) L st h) : G E g mi_X9_shareOut d lm RT 58 L st h := sstep hF (tOk_spec tk_X9_shareOut (by decide +kernel)) (run_sound hF pk_X9_shareOut n) hx
theorem r_X9_shareOut_60 : run E g mi_X9_shareOut d lm RT F pm_X9_shareOut (n + 1) 60 L st h = exI E d lm RT F (run E g mi_X9_shareOut d lm RT F pm_X9_shareOut n) (0, 8, 0, 62, []) L st h := run_s rfl
theorem r_X9_shareOut_62 : run E g mi_X9_shareOut d lm RT F pm_X9_shareOut (n + 1) 62 L st h = exI E d lm RT F (run E g mi_X9_shareOut d lm RT F pm_X9_shareOut n) (32, 3, ((154 : Nat) : Int), 65, []) L st h := run_s rfl
theorem r_X9_shareOut_65 : run E g mi_X9_shareOut d lm RT F pm_X9_shareOut (n + 1) 65 L st h = exI E d lm RT F (run E g mi_X9_shareOut d lm RT F pm_X9_shareOut n) (2, ((0 : Nat) : Int), 0, 66, []) L st h := run_s rfl
theorem r_X9_shareOut_66 : run E g mi_X9_shareOut d lm RT F pm_X9_shareOut (n + 1) 66 L st h = exI E d lm RT F (run E g mi_X9_shareOut d lm RT F pm_X9_shareOut n) (35, ((9 : Nat) : Int), ((9 : Nat) : Int), 69, []) L st h := run_s rfl
theorem r_X9_shareOut_69 : run E g mi_X9_shareOut d lm RT F pm_X9_shareOut (n + 1) 69 L st h = exI E d lm RT F (run E g mi_X9_shareOut d lm RT F pm_X9_shareOut n) (1, ((10 : Nat) : Int), 0, 71, []) L st h := run_s rfl
theorem r_X9_shareOut_71 : run E g mi_X9_shareOut d lm RT F pm_X9_shareOut (n + 1) 71 L st h = exI E d lm RT F (run E g mi_X9_shareOut d lm RT F pm_X9_shareOut n) (27, (-1), 0, 74, []) L st h := run_s rfl
theorem r_X9_shareOut_74 : run E g mi_X9_shareOut d lm RT F pm_X9_shareOut (n + 1) 74 L st h = exI E d lm RT F (run E g mi_X9_shareOut d lm RT F pm_X9_shareOut n) (39, 2, 0, 75, []) L st h := run_s rfl
theorem r_X9_shareOut_75 : run E g mi_X9_shareOut d lm RT F pm_X9_shareOut (n + 1) 75 L st h = exI E d lm RT F (run E g mi_X9_shareOut d lm RT F pm_X9_shareOut n) (2, ((0 : Nat) : Int), 0, 76, []) L st h := run_s rfl
theorem r_X9_shareOut_76 : run E g mi_X9_shareOut d lm RT F pm_X9_shareOut (n + 1) 76 L st h = exI E d lm RT F (run E g mi_X9_shareOut d lm RT F pm_X9_shareOut n) (1, ((1 : Nat) : Int), 0, 77, []) L st h := run_s rfl
theorem r_X9_shareOut_77 : run E g mi_X9_shareOut d lm RT F pm_X9_shareOut (n + 1) 77 L st h = exI E d lm RT F (run E g mi_X9_shareOut d lm RT F pm_X9_shareOut n) (1, ((10 : Nat) : Int), 0, 79, []) L st h := run_s rfl
theorem r_X9_shareOut_79 : run E g mi_X9_shareOut d lm RT F pm_X9_shareOut (n + 1) 79 L st h = exI E d lm RT F (run E g mi_X9_shareOut d lm RT F pm_X9_shareOut n) (52, ((92 : Nat) : Int), ((3 : Nat) : Int), 82, [9]) L st h := run_s rfl
theorem r_X9_shareOut_82 : run E g mi_X9_shareOut d lm RT F pm_X9_shareOut (n + 1) 82 L st h = exI E d lm RT F (run E g mi_X9_shareOut d lm RT F pm_X9_shareOut n) (31, 0, ((148 : Nat) : Int), 85, []) L st h := run_s rfl
theorem r_X9_shareOut_85 : run E g mi_X9_shareOut d lm RT F pm_X9_shareOut (n + 1) 85 L st h = exI E d lm RT F (run E g mi_X9_shareOut d lm RT F pm_X9_shareOut n) (1, ((10 : Nat) : Int), 0, 87, []) L st h := run_s rfl
theorem r_X9_shareOut_87 : run E g mi_X9_shareOut d lm RT F pm_X9_shareOut (n + 1) 87 L st h = exI E d lm RT F (run E g mi_X9_shareOut d lm RT F pm_X9_shareOut n) (1, ((5 : Nat) : Int), 0, 89, []) L st h := run_s rfl
theorem r_X9_shareOut_89 : run E g mi_X9_shareOut d lm RT F pm_X9_shareOut (n + 1) 89 L st h = exI E d lm RT F (run E g mi_X9_shareOut d lm RT F pm_X9_shareOut n) (32, 0, ((148 : Nat) : Int), 92, []) L st h := run_s rfl
theorem r_X9_shareOut_92 : run E g mi_X9_shareOut d lm RT F pm_X9_shareOut (n + 1) 92 L st h = exI E d lm RT F (run E g mi_X9_shareOut d lm RT F pm_X9_shareOut n) (2, ((0 : Nat) : Int), 0, 93, []) L st h := run_s rfl
theorem r_X9_shareOut_93 : run E g mi_X9_shareOut d lm RT F pm_X9_shareOut (n + 1) 93 L st h = exI E d lm RT F (run E g mi_X9_shareOut d lm RT F pm_X9_shareOut n) (35, ((9 : Nat) : Int), ((5 : Nat) : Int), 96, []) L st h := run_s rfl
theorem r_X9_shareOut_96 : run E g mi_X9_shareOut d lm RT F pm_X9_shareOut (n + 1) 96 L st h = exI E d lm RT F (run E g mi_X9_shareOut d lm RT F pm_X9_shareOut n) (1, ((2 : Nat) : Int), 0, 97, []) L st h := run_s rfl
theorem r_X9_shareOut_97 : run E g mi_X9_shareOut d lm RT F pm_X9_shareOut (n + 1) 97 L st h = exI E d lm RT F (run E g mi_X9_shareOut d lm RT F pm_X9_shareOut n) (1, ((10 : Nat) : Int), 0, 99, []) L st h := run_s rfl
theorem r_X9_shareOut_99 : run E g mi_X9_shareOut d lm RT F pm_X9_shareOut (n + 1) 99 L st h = exI E d lm RT F (run E g mi_X9_shareOut d lm RT F pm_X9_shareOut n) (8, 0, 0, 100, []) L st h := run_s rfl
theorem r_X9_shareOut_100 : run E g mi_X9_shareOut d lm RT F pm_X9_shareOut (n + 1) 100 L st h = exI E d lm RT F (run E g mi_X9_shareOut d lm RT F pm_X9_shareOut n) (3, ((3 : Nat) : Int), 0, 101, []) L st h := run_s rfl
theorem r_X9_shareOut_101 : run E g mi_X9_shareOut d lm RT F pm_X9_shareOut (n + 1) 101 L st h = exI E d lm RT F (run E g mi_X9_shareOut d lm RT F pm_X9_shareOut n) (2, ((0 : Nat) : Int), 0, 102, []) L st h := run_s rfl
theorem r_X9_shareOut_102 : run E g mi_X9_shareOut d lm RT F pm_X9_shareOut (n + 1) 102 L st h = exI E d lm RT F (run E g mi_X9_shareOut d lm RT F pm_X9_shareOut n) (35, ((9 : Nat) : Int), ((8 : Nat) : Int), 105, []) L st h := run_s rfl
theorem r_X9_shareOut_105 : run E g mi_X9_shareOut d lm RT F pm_X9_shareOut (n + 1) 105 L st h = exI E d lm RT F (run E g mi_X9_shareOut d lm RT F pm_X9_shareOut n) (1, ((10 : Nat) : Int), 0, 107, []) L st h := run_s rfl
theorem r_X9_shareOut_107 : run E g mi_X9_shareOut d lm RT F pm_X9_shareOut (n + 1) 107 L st h = exI E d lm RT F (run E g mi_X9_shareOut d lm RT F pm_X9_shareOut n) (38, 2, 0, 108, []) L st h := run_s rfl
theorem r_X9_shareOut_108 : run E g mi_X9_shareOut d lm RT F pm_X9_shareOut (n + 1) 108 L st h = exI E d lm RT F (run E g mi_X9_shareOut d lm RT F pm_X9_shareOut n) (21, 0, 0, 109, []) L st h := run_s rfl
theorem r_X9_shareOut_109 : run E g mi_X9_shareOut d lm RT F pm_X9_shareOut (n + 1) 109 L st h = exI E d lm RT F (run E g mi_X9_shareOut d lm RT F pm_X9_shareOut n) (3, ((6 : Nat) : Int), 0, 111, []) L st h := run_s rfl
theorem r_X9_shareOut_111 : run E g mi_X9_shareOut d lm RT F pm_X9_shareOut (n + 1) 111 L st h = exI E d lm RT F (run E g mi_X9_shareOut d lm RT F pm_X9_shareOut n) (22, 0, 0, 112, []) L st h := run_s rfl
theorem r_X9_shareOut_112 : run E g mi_X9_shareOut d lm RT F pm_X9_shareOut (n + 1) 112 L st h = exI E d lm RT F (run E g mi_X9_shareOut d lm RT F pm_X9_shareOut n) (26, 0, 0, 113, []) L st h := run_s rfl
theorem r_X9_shareOut_113 : run E g mi_X9_shareOut d lm RT F pm_X9_shareOut (n + 1) 113 L st h = exI E d lm RT F (run E g mi_X9_shareOut d lm RT F pm_X9_shareOut n) (39, 0, 0, 114, []) L st h := run_s rfl
theorem r_X9_shareOut_114 : run E g mi_X9_shareOut d lm RT F pm_X9_shareOut (n + 1) 114 L st h = exI E d lm RT F (run E g mi_X9_shareOut d lm RT F pm_X9_shareOut n) (2, ((0 : Nat) : Int), 0, 115, []) L st h := run_s rfl
theorem r_X9_shareOut_115 : run E g mi_X9_shareOut d lm RT F pm_X9_shareOut (n + 1) 115 L st h = exI E d lm RT F (run E g mi_X9_shareOut d lm RT F pm_X9_shareOut n) (35, ((9 : Nat) : Int), ((9 : Nat) : Int), 118, []) L st h := run_s rfl
theorem r_X9_shareOut_118 : run E g mi_X9_shareOut d lm RT F pm_X9_shareOut (n + 1) 118 L st h = exI E d lm RT F (run E g mi_X9_shareOut d lm RT F pm_X9_shareOut n) (1, ((10 : Nat) : Int), 0, 120, []) L st h := run_s rfl
theorem r_X9_shareOut_120 : run E g mi_X9_shareOut d lm RT F pm_X9_shareOut (n + 1) 120 L st h = exI E d lm RT F (run E g mi_X9_shareOut d lm RT F pm_X9_shareOut n) (3, ((3 : Nat) : Int), 0, 121, []) L st h := run_s rfl
theorem r_X9_shareOut_121 : run E g mi_X9_shareOut d lm RT F pm_X9_shareOut (n + 1) 121 L st h = exI E d lm RT F (run E g mi_X9_shareOut d lm RT F pm_X9_shareOut n) (2, ((0 : Nat) : Int), 0, 122, []) L st h := run_s rfl
theorem r_X9_shareOut_122 : run E g mi_X9_shareOut d lm RT F pm_X9_shareOut (n + 1) 122 L st h = exI E d lm RT F (run E g mi_X9_shareOut d lm RT F pm_X9_shareOut n) (35, ((9 : Nat) : Int), ((8 : Nat) : Int), 125, []) L st h := run_s rfl
theorem r_X9_shareOut_125 : run E g mi_X9_shareOut d lm RT F pm_X9_shareOut (n + 1) 125 L st h = exI E d lm RT F (run E g mi_X9_shareOut d lm RT F pm_X9_shareOut n) (1, ((10 : Nat) : Int), 0, 127, []) L st h := run_s rfl
theorem r_X9_shareOut_127 : run E g mi_X9_shareOut d lm RT F pm_X9_shareOut (n + 1) 127 L st h = exI E d lm RT F (run E g mi_X9_shareOut d lm RT F pm_X9_shareOut n) (38, 2, 0, 128, []) L st h := run_s rfl
theorem r_X9_shareOut_128 : run E g mi_X9_shareOut d lm RT F pm_X9_shareOut (n + 1) 128 L st h = exI E d lm RT F (run E g mi_X9_shareOut d lm RT F pm_X9_shareOut n) (21, 0, 0, 129, []) L st h := run_s rfl
theorem r_X9_shareOut_129 : run E g mi_X9_shareOut d lm RT F pm_X9_shareOut (n + 1) 129 L st h = exI E d lm RT F (run E g mi_X9_shareOut d lm RT F pm_X9_shareOut n) (3, ((6 : Nat) : Int), 0, 131, []) L st h := run_s rfl
theorem r_X9_shareOut_131 : run E g mi_X9_shareOut d lm RT F pm_X9_shareOut (n + 1) 131 L st h = exI E d lm RT F (run E g mi_X9_shareOut d lm RT F pm_X9_shareOut n) (23, 0, 0, 132, []) L st h := run_s rfl
theorem r_X9_shareOut_132 : run E g mi_X9_shareOut d lm RT F pm_X9_shareOut (n + 1) 132 L st h = exI E d lm RT F (run E g mi_X9_shareOut d lm RT F pm_X9_shareOut n) (39, 2, 0, 133, []) L st h := run_s rfl
theorem r_X9_shareOut_133 : run E g mi_X9_shareOut d lm RT F pm_X9_shareOut (n + 1) 133 L st h = exI E d lm RT F (run E g mi_X9_shareOut d lm RT F pm_X9_shareOut n) (3, ((8 : Nat) : Int), 0, 135, []) L st h := run_s rfl
theorem r_X9_shareOut_135 : run E g mi_X9_shareOut d lm RT F pm_X9_shareOut (n + 1) 135 L st h = exI E d lm RT F (run E g mi_X9_shareOut d lm RT F pm_X9_shareOut n) (2, ((0 : Nat) : Int), 0, 136, []) L st h := run_s rfl
theorem r_X9_shareOut_136 : run E g mi_X9_shareOut d lm RT F pm_X9_shareOut (n + 1) 136 L st h = exI E d lm RT F (run E g mi_X9_shareOut d lm RT F pm_X9_shareOut n) (35, ((9 : Nat) : Int), ((5 : Nat) : Int), 139, []) L st h := run_s rfl
theorem r_X9_shareOut_139 : run E g mi_X9_shareOut d lm RT F pm_X9_shareOut (n + 1) 139 L st h = exI E d lm RT F (run E g mi_X9_shareOut d lm RT F pm_X9_shareOut n) (1, ((2 : Nat) : Int), 0, 140, []) L st h := run_s rfl
theorem r_X9_shareOut_140 : run E g mi_X9_shareOut d lm RT F pm_X9_shareOut (n + 1) 140 L st h = exI E d lm RT F (run E g mi_X9_shareOut d lm RT F pm_X9_shareOut n) (1, ((10 : Nat) : Int), 0, 142, []) L st h := run_s rfl
theorem r_X9_shareOut_142 : run E g mi_X9_shareOut d lm RT F pm_X9_shareOut (n + 1) 142 L st h = exI E d lm RT F (run E g mi_X9_shareOut d lm RT F pm_X9_shareOut n) (8, 0, 0, 143, []) L st h := run_s rfl
theorem r_X9_shareOut_143 : run E g mi_X9_shareOut d lm RT F pm_X9_shareOut (n + 1) 143 L st h = exI E d lm RT F (run E g mi_X9_shareOut d lm RT F pm_X9_shareOut n) (38, 0, 0, 144, []) L st h := run_s rfl
theorem r_X9_shareOut_144 : run E g mi_X9_shareOut d lm RT F pm_X9_shareOut (n + 1) 144 L st h = exI E d lm RT F (run E g mi_X9_shareOut d lm RT F pm_X9_shareOut n) (25, 0, 0, 145, []) L st h := run_s rfl
theorem r_X9_shareOut_145 : run E g mi_X9_shareOut d lm RT F pm_X9_shareOut (n + 1) 145 L st h = exI E d lm RT F (run E g mi_X9_shareOut d lm RT F pm_X9_shareOut n) (20, 0, 0, 146, []) L st h := run_s rfl
theorem r_X9_shareOut_146 : run E g mi_X9_shareOut d lm RT F pm_X9_shareOut (n + 1) 146 L st h = exI E d lm RT F (run E g mi_X9_shareOut d lm RT F pm_X9_shareOut n) (6, ((8 : Nat) : Int), 0, 148, []) L st h := run_s rfl
theorem r_X9_shareOut_148 : run E g mi_X9_shareOut d lm RT F pm_X9_shareOut (n + 1) 148 L st h = exI E d lm RT F (run E g mi_X9_shareOut d lm RT F pm_X9_shareOut n) (7, ((10 : Nat) : Int), 1, 151, []) L st h := run_s rfl
theorem r_X9_shareOut_151 : run E g mi_X9_shareOut d lm RT F pm_X9_shareOut (n + 1) 151 L st h = exI E d lm RT F (run E g mi_X9_shareOut d lm RT F pm_X9_shareOut n) (33, ((58 : Nat) : Int), 0, 0, []) L st h := run_s rfl
theorem r_X9_shareOut_154 : run E g mi_X9_shareOut d lm RT F pm_X9_shareOut (n + 1) 154 L st h = G E g mi_X9_shareOut d lm RT 154 L st h := run_c rfl
theorem q_X9_shareOut_154 (n : Nat) (hF : FOk E d F) (hx : exI E d lm RT F (run E g mi_X9_shareOut d lm RT F pm_X9_shareOut n) (3, ((8 : Nat) : Int), 0, 156, []) L st h) : G E g mi_X9_shareOut d lm RT 154 L st h := sstep hF (tOk_spec tk_X9_shareOut (by decide +kernel)) (run_sound hF pk_X9_shareOut n) hx
theorem r_X9_shareOut_156 : run E g mi_X9_shareOut d lm RT F pm_X9_shareOut (n + 1) 156 L st h = exI E d lm RT F (run E g mi_X9_shareOut d lm RT F pm_X9_shareOut n) (27, 0, 0, 157, []) L st h := run_s rfl
theorem r_X9_shareOut_157 : run E g mi_X9_shareOut d lm RT F pm_X9_shareOut (n + 1) 157 L st h = exI E d lm RT F (run E g mi_X9_shareOut d lm RT F pm_X9_shareOut n) (24, 0, 0, 158, []) L st h := run_s rfl
theorem r_X9_shareOut_158 : run E g mi_X9_shareOut d lm RT F pm_X9_shareOut (n + 1) 158 L st h = exI E d lm RT F (run E g mi_X9_shareOut d lm RT F pm_X9_shareOut n) (31, 5, ((239 : Nat) : Int), 161, []) L st h := run_s rfl
theorem r_X9_shareOut_161 : run E g mi_X9_shareOut d lm RT F pm_X9_shareOut (n + 1) 161 L st h = exI E d lm RT F (run E g mi_X9_shareOut d lm RT F pm_X9_shareOut n) (0, 0, 0, 162, []) L st h := run_s rfl
theorem r_X9_shareOut_162 : run E g mi_X9_shareOut d lm RT F pm_X9_shareOut (n + 1) 162 L st h = exI E d lm RT F (run E g mi_X9_shareOut d lm RT F pm_X9_shareOut n) (4, ((10 : Nat) : Int), 0, 164, []) L st h := run_s rfl
theorem r_X9_shareOut_164 : run E g mi_X9_shareOut d lm RT F pm_X9_shareOut (n + 1) 164 L st h = exI E d lm RT F (run E g mi_X9_shareOut d lm RT F pm_X9_shareOut n) (0, 1, 0, 165, []) L st h := run_s rfl
theorem r_X9_shareOut_165 : run E g mi_X9_shareOut d lm RT F pm_X9_shareOut (n + 1) 165 L st h = exI E d lm RT F (run E g mi_X9_shareOut d lm RT F pm_X9_shareOut n) (4, ((11 : Nat) : Int), 0, 167, []) L st h := run_s rfl
theorem r_X9_shareOut_167 : run E g mi_X9_shareOut d lm RT F pm_X9_shareOut (n + 1) 167 L st h = G E g mi_X9_shareOut d lm RT 167 L st h := run_c rfl
theorem q_X9_shareOut_167 (n : Nat) (hF : FOk E d F) (hx : exI E d lm RT F (run E g mi_X9_shareOut d lm RT F pm_X9_shareOut n) (1, ((11 : Nat) : Int), 0, 169, []) L st h) : G E g mi_X9_shareOut d lm RT 167 L st h := sstep hF (tOk_spec tk_X9_shareOut (by decide +kernel)) (run_sound hF pk_X9_shareOut n) hx
theorem r_X9_shareOut_169 : run E g mi_X9_shareOut d lm RT F pm_X9_shareOut (n + 1) 169 L st h = exI E d lm RT F (run E g mi_X9_shareOut d lm RT F pm_X9_shareOut n) (0, 8, 0, 171, []) L st h := run_s rfl
theorem r_X9_shareOut_171 : run E g mi_X9_shareOut d lm RT F pm_X9_shareOut (n + 1) 171 L st h = exI E d lm RT F (run E g mi_X9_shareOut d lm RT F pm_X9_shareOut n) (32, 3, ((207 : Nat) : Int), 174, []) L st h := run_s rfl
theorem r_X9_shareOut_174 : run E g mi_X9_shareOut d lm RT F pm_X9_shareOut (n + 1) 174 L st h = exI E d lm RT F (run E g mi_X9_shareOut d lm RT F pm_X9_shareOut n) (2, ((0 : Nat) : Int), 0, 175, []) L st h := run_s rfl
theorem r_X9_shareOut_175 : run E g mi_X9_shareOut d lm RT F pm_X9_shareOut (n + 1) 175 L st h = exI E d lm RT F (run E g mi_X9_shareOut d lm RT F pm_X9_shareOut n) (35, ((9 : Nat) : Int), ((9 : Nat) : Int), 178, []) L st h := run_s rfl
theorem r_X9_shareOut_178 : run E g mi_X9_shareOut d lm RT F pm_X9_shareOut (n + 1) 178 L st h = exI E d lm RT F (run E g mi_X9_shareOut d lm RT F pm_X9_shareOut n) (1, ((11 : Nat) : Int), 0, 180, []) L st h := run_s rfl
theorem r_X9_shareOut_180 : run E g mi_X9_shareOut d lm RT F pm_X9_shareOut (n + 1) 180 L st h = exI E d lm RT F (run E g mi_X9_shareOut d lm RT F pm_X9_shareOut n) (38, 2, 0, 181, []) L st h := run_s rfl
theorem r_X9_shareOut_181 : run E g mi_X9_shareOut d lm RT F pm_X9_shareOut (n + 1) 181 L st h = exI E d lm RT F (run E g mi_X9_shareOut d lm RT F pm_X9_shareOut n) (2, ((0 : Nat) : Int), 0, 182, []) L st h := run_s rfl
theorem r_X9_shareOut_182 : run E g mi_X9_shareOut d lm RT F pm_X9_shareOut (n + 1) 182 L st h = exI E d lm RT F (run E g mi_X9_shareOut d lm RT F pm_X9_shareOut n) (35, ((9 : Nat) : Int), ((9 : Nat) : Int), 185, []) L st h := run_s rfl
theorem r_X9_shareOut_185 : run E g mi_X9_shareOut d lm RT F pm_X9_shareOut (n + 1) 185 L st h = exI E d lm RT F (run E g mi_X9_shareOut d lm RT F pm_X9_shareOut n) (1, ((10 : Nat) : Int), 0, 187, []) L st h := run_s rfl
theorem r_X9_shareOut_187 : run E g mi_X9_shareOut d lm RT F pm_X9_shareOut (n + 1) 187 L st h = exI E d lm RT F (run E g mi_X9_shareOut d lm RT F pm_X9_shareOut n) (38, 2, 0, 188, []) L st h := run_s rfl
theorem r_X9_shareOut_188 : run E g mi_X9_shareOut d lm RT F pm_X9_shareOut (n + 1) 188 L st h = exI E d lm RT F (run E g mi_X9_shareOut d lm RT F pm_X9_shareOut n) (24, 0, 0, 189, []) L st h := run_s rfl
theorem r_X9_shareOut_189 : run E g mi_X9_shareOut d lm RT F pm_X9_shareOut (n + 1) 189 L st h = exI E d lm RT F (run E g mi_X9_shareOut d lm RT F pm_X9_shareOut n) (31, 5, ((197 : Nat) : Int), 192, []) L st h := run_s rfl
theorem r_X9_shareOut_192 : run E g mi_X9_shareOut d lm RT F pm_X9_shareOut (n + 1) 192 L st h = exI E d lm RT F (run E g mi_X9_shareOut d lm RT F pm_X9_shareOut n) (1, ((11 : Nat) : Int), 0, 194, []) L st h := run_s rfl
theorem r_X9_shareOut_194 : run E g mi_X9_shareOut d lm RT F pm_X9_shareOut (n + 1) 194 L st h = exI E d lm RT F (run E g mi_X9_shareOut d lm RT F pm_X9_shareOut n) (33, ((199 : Nat) : Int), 0, 0, []) L st h := run_s rfl
theorem r_X9_shareOut_197 : run E g mi_X9_shareOut d lm RT F pm_X9_shareOut (n + 1) 197 L st h = exI E d lm RT F (run E g mi_X9_shareOut d lm RT F pm_X9_shareOut n) (1, ((10 : Nat) : Int), 0, 199, []) L st h := run_s rfl
theorem r_X9_shareOut_199 : run E g mi_X9_shareOut d lm RT F pm_X9_shareOut (n + 1) 199 L st h = exI E d lm RT F (run E g mi_X9_shareOut d lm RT F pm_X9_shareOut n) (4, ((10 : Nat) : Int), 0, 201, []) L st h := run_s rfl
theorem r_X9_shareOut_201 : run E g mi_X9_shareOut d lm RT F pm_X9_shareOut (n + 1) 201 L st h = exI E d lm RT F (run E g mi_X9_shareOut d lm RT F pm_X9_shareOut n) (7, ((11 : Nat) : Int), 1, 204, []) L st h := run_s rfl
theorem r_X9_shareOut_204 : run E g mi_X9_shareOut d lm RT F pm_X9_shareOut (n + 1) 204 L st h = exI E d lm RT F (run E g mi_X9_shareOut d lm RT F pm_X9_shareOut n) (33, ((167 : Nat) : Int), 0, 0, []) L st h := run_s rfl
theorem r_X9_shareOut_207 : run E g mi_X9_shareOut d lm RT F pm_X9_shareOut (n + 1) 207 L st h = exI E d lm RT F (run E g mi_X9_shareOut d lm RT F pm_X9_shareOut n) (2, ((0 : Nat) : Int), 0, 208, []) L st h := run_s rfl
theorem r_X9_shareOut_208 : run E g mi_X9_shareOut d lm RT F pm_X9_shareOut (n + 1) 208 L st h = exI E d lm RT F (run E g mi_X9_shareOut d lm RT F pm_X9_shareOut n) (35, ((9 : Nat) : Int), ((5 : Nat) : Int), 211, []) L st h := run_s rfl
theorem r_X9_shareOut_211 : run E g mi_X9_shareOut d lm RT F pm_X9_shareOut (n + 1) 211 L st h = exI E d lm RT F (run E g mi_X9_shareOut d lm RT F pm_X9_shareOut n) (1, ((2 : Nat) : Int), 0, 212, []) L st h := run_s rfl
theorem r_X9_shareOut_212 : run E g mi_X9_shareOut d lm RT F pm_X9_shareOut (n + 1) 212 L st h = exI E d lm RT F (run E g mi_X9_shareOut d lm RT F pm_X9_shareOut n) (1, ((10 : Nat) : Int), 0, 214, []) L st h := run_s rfl
theorem r_X9_shareOut_214 : run E g mi_X9_shareOut d lm RT F pm_X9_shareOut (n + 1) 214 L st h = exI E d lm RT F (run E g mi_X9_shareOut d lm RT F pm_X9_shareOut n) (8, 0, 0, 215, []) L st h := run_s rfl
theorem r_X9_shareOut_215 : run E g mi_X9_shareOut d lm RT F pm_X9_shareOut (n + 1) 215 L st h = exI E d lm RT F (run E g mi_X9_shareOut d lm RT F pm_X9_shareOut n) (29, 0, 0, 216, []) L st h := run_s rfl
theorem r_X9_shareOut_216 : run E g mi_X9_shareOut d lm RT F pm_X9_shareOut (n + 1) 216 L st h = exI E d lm RT F (run E g mi_X9_shareOut d lm RT F pm_X9_shareOut n) (38, 0, 0, 217, []) L st h := run_s rfl
theorem r_X9_shareOut_217 : run E g mi_X9_shareOut d lm RT F pm_X9_shareOut (n + 1) 217 L st h = exI E d lm RT F (run E g mi_X9_shareOut d lm RT F pm_X9_shareOut n) (0, 1, 0, 218, []) L st h := run_s rfl
theorem r_X9_shareOut_218 : run E g mi_X9_shareOut d lm RT F pm_X9_shareOut (n + 1) 218 L st h = exI E d lm RT F (run E g mi_X9_shareOut d lm RT F pm_X9_shareOut n) (8, 0, 0, 219, []) L st h := run_s rfl
theorem r_X9_shareOut_219 : run E g mi_X9_shareOut d lm RT F pm_X9_shareOut (n + 1) 219 L st h = exI E d lm RT F (run E g mi_X9_shareOut d lm RT F pm_X9_shareOut n) (39, 0, 0, 220, []) L st h := run_s rfl
theorem r_X9_shareOut_220 : run E g mi_X9_shareOut d lm RT F pm_X9_shareOut (n + 1) 220 L st h = exI E d lm RT F (run E g mi_X9_shareOut d lm RT F pm_X9_shareOut n) (2, ((0 : Nat) : Int), 0, 221, []) L st h := run_s rfl
theorem r_X9_shareOut_221 : run E g mi_X9_shareOut d lm RT F pm_X9_shareOut (n + 1) 221 L st h = exI E d lm RT F (run E g mi_X9_shareOut d lm RT F pm_X9_shareOut n) (35, ((9 : Nat) : Int), ((9 : Nat) : Int), 224, []) L st h := run_s rfl
theorem r_X9_shareOut_224 : run E g mi_X9_shareOut d lm RT F pm_X9_shareOut (n + 1) 224 L st h = exI E d lm RT F (run E g mi_X9_shareOut d lm RT F pm_X9_shareOut n) (1, ((10 : Nat) : Int), 0, 226, []) L st h := run_s rfl
theorem r_X9_shareOut_226 : run E g mi_X9_shareOut d lm RT F pm_X9_shareOut (n + 1) 226 L st h = exI E d lm RT F (run E g mi_X9_shareOut d lm RT F pm_X9_shareOut n) (27, (-1), 0, 229, []) L st h := run_s rfl
theorem r_X9_shareOut_229 : run E g mi_X9_shareOut d lm RT F pm_X9_shareOut (n + 1) 229 L st h = exI E d lm RT F (run E g mi_X9_shareOut d lm RT F pm_X9_shareOut n) (39, 2, 0, 230, []) L st h := run_s rfl
theorem r_X9_shareOut_230 : run E g mi_X9_shareOut d lm RT F pm_X9_shareOut (n + 1) 230 L st h = exI E d lm RT F (run E g mi_X9_shareOut d lm RT F pm_X9_shareOut n) (3, ((8 : Nat) : Int), 0, 232, []) L st h := run_s rfl
theorem r_X9_shareOut_232 : run E g mi_X9_shareOut d lm RT F pm_X9_shareOut (n + 1) 232 L st h = exI E d lm RT F (run E g mi_X9_shareOut d lm RT F pm_X9_shareOut n) (27, 1, 0, 233, []) L st h := run_s rfl
theorem r_X9_shareOut_233 : run E g mi_X9_shareOut d lm RT F pm_X9_shareOut (n + 1) 233 L st h = exI E d lm RT F (run E g mi_X9_shareOut d lm RT F pm_X9_shareOut n) (20, 0, 0, 234, []) L st h := run_s rfl
theorem r_X9_shareOut_234 : run E g mi_X9_shareOut d lm RT F pm_X9_shareOut (n + 1) 234 L st h = exI E d lm RT F (run E g mi_X9_shareOut d lm RT F pm_X9_shareOut n) (6, ((8 : Nat) : Int), 0, 236, []) L st h := run_s rfl
theorem r_X9_shareOut_236 : run E g mi_X9_shareOut d lm RT F pm_X9_shareOut (n + 1) 236 L st h = exI E d lm RT F (run E g mi_X9_shareOut d lm RT F pm_X9_shareOut n) (33, ((154 : Nat) : Int), 0, 0, []) L st h := run_s rfl
theorem r_X9_shareOut_239 : run E g mi_X9_shareOut d lm RT F pm_X9_shareOut (n + 1) 239 L st h = exI E d lm RT F (run E g mi_X9_shareOut d lm RT F pm_X9_shareOut n) (48, 4, 0, 0, []) L st h := run_s rfl
theorem e_X9_shareOut (n : Nat) {pc : Nat} (hF : FOk E d F) (hx : run E g mi_X9_shareOut d lm RT F pm_X9_shareOut n pc L st h) : G E g mi_X9_shareOut d lm RT pc L st h := run_sound hF pk_X9_shareOut n pc L st h hx
end
def mi_X9_greatest : MI := (9, cX9_greatest, 6, 0, false)
theorem mo_X9_greatest : miOk mi_X9_greatest (mt 110) = true := by decide +kernel
def tl_X9_greatest : List (Nat × PT) := [(0, (0, (-9), 0, 2, [])),
  (2, (4, ((3 : Nat) : Int), 0, 3, [])),
  (3, (0, 0, 0, 4, [])),
  (4, (4, ((4 : Nat) : Int), 0, 6, [])),
  (6, (1, ((4 : Nat) : Int), 0, 8, [])),
  (8, (0, 8, 0, 10, [])),
  (10, (32, 3, ((74 : Nat) : Int), 13, [])),
  (13, (2, ((0 : Nat) : Int), 0, 14, [])),
  (14, (1, ((1 : Nat) : Int), 0, 15, [])),
  (15, (1, ((4 : Nat) : Int), 0, 17, [])),
  (17, (52, ((92 : Nat) : Int), ((3 : Nat) : Int), 20, [9])),
  (20, (31, 0, ((53 : Nat) : Int), 23, [])),
  (23, (1, ((3 : Nat) : Int), 0, 24, [])),
  (24, (0, (-9), 0, 26, [])),
  (26, (32, 0, ((49 : Nat) : Int), 29, [])),
  (29, (2, ((0 : Nat) : Int), 0, 30, [])),
  (30, (35, ((9 : Nat) : Int), ((5 : Nat) : Int), 33, [])),
  (33, (1, ((2 : Nat) : Int), 0, 34, [])),
  (34, (1, ((4 : Nat) : Int), 0, 36, [])),
  (36, (8, 0, 0, 37, [])),
  (37, (38, 0, 0, 38, [])),
  (38, (2, ((0 : Nat) : Int), 0, 39, [])),
  (39, (35, ((9 : Nat) : Int), ((5 : Nat) : Int), 42, [])),
  (42, (1, ((2 : Nat) : Int), 0, 43, [])),
  (43, (1, ((3 : Nat) : Int), 0, 44, [])),
  (44, (8, 0, 0, 45, [])),
  (45, (38, 0, 0, 46, [])),
  (46, (32, 5, ((53 : Nat) : Int), 49, [])),
  (49, (0, 1, 0, 50, [])),
  (50, (33, ((54 : Nat) : Int), 0, 0, [])),
  (53, (0, 0, 0, 54, [])),
  (54, (4, ((5 : Nat) : Int), 0, 56, [])),
  (56, (1, ((5 : Nat) : Int), 0, 58, [])),
  (58, (31, 0, ((66 : Nat) : Int), 61, [])),
  (61, (1, ((4 : Nat) : Int), 0, 63, [])),
  (63, (33, ((67 : Nat) : Int), 0, 0, [])),
  (66, (1, ((3 : Nat) : Int), 0, 67, [])),
  (67, (4, ((3 : Nat) : Int), 0, 68, [])),
  (68, (7, ((4 : Nat) : Int), 1, 71, [])),
  (71, (33, ((6 : Nat) : Int), 0, 0, [])),
  (74, (1, ((3 : Nat) : Int), 0, 75, [])),
  (75, (48, 0, 0, 0, []))]
theorem tk_X9_greatest : tOk mi_X9_greatest tl_X9_greatest = true := by decide +kernel
def pm_X9_greatest (pc : Nat) : Option PT := if [6].contains pc then none else tl_X9_greatest.lookup pc
theorem pk_X9_greatest : ∀ pc pt, pm_X9_greatest pc = some pt → okPt mi_X9_greatest pc pt := fun pc pt h => tOk_pm tk_X9_greatest h
section
variable {E : ET} {g : GT} {d : Nat} {lm : Nat × Nat} {RT : RTy} {F : FT} {n : Nat} {L : LV} {st : List AV} {h : AH}
theorem r_X9_greatest_0 : run E g mi_X9_greatest d lm RT F pm_X9_greatest (n + 1) 0 L st h = exI E d lm RT F (run E g mi_X9_greatest d lm RT F pm_X9_greatest n) (0, (-9), 0, 2, []) L st h := run_s rfl
theorem r_X9_greatest_2 : run E g mi_X9_greatest d lm RT F pm_X9_greatest (n + 1) 2 L st h = exI E d lm RT F (run E g mi_X9_greatest d lm RT F pm_X9_greatest n) (4, ((3 : Nat) : Int), 0, 3, []) L st h := run_s rfl
theorem r_X9_greatest_3 : run E g mi_X9_greatest d lm RT F pm_X9_greatest (n + 1) 3 L st h = exI E d lm RT F (run E g mi_X9_greatest d lm RT F pm_X9_greatest n) (0, 0, 0, 4, []) L st h := run_s rfl
theorem r_X9_greatest_4 : run E g mi_X9_greatest d lm RT F pm_X9_greatest (n + 1) 4 L st h = exI E d lm RT F (run E g mi_X9_greatest d lm RT F pm_X9_greatest n) (4, ((4 : Nat) : Int), 0, 6, []) L st h := run_s rfl
theorem r_X9_greatest_6 : run E g mi_X9_greatest d lm RT F pm_X9_greatest (n + 1) 6 L st h = G E g mi_X9_greatest d lm RT 6 L st h := run_c rfl
theorem q_X9_greatest_6 (n : Nat) (hF : FOk E d F) (hx : exI E d lm RT F (run E g mi_X9_greatest d lm RT F pm_X9_greatest n) (1, ((4 : Nat) : Int), 0, 8, []) L st h) : G E g mi_X9_greatest d lm RT 6 L st h := sstep hF (tOk_spec tk_X9_greatest (by decide +kernel)) (run_sound hF pk_X9_greatest n) hx
theorem r_X9_greatest_8 : run E g mi_X9_greatest d lm RT F pm_X9_greatest (n + 1) 8 L st h = exI E d lm RT F (run E g mi_X9_greatest d lm RT F pm_X9_greatest n) (0, 8, 0, 10, []) L st h := run_s rfl
theorem r_X9_greatest_10 : run E g mi_X9_greatest d lm RT F pm_X9_greatest (n + 1) 10 L st h = exI E d lm RT F (run E g mi_X9_greatest d lm RT F pm_X9_greatest n) (32, 3, ((74 : Nat) : Int), 13, []) L st h := run_s rfl
theorem r_X9_greatest_13 : run E g mi_X9_greatest d lm RT F pm_X9_greatest (n + 1) 13 L st h = exI E d lm RT F (run E g mi_X9_greatest d lm RT F pm_X9_greatest n) (2, ((0 : Nat) : Int), 0, 14, []) L st h := run_s rfl
theorem r_X9_greatest_14 : run E g mi_X9_greatest d lm RT F pm_X9_greatest (n + 1) 14 L st h = exI E d lm RT F (run E g mi_X9_greatest d lm RT F pm_X9_greatest n) (1, ((1 : Nat) : Int), 0, 15, []) L st h := run_s rfl
theorem r_X9_greatest_15 : run E g mi_X9_greatest d lm RT F pm_X9_greatest (n + 1) 15 L st h = exI E d lm RT F (run E g mi_X9_greatest d lm RT F pm_X9_greatest n) (1, ((4 : Nat) : Int), 0, 17, []) L st h := run_s rfl
theorem r_X9_greatest_17 : run E g mi_X9_greatest d lm RT F pm_X9_greatest (n + 1) 17 L st h = exI E d lm RT F (run E g mi_X9_greatest d lm RT F pm_X9_greatest n) (52, ((92 : Nat) : Int), ((3 : Nat) : Int), 20, [9]) L st h := run_s rfl
theorem r_X9_greatest_20 : run E g mi_X9_greatest d lm RT F pm_X9_greatest (n + 1) 20 L st h = exI E d lm RT F (run E g mi_X9_greatest d lm RT F pm_X9_greatest n) (31, 0, ((53 : Nat) : Int), 23, []) L st h := run_s rfl
theorem r_X9_greatest_23 : run E g mi_X9_greatest d lm RT F pm_X9_greatest (n + 1) 23 L st h = exI E d lm RT F (run E g mi_X9_greatest d lm RT F pm_X9_greatest n) (1, ((3 : Nat) : Int), 0, 24, []) L st h := run_s rfl
theorem r_X9_greatest_24 : run E g mi_X9_greatest d lm RT F pm_X9_greatest (n + 1) 24 L st h = exI E d lm RT F (run E g mi_X9_greatest d lm RT F pm_X9_greatest n) (0, (-9), 0, 26, []) L st h := run_s rfl
theorem r_X9_greatest_26 : run E g mi_X9_greatest d lm RT F pm_X9_greatest (n + 1) 26 L st h = exI E d lm RT F (run E g mi_X9_greatest d lm RT F pm_X9_greatest n) (32, 0, ((49 : Nat) : Int), 29, []) L st h := run_s rfl
theorem r_X9_greatest_29 : run E g mi_X9_greatest d lm RT F pm_X9_greatest (n + 1) 29 L st h = exI E d lm RT F (run E g mi_X9_greatest d lm RT F pm_X9_greatest n) (2, ((0 : Nat) : Int), 0, 30, []) L st h := run_s rfl
theorem r_X9_greatest_30 : run E g mi_X9_greatest d lm RT F pm_X9_greatest (n + 1) 30 L st h = exI E d lm RT F (run E g mi_X9_greatest d lm RT F pm_X9_greatest n) (35, ((9 : Nat) : Int), ((5 : Nat) : Int), 33, []) L st h := run_s rfl
theorem r_X9_greatest_33 : run E g mi_X9_greatest d lm RT F pm_X9_greatest (n + 1) 33 L st h = exI E d lm RT F (run E g mi_X9_greatest d lm RT F pm_X9_greatest n) (1, ((2 : Nat) : Int), 0, 34, []) L st h := run_s rfl
theorem r_X9_greatest_34 : run E g mi_X9_greatest d lm RT F pm_X9_greatest (n + 1) 34 L st h = exI E d lm RT F (run E g mi_X9_greatest d lm RT F pm_X9_greatest n) (1, ((4 : Nat) : Int), 0, 36, []) L st h := run_s rfl
theorem r_X9_greatest_36 : run E g mi_X9_greatest d lm RT F pm_X9_greatest (n + 1) 36 L st h = exI E d lm RT F (run E g mi_X9_greatest d lm RT F pm_X9_greatest n) (8, 0, 0, 37, []) L st h := run_s rfl
theorem r_X9_greatest_37 : run E g mi_X9_greatest d lm RT F pm_X9_greatest (n + 1) 37 L st h = exI E d lm RT F (run E g mi_X9_greatest d lm RT F pm_X9_greatest n) (38, 0, 0, 38, []) L st h := run_s rfl
theorem r_X9_greatest_38 : run E g mi_X9_greatest d lm RT F pm_X9_greatest (n + 1) 38 L st h = exI E d lm RT F (run E g mi_X9_greatest d lm RT F pm_X9_greatest n) (2, ((0 : Nat) : Int), 0, 39, []) L st h := run_s rfl
theorem r_X9_greatest_39 : run E g mi_X9_greatest d lm RT F pm_X9_greatest (n + 1) 39 L st h = exI E d lm RT F (run E g mi_X9_greatest d lm RT F pm_X9_greatest n) (35, ((9 : Nat) : Int), ((5 : Nat) : Int), 42, []) L st h := run_s rfl
theorem r_X9_greatest_42 : run E g mi_X9_greatest d lm RT F pm_X9_greatest (n + 1) 42 L st h = exI E d lm RT F (run E g mi_X9_greatest d lm RT F pm_X9_greatest n) (1, ((2 : Nat) : Int), 0, 43, []) L st h := run_s rfl
theorem r_X9_greatest_43 : run E g mi_X9_greatest d lm RT F pm_X9_greatest (n + 1) 43 L st h = exI E d lm RT F (run E g mi_X9_greatest d lm RT F pm_X9_greatest n) (1, ((3 : Nat) : Int), 0, 44, []) L st h := run_s rfl
theorem r_X9_greatest_44 : run E g mi_X9_greatest d lm RT F pm_X9_greatest (n + 1) 44 L st h = exI E d lm RT F (run E g mi_X9_greatest d lm RT F pm_X9_greatest n) (8, 0, 0, 45, []) L st h := run_s rfl
theorem r_X9_greatest_45 : run E g mi_X9_greatest d lm RT F pm_X9_greatest (n + 1) 45 L st h = exI E d lm RT F (run E g mi_X9_greatest d lm RT F pm_X9_greatest n) (38, 0, 0, 46, []) L st h := run_s rfl
theorem r_X9_greatest_46 : run E g mi_X9_greatest d lm RT F pm_X9_greatest (n + 1) 46 L st h = exI E d lm RT F (run E g mi_X9_greatest d lm RT F pm_X9_greatest n) (32, 5, ((53 : Nat) : Int), 49, []) L st h := run_s rfl
theorem r_X9_greatest_49 : run E g mi_X9_greatest d lm RT F pm_X9_greatest (n + 1) 49 L st h = exI E d lm RT F (run E g mi_X9_greatest d lm RT F pm_X9_greatest n) (0, 1, 0, 50, []) L st h := run_s rfl
theorem r_X9_greatest_50 : run E g mi_X9_greatest d lm RT F pm_X9_greatest (n + 1) 50 L st h = exI E d lm RT F (run E g mi_X9_greatest d lm RT F pm_X9_greatest n) (33, ((54 : Nat) : Int), 0, 0, []) L st h := run_s rfl
theorem r_X9_greatest_53 : run E g mi_X9_greatest d lm RT F pm_X9_greatest (n + 1) 53 L st h = exI E d lm RT F (run E g mi_X9_greatest d lm RT F pm_X9_greatest n) (0, 0, 0, 54, []) L st h := run_s rfl
theorem r_X9_greatest_54 : run E g mi_X9_greatest d lm RT F pm_X9_greatest (n + 1) 54 L st h = exI E d lm RT F (run E g mi_X9_greatest d lm RT F pm_X9_greatest n) (4, ((5 : Nat) : Int), 0, 56, []) L st h := run_s rfl
theorem r_X9_greatest_56 : run E g mi_X9_greatest d lm RT F pm_X9_greatest (n + 1) 56 L st h = exI E d lm RT F (run E g mi_X9_greatest d lm RT F pm_X9_greatest n) (1, ((5 : Nat) : Int), 0, 58, []) L st h := run_s rfl
theorem r_X9_greatest_58 : run E g mi_X9_greatest d lm RT F pm_X9_greatest (n + 1) 58 L st h = exI E d lm RT F (run E g mi_X9_greatest d lm RT F pm_X9_greatest n) (31, 0, ((66 : Nat) : Int), 61, []) L st h := run_s rfl
theorem r_X9_greatest_61 : run E g mi_X9_greatest d lm RT F pm_X9_greatest (n + 1) 61 L st h = exI E d lm RT F (run E g mi_X9_greatest d lm RT F pm_X9_greatest n) (1, ((4 : Nat) : Int), 0, 63, []) L st h := run_s rfl
theorem r_X9_greatest_63 : run E g mi_X9_greatest d lm RT F pm_X9_greatest (n + 1) 63 L st h = exI E d lm RT F (run E g mi_X9_greatest d lm RT F pm_X9_greatest n) (33, ((67 : Nat) : Int), 0, 0, []) L st h := run_s rfl
theorem r_X9_greatest_66 : run E g mi_X9_greatest d lm RT F pm_X9_greatest (n + 1) 66 L st h = exI E d lm RT F (run E g mi_X9_greatest d lm RT F pm_X9_greatest n) (1, ((3 : Nat) : Int), 0, 67, []) L st h := run_s rfl
theorem r_X9_greatest_67 : run E g mi_X9_greatest d lm RT F pm_X9_greatest (n + 1) 67 L st h = exI E d lm RT F (run E g mi_X9_greatest d lm RT F pm_X9_greatest n) (4, ((3 : Nat) : Int), 0, 68, []) L st h := run_s rfl
theorem r_X9_greatest_68 : run E g mi_X9_greatest d lm RT F pm_X9_greatest (n + 1) 68 L st h = exI E d lm RT F (run E g mi_X9_greatest d lm RT F pm_X9_greatest n) (7, ((4 : Nat) : Int), 1, 71, []) L st h := run_s rfl
theorem r_X9_greatest_71 : run E g mi_X9_greatest d lm RT F pm_X9_greatest (n + 1) 71 L st h = exI E d lm RT F (run E g mi_X9_greatest d lm RT F pm_X9_greatest n) (33, ((6 : Nat) : Int), 0, 0, []) L st h := run_s rfl
theorem r_X9_greatest_74 : run E g mi_X9_greatest d lm RT F pm_X9_greatest (n + 1) 74 L st h = exI E d lm RT F (run E g mi_X9_greatest d lm RT F pm_X9_greatest n) (1, ((3 : Nat) : Int), 0, 75, []) L st h := run_s rfl
theorem r_X9_greatest_75 : run E g mi_X9_greatest d lm RT F pm_X9_greatest (n + 1) 75 L st h = exI E d lm RT F (run E g mi_X9_greatest d lm RT F pm_X9_greatest n) (48, 0, 0, 0, []) L st h := run_s rfl
theorem e_X9_greatest (n : Nat) {pc : Nat} (hF : FOk E d F) (hx : run E g mi_X9_greatest d lm RT F pm_X9_greatest n pc L st h) : G E g mi_X9_greatest d lm RT pc L st h := run_sound hF pk_X9_greatest n pc L st h hx
end
def mi_X9_lowest : MI := (9, cX9_lowest, 4, 0, false)
theorem mo_X9_lowest : miOk mi_X9_lowest (mt 111) = true := by decide +kernel
def tl_X9_lowest : List (Nat × PT) := [(0, (0, 0, 0, 1, [])),
  (1, (4, ((3 : Nat) : Int), 0, 2, [])),
  (2, (1, ((3 : Nat) : Int), 0, 3, [])),
  (3, (0, 8, 0, 5, [])),
  (5, (32, 3, ((40 : Nat) : Int), 8, [])),
  (8, (2, ((0 : Nat) : Int), 0, 9, [])),
  (9, (1, ((1 : Nat) : Int), 0, 10, [])),
  (10, (1, ((3 : Nat) : Int), 0, 11, [])),
  (11, (52, ((92 : Nat) : Int), ((3 : Nat) : Int), 14, [9])),
  (14, (31, 0, ((34 : Nat) : Int), 17, [])),
  (17, (2, ((0 : Nat) : Int), 0, 18, [])),
  (18, (35, ((9 : Nat) : Int), ((5 : Nat) : Int), 21, [])),
  (21, (1, ((2 : Nat) : Int), 0, 22, [])),
  (22, (1, ((3 : Nat) : Int), 0, 23, [])),
  (23, (8, 0, 0, 24, [])),
  (24, (38, 0, 0, 25, [])),
  (25, (2, ((0 : Nat) : Int), 0, 26, [])),
  (26, (35, ((9 : Nat) : Int), ((6 : Nat) : Int), 29, [])),
  (29, (32, 3, ((34 : Nat) : Int), 32, [])),
  (32, (1, ((3 : Nat) : Int), 0, 33, [])),
  (33, (48, 0, 0, 0, [])),
  (34, (7, ((3 : Nat) : Int), 1, 37, [])),
  (37, (33, ((2 : Nat) : Int), 0, 0, [])),
  (40, (0, (-9), 0, 42, [])),
  (42, (48, 0, 0, 0, []))]
theorem tk_X9_lowest : tOk mi_X9_lowest tl_X9_lowest = true := by decide +kernel
def pm_X9_lowest (pc : Nat) : Option PT := if [2].contains pc then none else tl_X9_lowest.lookup pc
theorem pk_X9_lowest : ∀ pc pt, pm_X9_lowest pc = some pt → okPt mi_X9_lowest pc pt := fun pc pt h => tOk_pm tk_X9_lowest h
section
variable {E : ET} {g : GT} {d : Nat} {lm : Nat × Nat} {RT : RTy} {F : FT} {n : Nat} {L : LV} {st : List AV} {h : AH}
theorem r_X9_lowest_0 : run E g mi_X9_lowest d lm RT F pm_X9_lowest (n + 1) 0 L st h = exI E d lm RT F (run E g mi_X9_lowest d lm RT F pm_X9_lowest n) (0, 0, 0, 1, []) L st h := run_s rfl
theorem r_X9_lowest_1 : run E g mi_X9_lowest d lm RT F pm_X9_lowest (n + 1) 1 L st h = exI E d lm RT F (run E g mi_X9_lowest d lm RT F pm_X9_lowest n) (4, ((3 : Nat) : Int), 0, 2, []) L st h := run_s rfl
theorem r_X9_lowest_2 : run E g mi_X9_lowest d lm RT F pm_X9_lowest (n + 1) 2 L st h = G E g mi_X9_lowest d lm RT 2 L st h := run_c rfl
theorem q_X9_lowest_2 (n : Nat) (hF : FOk E d F) (hx : exI E d lm RT F (run E g mi_X9_lowest d lm RT F pm_X9_lowest n) (1, ((3 : Nat) : Int), 0, 3, []) L st h) : G E g mi_X9_lowest d lm RT 2 L st h := sstep hF (tOk_spec tk_X9_lowest (by decide +kernel)) (run_sound hF pk_X9_lowest n) hx
theorem r_X9_lowest_3 : run E g mi_X9_lowest d lm RT F pm_X9_lowest (n + 1) 3 L st h = exI E d lm RT F (run E g mi_X9_lowest d lm RT F pm_X9_lowest n) (0, 8, 0, 5, []) L st h := run_s rfl
theorem r_X9_lowest_5 : run E g mi_X9_lowest d lm RT F pm_X9_lowest (n + 1) 5 L st h = exI E d lm RT F (run E g mi_X9_lowest d lm RT F pm_X9_lowest n) (32, 3, ((40 : Nat) : Int), 8, []) L st h := run_s rfl
theorem r_X9_lowest_8 : run E g mi_X9_lowest d lm RT F pm_X9_lowest (n + 1) 8 L st h = exI E d lm RT F (run E g mi_X9_lowest d lm RT F pm_X9_lowest n) (2, ((0 : Nat) : Int), 0, 9, []) L st h := run_s rfl
theorem r_X9_lowest_9 : run E g mi_X9_lowest d lm RT F pm_X9_lowest (n + 1) 9 L st h = exI E d lm RT F (run E g mi_X9_lowest d lm RT F pm_X9_lowest n) (1, ((1 : Nat) : Int), 0, 10, []) L st h := run_s rfl
theorem r_X9_lowest_10 : run E g mi_X9_lowest d lm RT F pm_X9_lowest (n + 1) 10 L st h = exI E d lm RT F (run E g mi_X9_lowest d lm RT F pm_X9_lowest n) (1, ((3 : Nat) : Int), 0, 11, []) L st h := run_s rfl
theorem r_X9_lowest_11 : run E g mi_X9_lowest d lm RT F pm_X9_lowest (n + 1) 11 L st h = exI E d lm RT F (run E g mi_X9_lowest d lm RT F pm_X9_lowest n) (52, ((92 : Nat) : Int), ((3 : Nat) : Int), 14, [9]) L st h := run_s rfl
theorem r_X9_lowest_14 : run E g mi_X9_lowest d lm RT F pm_X9_lowest (n + 1) 14 L st h = exI E d lm RT F (run E g mi_X9_lowest d lm RT F pm_X9_lowest n) (31, 0, ((34 : Nat) : Int), 17, []) L st h := run_s rfl
theorem r_X9_lowest_17 : run E g mi_X9_lowest d lm RT F pm_X9_lowest (n + 1) 17 L st h = exI E d lm RT F (run E g mi_X9_lowest d lm RT F pm_X9_lowest n) (2, ((0 : Nat) : Int), 0, 18, []) L st h := run_s rfl
theorem r_X9_lowest_18 : run E g mi_X9_lowest d lm RT F pm_X9_lowest (n + 1) 18 L st h = exI E d lm RT F (run E g mi_X9_lowest d lm RT F pm_X9_lowest n) (35, ((9 : Nat) : Int), ((5 : Nat) : Int), 21, []) L st h := run_s rfl
theorem r_X9_lowest_21 : run E g mi_X9_lowest d lm RT F pm_X9_lowest (n + 1) 21 L st h = exI E d lm RT F (run E g mi_X9_lowest d lm RT F pm_X9_lowest n) (1, ((2 : Nat) : Int), 0, 22, []) L st h := run_s rfl
theorem r_X9_lowest_22 : run E g mi_X9_lowest d lm RT F pm_X9_lowest (n + 1) 22 L st h = exI E d lm RT F (run E g mi_X9_lowest d lm RT F pm_X9_lowest n) (1, ((3 : Nat) : Int), 0, 23, []) L st h := run_s rfl
theorem r_X9_lowest_23 : run E g mi_X9_lowest d lm RT F pm_X9_lowest (n + 1) 23 L st h = exI E d lm RT F (run E g mi_X9_lowest d lm RT F pm_X9_lowest n) (8, 0, 0, 24, []) L st h := run_s rfl
theorem r_X9_lowest_24 : run E g mi_X9_lowest d lm RT F pm_X9_lowest (n + 1) 24 L st h = exI E d lm RT F (run E g mi_X9_lowest d lm RT F pm_X9_lowest n) (38, 0, 0, 25, []) L st h := run_s rfl
theorem r_X9_lowest_25 : run E g mi_X9_lowest d lm RT F pm_X9_lowest (n + 1) 25 L st h = exI E d lm RT F (run E g mi_X9_lowest d lm RT F pm_X9_lowest n) (2, ((0 : Nat) : Int), 0, 26, []) L st h := run_s rfl
theorem r_X9_lowest_26 : run E g mi_X9_lowest d lm RT F pm_X9_lowest (n + 1) 26 L st h = exI E d lm RT F (run E g mi_X9_lowest d lm RT F pm_X9_lowest n) (35, ((9 : Nat) : Int), ((6 : Nat) : Int), 29, []) L st h := run_s rfl
theorem r_X9_lowest_29 : run E g mi_X9_lowest d lm RT F pm_X9_lowest (n + 1) 29 L st h = exI E d lm RT F (run E g mi_X9_lowest d lm RT F pm_X9_lowest n) (32, 3, ((34 : Nat) : Int), 32, []) L st h := run_s rfl
theorem r_X9_lowest_32 : run E g mi_X9_lowest d lm RT F pm_X9_lowest (n + 1) 32 L st h = exI E d lm RT F (run E g mi_X9_lowest d lm RT F pm_X9_lowest n) (1, ((3 : Nat) : Int), 0, 33, []) L st h := run_s rfl
theorem r_X9_lowest_33 : run E g mi_X9_lowest d lm RT F pm_X9_lowest (n + 1) 33 L st h = exI E d lm RT F (run E g mi_X9_lowest d lm RT F pm_X9_lowest n) (48, 0, 0, 0, []) L st h := run_s rfl
theorem r_X9_lowest_34 : run E g mi_X9_lowest d lm RT F pm_X9_lowest (n + 1) 34 L st h = exI E d lm RT F (run E g mi_X9_lowest d lm RT F pm_X9_lowest n) (7, ((3 : Nat) : Int), 1, 37, []) L st h := run_s rfl
theorem r_X9_lowest_37 : run E g mi_X9_lowest d lm RT F pm_X9_lowest (n + 1) 37 L st h = exI E d lm RT F (run E g mi_X9_lowest d lm RT F pm_X9_lowest n) (33, ((2 : Nat) : Int), 0, 0, []) L st h := run_s rfl
theorem r_X9_lowest_40 : run E g mi_X9_lowest d lm RT F pm_X9_lowest (n + 1) 40 L st h = exI E d lm RT F (run E g mi_X9_lowest d lm RT F pm_X9_lowest n) (0, (-9), 0, 42, []) L st h := run_s rfl
theorem r_X9_lowest_42 : run E g mi_X9_lowest d lm RT F pm_X9_lowest (n + 1) 42 L st h = exI E d lm RT F (run E g mi_X9_lowest d lm RT F pm_X9_lowest n) (48, 0, 0, 0, []) L st h := run_s rfl
theorem e_X9_lowest (n : Nat) {pc : Nat} (hF : FOk E d F) (hx : run E g mi_X9_lowest d lm RT F pm_X9_lowest n pc L st h) : G E g mi_X9_lowest d lm RT pc L st h := run_sound hF pk_X9_lowest n pc L st h hx
end
def mi_X9_lift : MI := (9, cX9_lift, 6, 4, false)
theorem mo_X9_lift : miOk mi_X9_lift (mt 112) = true := by decide +kernel
def tl_X9_lift : List (Nat × PT) := [(0, (2, ((0 : Nat) : Int), 0, 1, [])),
  (1, (1, ((1 : Nat) : Int), 0, 2, [])),
  (2, (1, ((2 : Nat) : Int), 0, 3, [])),
  (3, (51, ((111 : Nat) : Int), ((3 : Nat) : Int), 6, [9])),
  (6, (4, ((3 : Nat) : Int), 0, 7, [])),
  (7, (1, ((3 : Nat) : Int), 0, 8, [])),
  (8, (0, (-9), 0, 10, [])),
  (10, (32, 0, ((72 : Nat) : Int), 13, [])),
  (13, (2, ((0 : Nat) : Int), 0, 14, [])),
  (14, (1, ((1 : Nat) : Int), 0, 15, [])),
  (15, (1, ((2 : Nat) : Int), 0, 16, [])),
  (16, (51, ((110 : Nat) : Int), ((3 : Nat) : Int), 19, [9])),
  (19, (4, ((4 : Nat) : Int), 0, 21, [])),
  (21, (2, ((0 : Nat) : Int), 0, 22, [])),
  (22, (35, ((9 : Nat) : Int), ((6 : Nat) : Int), 25, [])),
  (25, (2, ((0 : Nat) : Int), 0, 26, [])),
  (26, (35, ((9 : Nat) : Int), ((5 : Nat) : Int), 29, [])),
  (29, (1, ((2 : Nat) : Int), 0, 30, [])),
  (30, (1, ((3 : Nat) : Int), 0, 31, [])),
  (31, (8, 0, 0, 32, [])),
  (32, (38, 0, 0, 33, [])),
  (33, (9, 0, 0, 34, [])),
  (34, (4, ((5 : Nat) : Int), 0, 36, [])),
  (36, (2, ((0 : Nat) : Int), 0, 37, [])),
  (37, (35, ((9 : Nat) : Int), ((5 : Nat) : Int), 40, [])),
  (40, (1, ((2 : Nat) : Int), 0, 41, [])),
  (41, (1, ((3 : Nat) : Int), 0, 42, [])),
  (42, (8, 0, 0, 43, [])),
  (43, (2, ((0 : Nat) : Int), 0, 44, [])),
  (44, (35, ((9 : Nat) : Int), ((6 : Nat) : Int), 47, [])),
  (47, (39, 0, 0, 48, [])),
  (48, (2, ((0 : Nat) : Int), 0, 49, [])),
  (49, (35, ((9 : Nat) : Int), ((5 : Nat) : Int), 52, [])),
  (52, (1, ((2 : Nat) : Int), 0, 53, [])),
  (53, (1, ((4 : Nat) : Int), 0, 55, [])),
  (55, (8, 0, 0, 56, [])),
  (56, (29, 0, 0, 57, [])),
  (57, (38, 0, 0, 58, [])),
  (58, (1, ((5 : Nat) : Int), 0, 60, [])),
  (60, (9, 0, 0, 61, [])),
  (61, (39, 0, 0, 62, [])),
  (62, (2, ((0 : Nat) : Int), 0, 63, [])),
  (63, (1, ((1 : Nat) : Int), 0, 64, [])),
  (64, (1, ((2 : Nat) : Int), 0, 65, [])),
  (65, (51, ((111 : Nat) : Int), ((3 : Nat) : Int), 68, [9])),
  (68, (4, ((3 : Nat) : Int), 0, 69, [])),
  (69, (33, ((7 : Nat) : Int), 0, 0, [])),
  (72, (48, 4, 0, 0, []))]
theorem tk_X9_lift_0 : tOk mi_X9_lift ((tl_X9_lift.drop 0).take 45) = true := by decide +kernel
theorem tk_X9_lift_1 : tOk mi_X9_lift ((tl_X9_lift.drop 45).take 45) = true := by decide +kernel
theorem tk_X9_lift : tOk mi_X9_lift tl_X9_lift = true := by
  refine tOk_cut 45 (by decide) (fun q hq => ?_)
  have hl : tl_X9_lift.length = 48 := by decide +kernel
  rw [hl] at hq
  rcases (show q = 0 ∨ q = 1 by omega) with rfl | rfl
  · exact tk_X9_lift_0
  · exact tk_X9_lift_1
def pm_X9_lift (pc : Nat) : Option PT := if [7].contains pc then none else tl_X9_lift.lookup pc
theorem pk_X9_lift : ∀ pc pt, pm_X9_lift pc = some pt → okPt mi_X9_lift pc pt := fun pc pt h => tOk_pm tk_X9_lift h
section
variable {E : ET} {g : GT} {d : Nat} {lm : Nat × Nat} {RT : RTy} {F : FT} {n : Nat} {L : LV} {st : List AV} {h : AH}
theorem r_X9_lift_0 : run E g mi_X9_lift d lm RT F pm_X9_lift (n + 1) 0 L st h = exI E d lm RT F (run E g mi_X9_lift d lm RT F pm_X9_lift n) (2, ((0 : Nat) : Int), 0, 1, []) L st h := run_s rfl
theorem r_X9_lift_1 : run E g mi_X9_lift d lm RT F pm_X9_lift (n + 1) 1 L st h = exI E d lm RT F (run E g mi_X9_lift d lm RT F pm_X9_lift n) (1, ((1 : Nat) : Int), 0, 2, []) L st h := run_s rfl
theorem r_X9_lift_2 : run E g mi_X9_lift d lm RT F pm_X9_lift (n + 1) 2 L st h = exI E d lm RT F (run E g mi_X9_lift d lm RT F pm_X9_lift n) (1, ((2 : Nat) : Int), 0, 3, []) L st h := run_s rfl
theorem r_X9_lift_3 : run E g mi_X9_lift d lm RT F pm_X9_lift (n + 1) 3 L st h = exI E d lm RT F (run E g mi_X9_lift d lm RT F pm_X9_lift n) (51, ((111 : Nat) : Int), ((3 : Nat) : Int), 6, [9]) L st h := run_s rfl
theorem r_X9_lift_6 : run E g mi_X9_lift d lm RT F pm_X9_lift (n + 1) 6 L st h = exI E d lm RT F (run E g mi_X9_lift d lm RT F pm_X9_lift n) (4, ((3 : Nat) : Int), 0, 7, []) L st h := run_s rfl
theorem r_X9_lift_7 : run E g mi_X9_lift d lm RT F pm_X9_lift (n + 1) 7 L st h = G E g mi_X9_lift d lm RT 7 L st h := run_c rfl
theorem q_X9_lift_7 (n : Nat) (hF : FOk E d F) (hx : exI E d lm RT F (run E g mi_X9_lift d lm RT F pm_X9_lift n) (1, ((3 : Nat) : Int), 0, 8, []) L st h) : G E g mi_X9_lift d lm RT 7 L st h := sstep hF (tOk_spec tk_X9_lift (by decide +kernel)) (run_sound hF pk_X9_lift n) hx
theorem r_X9_lift_8 : run E g mi_X9_lift d lm RT F pm_X9_lift (n + 1) 8 L st h = exI E d lm RT F (run E g mi_X9_lift d lm RT F pm_X9_lift n) (0, (-9), 0, 10, []) L st h := run_s rfl
theorem r_X9_lift_10 : run E g mi_X9_lift d lm RT F pm_X9_lift (n + 1) 10 L st h = exI E d lm RT F (run E g mi_X9_lift d lm RT F pm_X9_lift n) (32, 0, ((72 : Nat) : Int), 13, []) L st h := run_s rfl
theorem r_X9_lift_13 : run E g mi_X9_lift d lm RT F pm_X9_lift (n + 1) 13 L st h = exI E d lm RT F (run E g mi_X9_lift d lm RT F pm_X9_lift n) (2, ((0 : Nat) : Int), 0, 14, []) L st h := run_s rfl
theorem r_X9_lift_14 : run E g mi_X9_lift d lm RT F pm_X9_lift (n + 1) 14 L st h = exI E d lm RT F (run E g mi_X9_lift d lm RT F pm_X9_lift n) (1, ((1 : Nat) : Int), 0, 15, []) L st h := run_s rfl
theorem r_X9_lift_15 : run E g mi_X9_lift d lm RT F pm_X9_lift (n + 1) 15 L st h = exI E d lm RT F (run E g mi_X9_lift d lm RT F pm_X9_lift n) (1, ((2 : Nat) : Int), 0, 16, []) L st h := run_s rfl
theorem r_X9_lift_16 : run E g mi_X9_lift d lm RT F pm_X9_lift (n + 1) 16 L st h = exI E d lm RT F (run E g mi_X9_lift d lm RT F pm_X9_lift n) (51, ((110 : Nat) : Int), ((3 : Nat) : Int), 19, [9]) L st h := run_s rfl
theorem r_X9_lift_19 : run E g mi_X9_lift d lm RT F pm_X9_lift (n + 1) 19 L st h = exI E d lm RT F (run E g mi_X9_lift d lm RT F pm_X9_lift n) (4, ((4 : Nat) : Int), 0, 21, []) L st h := run_s rfl
theorem r_X9_lift_21 : run E g mi_X9_lift d lm RT F pm_X9_lift (n + 1) 21 L st h = exI E d lm RT F (run E g mi_X9_lift d lm RT F pm_X9_lift n) (2, ((0 : Nat) : Int), 0, 22, []) L st h := run_s rfl
theorem r_X9_lift_22 : run E g mi_X9_lift d lm RT F pm_X9_lift (n + 1) 22 L st h = exI E d lm RT F (run E g mi_X9_lift d lm RT F pm_X9_lift n) (35, ((9 : Nat) : Int), ((6 : Nat) : Int), 25, []) L st h := run_s rfl
theorem r_X9_lift_25 : run E g mi_X9_lift d lm RT F pm_X9_lift (n + 1) 25 L st h = exI E d lm RT F (run E g mi_X9_lift d lm RT F pm_X9_lift n) (2, ((0 : Nat) : Int), 0, 26, []) L st h := run_s rfl
theorem r_X9_lift_26 : run E g mi_X9_lift d lm RT F pm_X9_lift (n + 1) 26 L st h = exI E d lm RT F (run E g mi_X9_lift d lm RT F pm_X9_lift n) (35, ((9 : Nat) : Int), ((5 : Nat) : Int), 29, []) L st h := run_s rfl
theorem r_X9_lift_29 : run E g mi_X9_lift d lm RT F pm_X9_lift (n + 1) 29 L st h = exI E d lm RT F (run E g mi_X9_lift d lm RT F pm_X9_lift n) (1, ((2 : Nat) : Int), 0, 30, []) L st h := run_s rfl
theorem r_X9_lift_30 : run E g mi_X9_lift d lm RT F pm_X9_lift (n + 1) 30 L st h = exI E d lm RT F (run E g mi_X9_lift d lm RT F pm_X9_lift n) (1, ((3 : Nat) : Int), 0, 31, []) L st h := run_s rfl
theorem r_X9_lift_31 : run E g mi_X9_lift d lm RT F pm_X9_lift (n + 1) 31 L st h = exI E d lm RT F (run E g mi_X9_lift d lm RT F pm_X9_lift n) (8, 0, 0, 32, []) L st h := run_s rfl
theorem r_X9_lift_32 : run E g mi_X9_lift d lm RT F pm_X9_lift (n + 1) 32 L st h = exI E d lm RT F (run E g mi_X9_lift d lm RT F pm_X9_lift n) (38, 0, 0, 33, []) L st h := run_s rfl
theorem r_X9_lift_33 : run E g mi_X9_lift d lm RT F pm_X9_lift (n + 1) 33 L st h = exI E d lm RT F (run E g mi_X9_lift d lm RT F pm_X9_lift n) (9, 0, 0, 34, []) L st h := run_s rfl
theorem r_X9_lift_34 : run E g mi_X9_lift d lm RT F pm_X9_lift (n + 1) 34 L st h = exI E d lm RT F (run E g mi_X9_lift d lm RT F pm_X9_lift n) (4, ((5 : Nat) : Int), 0, 36, []) L st h := run_s rfl
theorem r_X9_lift_36 : run E g mi_X9_lift d lm RT F pm_X9_lift (n + 1) 36 L st h = exI E d lm RT F (run E g mi_X9_lift d lm RT F pm_X9_lift n) (2, ((0 : Nat) : Int), 0, 37, []) L st h := run_s rfl
theorem r_X9_lift_37 : run E g mi_X9_lift d lm RT F pm_X9_lift (n + 1) 37 L st h = exI E d lm RT F (run E g mi_X9_lift d lm RT F pm_X9_lift n) (35, ((9 : Nat) : Int), ((5 : Nat) : Int), 40, []) L st h := run_s rfl
theorem r_X9_lift_40 : run E g mi_X9_lift d lm RT F pm_X9_lift (n + 1) 40 L st h = exI E d lm RT F (run E g mi_X9_lift d lm RT F pm_X9_lift n) (1, ((2 : Nat) : Int), 0, 41, []) L st h := run_s rfl
theorem r_X9_lift_41 : run E g mi_X9_lift d lm RT F pm_X9_lift (n + 1) 41 L st h = exI E d lm RT F (run E g mi_X9_lift d lm RT F pm_X9_lift n) (1, ((3 : Nat) : Int), 0, 42, []) L st h := run_s rfl
theorem r_X9_lift_42 : run E g mi_X9_lift d lm RT F pm_X9_lift (n + 1) 42 L st h = exI E d lm RT F (run E g mi_X9_lift d lm RT F pm_X9_lift n) (8, 0, 0, 43, []) L st h := run_s rfl
theorem r_X9_lift_43 : run E g mi_X9_lift d lm RT F pm_X9_lift (n + 1) 43 L st h = exI E d lm RT F (run E g mi_X9_lift d lm RT F pm_X9_lift n) (2, ((0 : Nat) : Int), 0, 44, []) L st h := run_s rfl
theorem r_X9_lift_44 : run E g mi_X9_lift d lm RT F pm_X9_lift (n + 1) 44 L st h = exI E d lm RT F (run E g mi_X9_lift d lm RT F pm_X9_lift n) (35, ((9 : Nat) : Int), ((6 : Nat) : Int), 47, []) L st h := run_s rfl
theorem r_X9_lift_47 : run E g mi_X9_lift d lm RT F pm_X9_lift (n + 1) 47 L st h = exI E d lm RT F (run E g mi_X9_lift d lm RT F pm_X9_lift n) (39, 0, 0, 48, []) L st h := run_s rfl
theorem r_X9_lift_48 : run E g mi_X9_lift d lm RT F pm_X9_lift (n + 1) 48 L st h = exI E d lm RT F (run E g mi_X9_lift d lm RT F pm_X9_lift n) (2, ((0 : Nat) : Int), 0, 49, []) L st h := run_s rfl
theorem r_X9_lift_49 : run E g mi_X9_lift d lm RT F pm_X9_lift (n + 1) 49 L st h = exI E d lm RT F (run E g mi_X9_lift d lm RT F pm_X9_lift n) (35, ((9 : Nat) : Int), ((5 : Nat) : Int), 52, []) L st h := run_s rfl
theorem r_X9_lift_52 : run E g mi_X9_lift d lm RT F pm_X9_lift (n + 1) 52 L st h = exI E d lm RT F (run E g mi_X9_lift d lm RT F pm_X9_lift n) (1, ((2 : Nat) : Int), 0, 53, []) L st h := run_s rfl
theorem r_X9_lift_53 : run E g mi_X9_lift d lm RT F pm_X9_lift (n + 1) 53 L st h = exI E d lm RT F (run E g mi_X9_lift d lm RT F pm_X9_lift n) (1, ((4 : Nat) : Int), 0, 55, []) L st h := run_s rfl
theorem r_X9_lift_55 : run E g mi_X9_lift d lm RT F pm_X9_lift (n + 1) 55 L st h = exI E d lm RT F (run E g mi_X9_lift d lm RT F pm_X9_lift n) (8, 0, 0, 56, []) L st h := run_s rfl
theorem r_X9_lift_56 : run E g mi_X9_lift d lm RT F pm_X9_lift (n + 1) 56 L st h = exI E d lm RT F (run E g mi_X9_lift d lm RT F pm_X9_lift n) (29, 0, 0, 57, []) L st h := run_s rfl
theorem r_X9_lift_57 : run E g mi_X9_lift d lm RT F pm_X9_lift (n + 1) 57 L st h = exI E d lm RT F (run E g mi_X9_lift d lm RT F pm_X9_lift n) (38, 0, 0, 58, []) L st h := run_s rfl
theorem r_X9_lift_58 : run E g mi_X9_lift d lm RT F pm_X9_lift (n + 1) 58 L st h = exI E d lm RT F (run E g mi_X9_lift d lm RT F pm_X9_lift n) (1, ((5 : Nat) : Int), 0, 60, []) L st h := run_s rfl
theorem r_X9_lift_60 : run E g mi_X9_lift d lm RT F pm_X9_lift (n + 1) 60 L st h = exI E d lm RT F (run E g mi_X9_lift d lm RT F pm_X9_lift n) (9, 0, 0, 61, []) L st h := run_s rfl
theorem r_X9_lift_61 : run E g mi_X9_lift d lm RT F pm_X9_lift (n + 1) 61 L st h = exI E d lm RT F (run E g mi_X9_lift d lm RT F pm_X9_lift n) (39, 0, 0, 62, []) L st h := run_s rfl
theorem r_X9_lift_62 : run E g mi_X9_lift d lm RT F pm_X9_lift (n + 1) 62 L st h = exI E d lm RT F (run E g mi_X9_lift d lm RT F pm_X9_lift n) (2, ((0 : Nat) : Int), 0, 63, []) L st h := run_s rfl
theorem r_X9_lift_63 : run E g mi_X9_lift d lm RT F pm_X9_lift (n + 1) 63 L st h = exI E d lm RT F (run E g mi_X9_lift d lm RT F pm_X9_lift n) (1, ((1 : Nat) : Int), 0, 64, []) L st h := run_s rfl
theorem r_X9_lift_64 : run E g mi_X9_lift d lm RT F pm_X9_lift (n + 1) 64 L st h = exI E d lm RT F (run E g mi_X9_lift d lm RT F pm_X9_lift n) (1, ((2 : Nat) : Int), 0, 65, []) L st h := run_s rfl
theorem r_X9_lift_65 : run E g mi_X9_lift d lm RT F pm_X9_lift (n + 1) 65 L st h = exI E d lm RT F (run E g mi_X9_lift d lm RT F pm_X9_lift n) (51, ((111 : Nat) : Int), ((3 : Nat) : Int), 68, [9]) L st h := run_s rfl
theorem r_X9_lift_68 : run E g mi_X9_lift d lm RT F pm_X9_lift (n + 1) 68 L st h = exI E d lm RT F (run E g mi_X9_lift d lm RT F pm_X9_lift n) (4, ((3 : Nat) : Int), 0, 69, []) L st h := run_s rfl
theorem r_X9_lift_69 : run E g mi_X9_lift d lm RT F pm_X9_lift (n + 1) 69 L st h = exI E d lm RT F (run E g mi_X9_lift d lm RT F pm_X9_lift n) (33, ((7 : Nat) : Int), 0, 0, []) L st h := run_s rfl
theorem r_X9_lift_72 : run E g mi_X9_lift d lm RT F pm_X9_lift (n + 1) 72 L st h = exI E d lm RT F (run E g mi_X9_lift d lm RT F pm_X9_lift n) (48, 4, 0, 0, []) L st h := run_s rfl
theorem e_X9_lift (n : Nat) {pc : Nat} (hF : FOk E d F) (hx : run E g mi_X9_lift d lm RT F pm_X9_lift n pc L st h) : G E g mi_X9_lift d lm RT pc L st h := run_sound hF pk_X9_lift n pc L st h hx
end
def mi_X9_raiseBy : MI := (9, cX9_raiseBy, 9, 4, false)
theorem mo_X9_raiseBy : miOk mi_X9_raiseBy (mt 113) = true := by decide +kernel
def tl_X9_raiseBy : List (Nat × PT) := [(0, (2, ((0 : Nat) : Int), 0, 1, [])),
  (1, (1, ((1 : Nat) : Int), 0, 2, [])),
  (2, (51, ((93 : Nat) : Int), ((2 : Nat) : Int), 5, [9])),
  (5, (0, 2, 0, 6, [])),
  (6, (32, 3, ((10 : Nat) : Int), 9, [])),
  (9, (48, 4, 0, 0, [])),
  (10, (1, ((1 : Nat) : Int), 0, 11, [])),
  (11, (1, ((2 : Nat) : Int), 0, 12, [])),
  (12, (45, ((94 : Nat) : Int), ((2 : Nat) : Int), 15, [])),
  (15, (4, ((5 : Nat) : Int), 0, 17, [])),
  (17, (0, 1000, 0, 20, [])),
  (20, (2, ((0 : Nat) : Int), 0, 21, [])),
  (21, (35, ((9 : Nat) : Int), ((5 : Nat) : Int), 24, [])),
  (24, (1, ((5 : Nat) : Int), 0, 26, [])),
  (26, (1, ((3 : Nat) : Int), 0, 27, [])),
  (27, (8, 0, 0, 28, [])),
  (28, (38, 0, 0, 29, [])),
  (29, (9, 0, 0, 30, [])),
  (30, (4, ((6 : Nat) : Int), 0, 32, [])),
  (32, (2, ((0 : Nat) : Int), 0, 33, [])),
  (33, (35, ((9 : Nat) : Int), ((5 : Nat) : Int), 36, [])),
  (36, (1, ((5 : Nat) : Int), 0, 38, [])),
  (38, (1, ((3 : Nat) : Int), 0, 39, [])),
  (39, (8, 0, 0, 40, [])),
  (40, (38, 0, 0, 41, [])),
  (41, (0, 1000, 0, 44, [])),
  (44, (2, ((0 : Nat) : Int), 0, 45, [])),
  (45, (35, ((9 : Nat) : Int), ((5 : Nat) : Int), 48, [])),
  (48, (1, ((5 : Nat) : Int), 0, 50, [])),
  (50, (1, ((3 : Nat) : Int), 0, 51, [])),
  (51, (8, 0, 0, 52, [])),
  (52, (38, 0, 0, 53, [])),
  (53, (9, 0, 0, 54, [])),
  (54, (1, ((4 : Nat) : Int), 0, 56, [])),
  (56, (10, 0, 0, 57, [])),
  (57, (0, 1000, 0, 60, [])),
  (60, (11, 0, 0, 61, [])),
  (61, (8, 0, 0, 62, [])),
  (62, (4, ((7 : Nat) : Int), 0, 64, [])),
  (64, (0, 0, 0, 65, [])),
  (65, (4, ((8 : Nat) : Int), 0, 67, [])),
  (67, (1, ((8 : Nat) : Int), 0, 69, [])),
  (69, (0, 8, 0, 71, [])),
  (71, (32, 3, ((98 : Nat) : Int), 74, [])),
  (74, (2, ((0 : Nat) : Int), 0, 75, [])),
  (75, (35, ((9 : Nat) : Int), ((8 : Nat) : Int), 78, [])),
  (78, (1, ((8 : Nat) : Int), 0, 80, [])),
  (80, (2, ((0 : Nat) : Int), 0, 81, [])),
  (81, (35, ((9 : Nat) : Int), ((5 : Nat) : Int), 84, [])),
  (84, (1, ((5 : Nat) : Int), 0, 86, [])),
  (86, (1, ((8 : Nat) : Int), 0, 88, [])),
  (88, (8, 0, 0, 89, [])),
  (89, (38, 0, 0, 90, [])),
  (90, (25, 0, 0, 91, [])),
  (91, (39, 2, 0, 92, [])),
  (92, (7, ((8 : Nat) : Int), 1, 95, [])),
  (95, (33, ((67 : Nat) : Int), 0, 0, [])),
  (98, (2, ((0 : Nat) : Int), 0, 99, [])),
  (99, (35, ((9 : Nat) : Int), ((5 : Nat) : Int), 102, [])),
  (102, (1, ((5 : Nat) : Int), 0, 104, [])),
  (104, (1, ((3 : Nat) : Int), 0, 105, [])),
  (105, (8, 0, 0, 106, [])),
  (106, (1, ((7 : Nat) : Int), 0, 108, [])),
  (108, (39, 0, 0, 109, [])),
  (109, (1, ((6 : Nat) : Int), 0, 111, [])),
  (111, (31, 1, ((131 : Nat) : Int), 114, [])),
  (114, (2, ((0 : Nat) : Int), 0, 115, [])),
  (115, (1, ((1 : Nat) : Int), 0, 116, [])),
  (116, (1, ((5 : Nat) : Int), 0, 118, [])),
  (118, (0, 1000, 0, 121, [])),
  (121, (1, ((7 : Nat) : Int), 0, 123, [])),
  (123, (9, 0, 0, 124, [])),
  (124, (1, ((3 : Nat) : Int), 0, 125, [])),
  (125, (51, ((95 : Nat) : Int), ((5 : Nat) : Int), 128, [9])),
  (128, (33, ((146 : Nat) : Int), 0, 0, [])),
  (131, (2, ((0 : Nat) : Int), 0, 132, [])),
  (132, (1, ((1 : Nat) : Int), 0, 133, [])),
  (133, (1, ((5 : Nat) : Int), 0, 135, [])),
  (135, (0, 1000, 0, 138, [])),
  (138, (1, ((7 : Nat) : Int), 0, 140, [])),
  (140, (9, 0, 0, 141, [])),
  (141, (25, 0, 0, 142, [])),
  (142, (1, ((3 : Nat) : Int), 0, 143, [])),
  (143, (51, ((109 : Nat) : Int), ((5 : Nat) : Int), 146, [9])),
  (146, (2, ((0 : Nat) : Int), 0, 147, [])),
  (147, (1, ((1 : Nat) : Int), 0, 148, [])),
  (148, (1, ((5 : Nat) : Int), 0, 150, [])),
  (150, (51, ((112 : Nat) : Int), ((3 : Nat) : Int), 153, [9])),
  (153, (48, 4, 0, 0, []))]
theorem tk_X9_raiseBy_0 : tOk mi_X9_raiseBy ((tl_X9_raiseBy.drop 0).take 45) = true := by decide +kernel
theorem tk_X9_raiseBy_1 : tOk mi_X9_raiseBy ((tl_X9_raiseBy.drop 45).take 45) = true := by decide +kernel
theorem tk_X9_raiseBy : tOk mi_X9_raiseBy tl_X9_raiseBy = true := by
  refine tOk_cut 45 (by decide) (fun q hq => ?_)
  have hl : tl_X9_raiseBy.length = 89 := by decide +kernel
  rw [hl] at hq
  rcases (show q = 0 ∨ q = 1 by omega) with rfl | rfl
  · exact tk_X9_raiseBy_0
  · exact tk_X9_raiseBy_1
def pm_X9_raiseBy (pc : Nat) : Option PT := if [67].contains pc then none else tl_X9_raiseBy.lookup pc
theorem pk_X9_raiseBy : ∀ pc pt, pm_X9_raiseBy pc = some pt → okPt mi_X9_raiseBy pc pt := fun pc pt h => tOk_pm tk_X9_raiseBy h
section
variable {E : ET} {g : GT} {d : Nat} {lm : Nat × Nat} {RT : RTy} {F : FT} {n : Nat} {L : LV} {st : List AV} {h : AH}
theorem r_X9_raiseBy_0 : run E g mi_X9_raiseBy d lm RT F pm_X9_raiseBy (n + 1) 0 L st h = exI E d lm RT F (run E g mi_X9_raiseBy d lm RT F pm_X9_raiseBy n) (2, ((0 : Nat) : Int), 0, 1, []) L st h := run_s rfl
theorem r_X9_raiseBy_1 : run E g mi_X9_raiseBy d lm RT F pm_X9_raiseBy (n + 1) 1 L st h = exI E d lm RT F (run E g mi_X9_raiseBy d lm RT F pm_X9_raiseBy n) (1, ((1 : Nat) : Int), 0, 2, []) L st h := run_s rfl
theorem r_X9_raiseBy_2 : run E g mi_X9_raiseBy d lm RT F pm_X9_raiseBy (n + 1) 2 L st h = exI E d lm RT F (run E g mi_X9_raiseBy d lm RT F pm_X9_raiseBy n) (51, ((93 : Nat) : Int), ((2 : Nat) : Int), 5, [9]) L st h := run_s rfl
theorem r_X9_raiseBy_5 : run E g mi_X9_raiseBy d lm RT F pm_X9_raiseBy (n + 1) 5 L st h = exI E d lm RT F (run E g mi_X9_raiseBy d lm RT F pm_X9_raiseBy n) (0, 2, 0, 6, []) L st h := run_s rfl
theorem r_X9_raiseBy_6 : run E g mi_X9_raiseBy d lm RT F pm_X9_raiseBy (n + 1) 6 L st h = exI E d lm RT F (run E g mi_X9_raiseBy d lm RT F pm_X9_raiseBy n) (32, 3, ((10 : Nat) : Int), 9, []) L st h := run_s rfl
theorem r_X9_raiseBy_9 : run E g mi_X9_raiseBy d lm RT F pm_X9_raiseBy (n + 1) 9 L st h = exI E d lm RT F (run E g mi_X9_raiseBy d lm RT F pm_X9_raiseBy n) (48, 4, 0, 0, []) L st h := run_s rfl
theorem r_X9_raiseBy_10 : run E g mi_X9_raiseBy d lm RT F pm_X9_raiseBy (n + 1) 10 L st h = exI E d lm RT F (run E g mi_X9_raiseBy d lm RT F pm_X9_raiseBy n) (1, ((1 : Nat) : Int), 0, 11, []) L st h := run_s rfl
theorem r_X9_raiseBy_11 : run E g mi_X9_raiseBy d lm RT F pm_X9_raiseBy (n + 1) 11 L st h = exI E d lm RT F (run E g mi_X9_raiseBy d lm RT F pm_X9_raiseBy n) (1, ((2 : Nat) : Int), 0, 12, []) L st h := run_s rfl
theorem r_X9_raiseBy_12 : run E g mi_X9_raiseBy d lm RT F pm_X9_raiseBy (n + 1) 12 L st h = exI E d lm RT F (run E g mi_X9_raiseBy d lm RT F pm_X9_raiseBy n) (45, ((94 : Nat) : Int), ((2 : Nat) : Int), 15, []) L st h := run_s rfl
theorem r_X9_raiseBy_15 : run E g mi_X9_raiseBy d lm RT F pm_X9_raiseBy (n + 1) 15 L st h = exI E d lm RT F (run E g mi_X9_raiseBy d lm RT F pm_X9_raiseBy n) (4, ((5 : Nat) : Int), 0, 17, []) L st h := run_s rfl
theorem r_X9_raiseBy_17 : run E g mi_X9_raiseBy d lm RT F pm_X9_raiseBy (n + 1) 17 L st h = exI E d lm RT F (run E g mi_X9_raiseBy d lm RT F pm_X9_raiseBy n) (0, 1000, 0, 20, []) L st h := run_s rfl
theorem r_X9_raiseBy_20 : run E g mi_X9_raiseBy d lm RT F pm_X9_raiseBy (n + 1) 20 L st h = exI E d lm RT F (run E g mi_X9_raiseBy d lm RT F pm_X9_raiseBy n) (2, ((0 : Nat) : Int), 0, 21, []) L st h := run_s rfl
theorem r_X9_raiseBy_21 : run E g mi_X9_raiseBy d lm RT F pm_X9_raiseBy (n + 1) 21 L st h = exI E d lm RT F (run E g mi_X9_raiseBy d lm RT F pm_X9_raiseBy n) (35, ((9 : Nat) : Int), ((5 : Nat) : Int), 24, []) L st h := run_s rfl
theorem r_X9_raiseBy_24 : run E g mi_X9_raiseBy d lm RT F pm_X9_raiseBy (n + 1) 24 L st h = exI E d lm RT F (run E g mi_X9_raiseBy d lm RT F pm_X9_raiseBy n) (1, ((5 : Nat) : Int), 0, 26, []) L st h := run_s rfl
theorem r_X9_raiseBy_26 : run E g mi_X9_raiseBy d lm RT F pm_X9_raiseBy (n + 1) 26 L st h = exI E d lm RT F (run E g mi_X9_raiseBy d lm RT F pm_X9_raiseBy n) (1, ((3 : Nat) : Int), 0, 27, []) L st h := run_s rfl
theorem r_X9_raiseBy_27 : run E g mi_X9_raiseBy d lm RT F pm_X9_raiseBy (n + 1) 27 L st h = exI E d lm RT F (run E g mi_X9_raiseBy d lm RT F pm_X9_raiseBy n) (8, 0, 0, 28, []) L st h := run_s rfl
theorem r_X9_raiseBy_28 : run E g mi_X9_raiseBy d lm RT F pm_X9_raiseBy (n + 1) 28 L st h = exI E d lm RT F (run E g mi_X9_raiseBy d lm RT F pm_X9_raiseBy n) (38, 0, 0, 29, []) L st h := run_s rfl
theorem r_X9_raiseBy_29 : run E g mi_X9_raiseBy d lm RT F pm_X9_raiseBy (n + 1) 29 L st h = exI E d lm RT F (run E g mi_X9_raiseBy d lm RT F pm_X9_raiseBy n) (9, 0, 0, 30, []) L st h := run_s rfl
theorem r_X9_raiseBy_30 : run E g mi_X9_raiseBy d lm RT F pm_X9_raiseBy (n + 1) 30 L st h = exI E d lm RT F (run E g mi_X9_raiseBy d lm RT F pm_X9_raiseBy n) (4, ((6 : Nat) : Int), 0, 32, []) L st h := run_s rfl
theorem r_X9_raiseBy_32 : run E g mi_X9_raiseBy d lm RT F pm_X9_raiseBy (n + 1) 32 L st h = exI E d lm RT F (run E g mi_X9_raiseBy d lm RT F pm_X9_raiseBy n) (2, ((0 : Nat) : Int), 0, 33, []) L st h := run_s rfl
theorem r_X9_raiseBy_33 : run E g mi_X9_raiseBy d lm RT F pm_X9_raiseBy (n + 1) 33 L st h = exI E d lm RT F (run E g mi_X9_raiseBy d lm RT F pm_X9_raiseBy n) (35, ((9 : Nat) : Int), ((5 : Nat) : Int), 36, []) L st h := run_s rfl
theorem r_X9_raiseBy_36 : run E g mi_X9_raiseBy d lm RT F pm_X9_raiseBy (n + 1) 36 L st h = exI E d lm RT F (run E g mi_X9_raiseBy d lm RT F pm_X9_raiseBy n) (1, ((5 : Nat) : Int), 0, 38, []) L st h := run_s rfl
theorem r_X9_raiseBy_38 : run E g mi_X9_raiseBy d lm RT F pm_X9_raiseBy (n + 1) 38 L st h = exI E d lm RT F (run E g mi_X9_raiseBy d lm RT F pm_X9_raiseBy n) (1, ((3 : Nat) : Int), 0, 39, []) L st h := run_s rfl
theorem r_X9_raiseBy_39 : run E g mi_X9_raiseBy d lm RT F pm_X9_raiseBy (n + 1) 39 L st h = exI E d lm RT F (run E g mi_X9_raiseBy d lm RT F pm_X9_raiseBy n) (8, 0, 0, 40, []) L st h := run_s rfl
theorem r_X9_raiseBy_40 : run E g mi_X9_raiseBy d lm RT F pm_X9_raiseBy (n + 1) 40 L st h = exI E d lm RT F (run E g mi_X9_raiseBy d lm RT F pm_X9_raiseBy n) (38, 0, 0, 41, []) L st h := run_s rfl
theorem r_X9_raiseBy_41 : run E g mi_X9_raiseBy d lm RT F pm_X9_raiseBy (n + 1) 41 L st h = exI E d lm RT F (run E g mi_X9_raiseBy d lm RT F pm_X9_raiseBy n) (0, 1000, 0, 44, []) L st h := run_s rfl
theorem r_X9_raiseBy_44 : run E g mi_X9_raiseBy d lm RT F pm_X9_raiseBy (n + 1) 44 L st h = exI E d lm RT F (run E g mi_X9_raiseBy d lm RT F pm_X9_raiseBy n) (2, ((0 : Nat) : Int), 0, 45, []) L st h := run_s rfl
theorem r_X9_raiseBy_45 : run E g mi_X9_raiseBy d lm RT F pm_X9_raiseBy (n + 1) 45 L st h = exI E d lm RT F (run E g mi_X9_raiseBy d lm RT F pm_X9_raiseBy n) (35, ((9 : Nat) : Int), ((5 : Nat) : Int), 48, []) L st h := run_s rfl
theorem r_X9_raiseBy_48 : run E g mi_X9_raiseBy d lm RT F pm_X9_raiseBy (n + 1) 48 L st h = exI E d lm RT F (run E g mi_X9_raiseBy d lm RT F pm_X9_raiseBy n) (1, ((5 : Nat) : Int), 0, 50, []) L st h := run_s rfl
theorem r_X9_raiseBy_50 : run E g mi_X9_raiseBy d lm RT F pm_X9_raiseBy (n + 1) 50 L st h = exI E d lm RT F (run E g mi_X9_raiseBy d lm RT F pm_X9_raiseBy n) (1, ((3 : Nat) : Int), 0, 51, []) L st h := run_s rfl
theorem r_X9_raiseBy_51 : run E g mi_X9_raiseBy d lm RT F pm_X9_raiseBy (n + 1) 51 L st h = exI E d lm RT F (run E g mi_X9_raiseBy d lm RT F pm_X9_raiseBy n) (8, 0, 0, 52, []) L st h := run_s rfl
theorem r_X9_raiseBy_52 : run E g mi_X9_raiseBy d lm RT F pm_X9_raiseBy (n + 1) 52 L st h = exI E d lm RT F (run E g mi_X9_raiseBy d lm RT F pm_X9_raiseBy n) (38, 0, 0, 53, []) L st h := run_s rfl
theorem r_X9_raiseBy_53 : run E g mi_X9_raiseBy d lm RT F pm_X9_raiseBy (n + 1) 53 L st h = exI E d lm RT F (run E g mi_X9_raiseBy d lm RT F pm_X9_raiseBy n) (9, 0, 0, 54, []) L st h := run_s rfl
theorem r_X9_raiseBy_54 : run E g mi_X9_raiseBy d lm RT F pm_X9_raiseBy (n + 1) 54 L st h = exI E d lm RT F (run E g mi_X9_raiseBy d lm RT F pm_X9_raiseBy n) (1, ((4 : Nat) : Int), 0, 56, []) L st h := run_s rfl
theorem r_X9_raiseBy_56 : run E g mi_X9_raiseBy d lm RT F pm_X9_raiseBy (n + 1) 56 L st h = exI E d lm RT F (run E g mi_X9_raiseBy d lm RT F pm_X9_raiseBy n) (10, 0, 0, 57, []) L st h := run_s rfl
theorem r_X9_raiseBy_57 : run E g mi_X9_raiseBy d lm RT F pm_X9_raiseBy (n + 1) 57 L st h = exI E d lm RT F (run E g mi_X9_raiseBy d lm RT F pm_X9_raiseBy n) (0, 1000, 0, 60, []) L st h := run_s rfl
theorem r_X9_raiseBy_60 : run E g mi_X9_raiseBy d lm RT F pm_X9_raiseBy (n + 1) 60 L st h = exI E d lm RT F (run E g mi_X9_raiseBy d lm RT F pm_X9_raiseBy n) (11, 0, 0, 61, []) L st h := run_s rfl
theorem r_X9_raiseBy_61 : run E g mi_X9_raiseBy d lm RT F pm_X9_raiseBy (n + 1) 61 L st h = exI E d lm RT F (run E g mi_X9_raiseBy d lm RT F pm_X9_raiseBy n) (8, 0, 0, 62, []) L st h := run_s rfl
theorem r_X9_raiseBy_62 : run E g mi_X9_raiseBy d lm RT F pm_X9_raiseBy (n + 1) 62 L st h = exI E d lm RT F (run E g mi_X9_raiseBy d lm RT F pm_X9_raiseBy n) (4, ((7 : Nat) : Int), 0, 64, []) L st h := run_s rfl
theorem r_X9_raiseBy_64 : run E g mi_X9_raiseBy d lm RT F pm_X9_raiseBy (n + 1) 64 L st h = exI E d lm RT F (run E g mi_X9_raiseBy d lm RT F pm_X9_raiseBy n) (0, 0, 0, 65, []) L st h := run_s rfl
theorem r_X9_raiseBy_65 : run E g mi_X9_raiseBy d lm RT F pm_X9_raiseBy (n + 1) 65 L st h = exI E d lm RT F (run E g mi_X9_raiseBy d lm RT F pm_X9_raiseBy n) (4, ((8 : Nat) : Int), 0, 67, []) L st h := run_s rfl
theorem r_X9_raiseBy_67 : run E g mi_X9_raiseBy d lm RT F pm_X9_raiseBy (n + 1) 67 L st h = G E g mi_X9_raiseBy d lm RT 67 L st h := run_c rfl
theorem q_X9_raiseBy_67 (n : Nat) (hF : FOk E d F) (hx : exI E d lm RT F (run E g mi_X9_raiseBy d lm RT F pm_X9_raiseBy n) (1, ((8 : Nat) : Int), 0, 69, []) L st h) : G E g mi_X9_raiseBy d lm RT 67 L st h := sstep hF (tOk_spec tk_X9_raiseBy (by decide +kernel)) (run_sound hF pk_X9_raiseBy n) hx
theorem r_X9_raiseBy_69 : run E g mi_X9_raiseBy d lm RT F pm_X9_raiseBy (n + 1) 69 L st h = exI E d lm RT F (run E g mi_X9_raiseBy d lm RT F pm_X9_raiseBy n) (0, 8, 0, 71, []) L st h := run_s rfl
theorem r_X9_raiseBy_71 : run E g mi_X9_raiseBy d lm RT F pm_X9_raiseBy (n + 1) 71 L st h = exI E d lm RT F (run E g mi_X9_raiseBy d lm RT F pm_X9_raiseBy n) (32, 3, ((98 : Nat) : Int), 74, []) L st h := run_s rfl
theorem r_X9_raiseBy_74 : run E g mi_X9_raiseBy d lm RT F pm_X9_raiseBy (n + 1) 74 L st h = exI E d lm RT F (run E g mi_X9_raiseBy d lm RT F pm_X9_raiseBy n) (2, ((0 : Nat) : Int), 0, 75, []) L st h := run_s rfl
theorem r_X9_raiseBy_75 : run E g mi_X9_raiseBy d lm RT F pm_X9_raiseBy (n + 1) 75 L st h = exI E d lm RT F (run E g mi_X9_raiseBy d lm RT F pm_X9_raiseBy n) (35, ((9 : Nat) : Int), ((8 : Nat) : Int), 78, []) L st h := run_s rfl
theorem r_X9_raiseBy_78 : run E g mi_X9_raiseBy d lm RT F pm_X9_raiseBy (n + 1) 78 L st h = exI E d lm RT F (run E g mi_X9_raiseBy d lm RT F pm_X9_raiseBy n) (1, ((8 : Nat) : Int), 0, 80, []) L st h := run_s rfl
theorem r_X9_raiseBy_80 : run E g mi_X9_raiseBy d lm RT F pm_X9_raiseBy (n + 1) 80 L st h = exI E d lm RT F (run E g mi_X9_raiseBy d lm RT F pm_X9_raiseBy n) (2, ((0 : Nat) : Int), 0, 81, []) L st h := run_s rfl
theorem r_X9_raiseBy_81 : run E g mi_X9_raiseBy d lm RT F pm_X9_raiseBy (n + 1) 81 L st h = exI E d lm RT F (run E g mi_X9_raiseBy d lm RT F pm_X9_raiseBy n) (35, ((9 : Nat) : Int), ((5 : Nat) : Int), 84, []) L st h := run_s rfl
theorem r_X9_raiseBy_84 : run E g mi_X9_raiseBy d lm RT F pm_X9_raiseBy (n + 1) 84 L st h = exI E d lm RT F (run E g mi_X9_raiseBy d lm RT F pm_X9_raiseBy n) (1, ((5 : Nat) : Int), 0, 86, []) L st h := run_s rfl
theorem r_X9_raiseBy_86 : run E g mi_X9_raiseBy d lm RT F pm_X9_raiseBy (n + 1) 86 L st h = exI E d lm RT F (run E g mi_X9_raiseBy d lm RT F pm_X9_raiseBy n) (1, ((8 : Nat) : Int), 0, 88, []) L st h := run_s rfl
theorem r_X9_raiseBy_88 : run E g mi_X9_raiseBy d lm RT F pm_X9_raiseBy (n + 1) 88 L st h = exI E d lm RT F (run E g mi_X9_raiseBy d lm RT F pm_X9_raiseBy n) (8, 0, 0, 89, []) L st h := run_s rfl
theorem r_X9_raiseBy_89 : run E g mi_X9_raiseBy d lm RT F pm_X9_raiseBy (n + 1) 89 L st h = exI E d lm RT F (run E g mi_X9_raiseBy d lm RT F pm_X9_raiseBy n) (38, 0, 0, 90, []) L st h := run_s rfl
theorem r_X9_raiseBy_90 : run E g mi_X9_raiseBy d lm RT F pm_X9_raiseBy (n + 1) 90 L st h = exI E d lm RT F (run E g mi_X9_raiseBy d lm RT F pm_X9_raiseBy n) (25, 0, 0, 91, []) L st h := run_s rfl
theorem r_X9_raiseBy_91 : run E g mi_X9_raiseBy d lm RT F pm_X9_raiseBy (n + 1) 91 L st h = exI E d lm RT F (run E g mi_X9_raiseBy d lm RT F pm_X9_raiseBy n) (39, 2, 0, 92, []) L st h := run_s rfl
theorem r_X9_raiseBy_92 : run E g mi_X9_raiseBy d lm RT F pm_X9_raiseBy (n + 1) 92 L st h = exI E d lm RT F (run E g mi_X9_raiseBy d lm RT F pm_X9_raiseBy n) (7, ((8 : Nat) : Int), 1, 95, []) L st h := run_s rfl
theorem r_X9_raiseBy_95 : run E g mi_X9_raiseBy d lm RT F pm_X9_raiseBy (n + 1) 95 L st h = exI E d lm RT F (run E g mi_X9_raiseBy d lm RT F pm_X9_raiseBy n) (33, ((67 : Nat) : Int), 0, 0, []) L st h := run_s rfl
theorem r_X9_raiseBy_98 : run E g mi_X9_raiseBy d lm RT F pm_X9_raiseBy (n + 1) 98 L st h = exI E d lm RT F (run E g mi_X9_raiseBy d lm RT F pm_X9_raiseBy n) (2, ((0 : Nat) : Int), 0, 99, []) L st h := run_s rfl
theorem r_X9_raiseBy_99 : run E g mi_X9_raiseBy d lm RT F pm_X9_raiseBy (n + 1) 99 L st h = exI E d lm RT F (run E g mi_X9_raiseBy d lm RT F pm_X9_raiseBy n) (35, ((9 : Nat) : Int), ((5 : Nat) : Int), 102, []) L st h := run_s rfl
theorem r_X9_raiseBy_102 : run E g mi_X9_raiseBy d lm RT F pm_X9_raiseBy (n + 1) 102 L st h = exI E d lm RT F (run E g mi_X9_raiseBy d lm RT F pm_X9_raiseBy n) (1, ((5 : Nat) : Int), 0, 104, []) L st h := run_s rfl
theorem r_X9_raiseBy_104 : run E g mi_X9_raiseBy d lm RT F pm_X9_raiseBy (n + 1) 104 L st h = exI E d lm RT F (run E g mi_X9_raiseBy d lm RT F pm_X9_raiseBy n) (1, ((3 : Nat) : Int), 0, 105, []) L st h := run_s rfl
theorem r_X9_raiseBy_105 : run E g mi_X9_raiseBy d lm RT F pm_X9_raiseBy (n + 1) 105 L st h = exI E d lm RT F (run E g mi_X9_raiseBy d lm RT F pm_X9_raiseBy n) (8, 0, 0, 106, []) L st h := run_s rfl
theorem r_X9_raiseBy_106 : run E g mi_X9_raiseBy d lm RT F pm_X9_raiseBy (n + 1) 106 L st h = exI E d lm RT F (run E g mi_X9_raiseBy d lm RT F pm_X9_raiseBy n) (1, ((7 : Nat) : Int), 0, 108, []) L st h := run_s rfl
theorem r_X9_raiseBy_108 : run E g mi_X9_raiseBy d lm RT F pm_X9_raiseBy (n + 1) 108 L st h = exI E d lm RT F (run E g mi_X9_raiseBy d lm RT F pm_X9_raiseBy n) (39, 0, 0, 109, []) L st h := run_s rfl
theorem r_X9_raiseBy_109 : run E g mi_X9_raiseBy d lm RT F pm_X9_raiseBy (n + 1) 109 L st h = exI E d lm RT F (run E g mi_X9_raiseBy d lm RT F pm_X9_raiseBy n) (1, ((6 : Nat) : Int), 0, 111, []) L st h := run_s rfl
theorem r_X9_raiseBy_111 : run E g mi_X9_raiseBy d lm RT F pm_X9_raiseBy (n + 1) 111 L st h = exI E d lm RT F (run E g mi_X9_raiseBy d lm RT F pm_X9_raiseBy n) (31, 1, ((131 : Nat) : Int), 114, []) L st h := run_s rfl
theorem r_X9_raiseBy_114 : run E g mi_X9_raiseBy d lm RT F pm_X9_raiseBy (n + 1) 114 L st h = exI E d lm RT F (run E g mi_X9_raiseBy d lm RT F pm_X9_raiseBy n) (2, ((0 : Nat) : Int), 0, 115, []) L st h := run_s rfl
theorem r_X9_raiseBy_115 : run E g mi_X9_raiseBy d lm RT F pm_X9_raiseBy (n + 1) 115 L st h = exI E d lm RT F (run E g mi_X9_raiseBy d lm RT F pm_X9_raiseBy n) (1, ((1 : Nat) : Int), 0, 116, []) L st h := run_s rfl
theorem r_X9_raiseBy_116 : run E g mi_X9_raiseBy d lm RT F pm_X9_raiseBy (n + 1) 116 L st h = exI E d lm RT F (run E g mi_X9_raiseBy d lm RT F pm_X9_raiseBy n) (1, ((5 : Nat) : Int), 0, 118, []) L st h := run_s rfl
theorem r_X9_raiseBy_118 : run E g mi_X9_raiseBy d lm RT F pm_X9_raiseBy (n + 1) 118 L st h = exI E d lm RT F (run E g mi_X9_raiseBy d lm RT F pm_X9_raiseBy n) (0, 1000, 0, 121, []) L st h := run_s rfl
theorem r_X9_raiseBy_121 : run E g mi_X9_raiseBy d lm RT F pm_X9_raiseBy (n + 1) 121 L st h = exI E d lm RT F (run E g mi_X9_raiseBy d lm RT F pm_X9_raiseBy n) (1, ((7 : Nat) : Int), 0, 123, []) L st h := run_s rfl
theorem r_X9_raiseBy_123 : run E g mi_X9_raiseBy d lm RT F pm_X9_raiseBy (n + 1) 123 L st h = exI E d lm RT F (run E g mi_X9_raiseBy d lm RT F pm_X9_raiseBy n) (9, 0, 0, 124, []) L st h := run_s rfl
theorem r_X9_raiseBy_124 : run E g mi_X9_raiseBy d lm RT F pm_X9_raiseBy (n + 1) 124 L st h = exI E d lm RT F (run E g mi_X9_raiseBy d lm RT F pm_X9_raiseBy n) (1, ((3 : Nat) : Int), 0, 125, []) L st h := run_s rfl
theorem r_X9_raiseBy_125 : run E g mi_X9_raiseBy d lm RT F pm_X9_raiseBy (n + 1) 125 L st h = exI E d lm RT F (run E g mi_X9_raiseBy d lm RT F pm_X9_raiseBy n) (51, ((95 : Nat) : Int), ((5 : Nat) : Int), 128, [9]) L st h := run_s rfl
theorem r_X9_raiseBy_128 : run E g mi_X9_raiseBy d lm RT F pm_X9_raiseBy (n + 1) 128 L st h = exI E d lm RT F (run E g mi_X9_raiseBy d lm RT F pm_X9_raiseBy n) (33, ((146 : Nat) : Int), 0, 0, []) L st h := run_s rfl
theorem r_X9_raiseBy_131 : run E g mi_X9_raiseBy d lm RT F pm_X9_raiseBy (n + 1) 131 L st h = exI E d lm RT F (run E g mi_X9_raiseBy d lm RT F pm_X9_raiseBy n) (2, ((0 : Nat) : Int), 0, 132, []) L st h := run_s rfl
theorem r_X9_raiseBy_132 : run E g mi_X9_raiseBy d lm RT F pm_X9_raiseBy (n + 1) 132 L st h = exI E d lm RT F (run E g mi_X9_raiseBy d lm RT F pm_X9_raiseBy n) (1, ((1 : Nat) : Int), 0, 133, []) L st h := run_s rfl
theorem r_X9_raiseBy_133 : run E g mi_X9_raiseBy d lm RT F pm_X9_raiseBy (n + 1) 133 L st h = exI E d lm RT F (run E g mi_X9_raiseBy d lm RT F pm_X9_raiseBy n) (1, ((5 : Nat) : Int), 0, 135, []) L st h := run_s rfl
theorem r_X9_raiseBy_135 : run E g mi_X9_raiseBy d lm RT F pm_X9_raiseBy (n + 1) 135 L st h = exI E d lm RT F (run E g mi_X9_raiseBy d lm RT F pm_X9_raiseBy n) (0, 1000, 0, 138, []) L st h := run_s rfl
theorem r_X9_raiseBy_138 : run E g mi_X9_raiseBy d lm RT F pm_X9_raiseBy (n + 1) 138 L st h = exI E d lm RT F (run E g mi_X9_raiseBy d lm RT F pm_X9_raiseBy n) (1, ((7 : Nat) : Int), 0, 140, []) L st h := run_s rfl
theorem r_X9_raiseBy_140 : run E g mi_X9_raiseBy d lm RT F pm_X9_raiseBy (n + 1) 140 L st h = exI E d lm RT F (run E g mi_X9_raiseBy d lm RT F pm_X9_raiseBy n) (9, 0, 0, 141, []) L st h := run_s rfl
theorem r_X9_raiseBy_141 : run E g mi_X9_raiseBy d lm RT F pm_X9_raiseBy (n + 1) 141 L st h = exI E d lm RT F (run E g mi_X9_raiseBy d lm RT F pm_X9_raiseBy n) (25, 0, 0, 142, []) L st h := run_s rfl
theorem r_X9_raiseBy_142 : run E g mi_X9_raiseBy d lm RT F pm_X9_raiseBy (n + 1) 142 L st h = exI E d lm RT F (run E g mi_X9_raiseBy d lm RT F pm_X9_raiseBy n) (1, ((3 : Nat) : Int), 0, 143, []) L st h := run_s rfl
theorem r_X9_raiseBy_143 : run E g mi_X9_raiseBy d lm RT F pm_X9_raiseBy (n + 1) 143 L st h = exI E d lm RT F (run E g mi_X9_raiseBy d lm RT F pm_X9_raiseBy n) (51, ((109 : Nat) : Int), ((5 : Nat) : Int), 146, [9]) L st h := run_s rfl
theorem r_X9_raiseBy_146 : run E g mi_X9_raiseBy d lm RT F pm_X9_raiseBy (n + 1) 146 L st h = exI E d lm RT F (run E g mi_X9_raiseBy d lm RT F pm_X9_raiseBy n) (2, ((0 : Nat) : Int), 0, 147, []) L st h := run_s rfl
theorem r_X9_raiseBy_147 : run E g mi_X9_raiseBy d lm RT F pm_X9_raiseBy (n + 1) 147 L st h = exI E d lm RT F (run E g mi_X9_raiseBy d lm RT F pm_X9_raiseBy n) (1, ((1 : Nat) : Int), 0, 148, []) L st h := run_s rfl
theorem r_X9_raiseBy_148 : run E g mi_X9_raiseBy d lm RT F pm_X9_raiseBy (n + 1) 148 L st h = exI E d lm RT F (run E g mi_X9_raiseBy d lm RT F pm_X9_raiseBy n) (1, ((5 : Nat) : Int), 0, 150, []) L st h := run_s rfl
theorem r_X9_raiseBy_150 : run E g mi_X9_raiseBy d lm RT F pm_X9_raiseBy (n + 1) 150 L st h = exI E d lm RT F (run E g mi_X9_raiseBy d lm RT F pm_X9_raiseBy n) (51, ((112 : Nat) : Int), ((3 : Nat) : Int), 153, [9]) L st h := run_s rfl
theorem r_X9_raiseBy_153 : run E g mi_X9_raiseBy d lm RT F pm_X9_raiseBy (n + 1) 153 L st h = exI E d lm RT F (run E g mi_X9_raiseBy d lm RT F pm_X9_raiseBy n) (48, 4, 0, 0, []) L st h := run_s rfl
theorem e_X9_raiseBy (n : Nat) {pc : Nat} (hF : FOk E d F) (hx : run E g mi_X9_raiseBy d lm RT F pm_X9_raiseBy n pc L st h) : G E g mi_X9_raiseBy d lm RT pc L st h := run_sound hF pk_X9_raiseBy n pc L st h hx
end
def mi_X9_fade : MI := (9, cX9_fade, 5, 0, false)
theorem mo_X9_fade : miOk mi_X9_fade (mt 114) = true := by decide +kernel
def tl_X9_fade : List (Nat × PT) := [(0, (1, ((1 : Nat) : Int), 0, 1, [])),
  (1, (0, 0, 0, 2, [])),
  (2, (0, 1000, 0, 5, [])),
  (5, (45, ((90 : Nat) : Int), ((3 : Nat) : Int), 8, [])),
  (8, (31, 1, ((14 : Nat) : Int), 11, [])),
  (11, (0, (-2), 0, 13, [])),
  (13, (48, 0, 0, 0, [])),
  (14, (0, 0, 0, 15, [])),
  (15, (4, ((2 : Nat) : Int), 0, 16, [])),
  (16, (0, 0, 0, 17, [])),
  (17, (4, ((3 : Nat) : Int), 0, 18, [])),
  (18, (1, ((3 : Nat) : Int), 0, 19, [])),
  (19, (0, 64, 0, 21, [])),
  (21, (32, 3, ((68 : Nat) : Int), 24, [])),
  (24, (1, ((3 : Nat) : Int), 0, 25, [])),
  (25, (0, 8, 0, 27, [])),
  (27, (11, 0, 0, 28, [])),
  (28, (4, ((4 : Nat) : Int), 0, 30, [])),
  (30, (1, ((4 : Nat) : Int), 0, 32, [])),
  (32, (1, ((3 : Nat) : Int), 0, 33, [])),
  (33, (0, 8, 0, 35, [])),
  (35, (12, 0, 0, 36, [])),
  (36, (32, 0, ((62 : Nat) : Int), 39, [])),
  (39, (2, ((0 : Nat) : Int), 0, 40, [])),
  (40, (1, ((4 : Nat) : Int), 0, 42, [])),
  (42, (51, ((93 : Nat) : Int), ((2 : Nat) : Int), 45, [9])),
  (45, (31, 5, ((62 : Nat) : Int), 48, [])),
  (48, (1, ((2 : Nat) : Int), 0, 49, [])),
  (49, (2, ((0 : Nat) : Int), 0, 50, [])),
  (50, (1, ((4 : Nat) : Int), 0, 52, [])),
  (52, (0, 8, 0, 54, [])),
  (54, (1, ((3 : Nat) : Int), 0, 55, [])),
  (55, (10, 0, 0, 56, [])),
  (56, (1, ((1 : Nat) : Int), 0, 57, [])),
  (57, (51, ((115 : Nat) : Int), ((4 : Nat) : Int), 60, [9])),
  (60, (8, 0, 0, 61, [])),
  (61, (4, ((2 : Nat) : Int), 0, 62, [])),
  (62, (7, ((3 : Nat) : Int), 1, 65, [])),
  (65, (33, ((18 : Nat) : Int), 0, 0, [])),
  (68, (1, ((2 : Nat) : Int), 0, 69, [])),
  (69, (48, 0, 0, 0, []))]
theorem tk_X9_fade : tOk mi_X9_fade tl_X9_fade = true := by decide +kernel
def pm_X9_fade (pc : Nat) : Option PT := if [18].contains pc then none else tl_X9_fade.lookup pc
theorem pk_X9_fade : ∀ pc pt, pm_X9_fade pc = some pt → okPt mi_X9_fade pc pt := fun pc pt h => tOk_pm tk_X9_fade h
section
variable {E : ET} {g : GT} {d : Nat} {lm : Nat × Nat} {RT : RTy} {F : FT} {n : Nat} {L : LV} {st : List AV} {h : AH}
theorem r_X9_fade_0 : run E g mi_X9_fade d lm RT F pm_X9_fade (n + 1) 0 L st h = exI E d lm RT F (run E g mi_X9_fade d lm RT F pm_X9_fade n) (1, ((1 : Nat) : Int), 0, 1, []) L st h := run_s rfl
theorem r_X9_fade_1 : run E g mi_X9_fade d lm RT F pm_X9_fade (n + 1) 1 L st h = exI E d lm RT F (run E g mi_X9_fade d lm RT F pm_X9_fade n) (0, 0, 0, 2, []) L st h := run_s rfl
theorem r_X9_fade_2 : run E g mi_X9_fade d lm RT F pm_X9_fade (n + 1) 2 L st h = exI E d lm RT F (run E g mi_X9_fade d lm RT F pm_X9_fade n) (0, 1000, 0, 5, []) L st h := run_s rfl
theorem r_X9_fade_5 : run E g mi_X9_fade d lm RT F pm_X9_fade (n + 1) 5 L st h = exI E d lm RT F (run E g mi_X9_fade d lm RT F pm_X9_fade n) (45, ((90 : Nat) : Int), ((3 : Nat) : Int), 8, []) L st h := run_s rfl
theorem r_X9_fade_8 : run E g mi_X9_fade d lm RT F pm_X9_fade (n + 1) 8 L st h = exI E d lm RT F (run E g mi_X9_fade d lm RT F pm_X9_fade n) (31, 1, ((14 : Nat) : Int), 11, []) L st h := run_s rfl
theorem r_X9_fade_11 : run E g mi_X9_fade d lm RT F pm_X9_fade (n + 1) 11 L st h = exI E d lm RT F (run E g mi_X9_fade d lm RT F pm_X9_fade n) (0, (-2), 0, 13, []) L st h := run_s rfl
theorem r_X9_fade_13 : run E g mi_X9_fade d lm RT F pm_X9_fade (n + 1) 13 L st h = exI E d lm RT F (run E g mi_X9_fade d lm RT F pm_X9_fade n) (48, 0, 0, 0, []) L st h := run_s rfl
theorem r_X9_fade_14 : run E g mi_X9_fade d lm RT F pm_X9_fade (n + 1) 14 L st h = exI E d lm RT F (run E g mi_X9_fade d lm RT F pm_X9_fade n) (0, 0, 0, 15, []) L st h := run_s rfl
theorem r_X9_fade_15 : run E g mi_X9_fade d lm RT F pm_X9_fade (n + 1) 15 L st h = exI E d lm RT F (run E g mi_X9_fade d lm RT F pm_X9_fade n) (4, ((2 : Nat) : Int), 0, 16, []) L st h := run_s rfl
theorem r_X9_fade_16 : run E g mi_X9_fade d lm RT F pm_X9_fade (n + 1) 16 L st h = exI E d lm RT F (run E g mi_X9_fade d lm RT F pm_X9_fade n) (0, 0, 0, 17, []) L st h := run_s rfl
theorem r_X9_fade_17 : run E g mi_X9_fade d lm RT F pm_X9_fade (n + 1) 17 L st h = exI E d lm RT F (run E g mi_X9_fade d lm RT F pm_X9_fade n) (4, ((3 : Nat) : Int), 0, 18, []) L st h := run_s rfl
theorem r_X9_fade_18 : run E g mi_X9_fade d lm RT F pm_X9_fade (n + 1) 18 L st h = G E g mi_X9_fade d lm RT 18 L st h := run_c rfl
theorem q_X9_fade_18 (n : Nat) (hF : FOk E d F) (hx : exI E d lm RT F (run E g mi_X9_fade d lm RT F pm_X9_fade n) (1, ((3 : Nat) : Int), 0, 19, []) L st h) : G E g mi_X9_fade d lm RT 18 L st h := sstep hF (tOk_spec tk_X9_fade (by decide +kernel)) (run_sound hF pk_X9_fade n) hx
theorem r_X9_fade_19 : run E g mi_X9_fade d lm RT F pm_X9_fade (n + 1) 19 L st h = exI E d lm RT F (run E g mi_X9_fade d lm RT F pm_X9_fade n) (0, 64, 0, 21, []) L st h := run_s rfl
theorem r_X9_fade_21 : run E g mi_X9_fade d lm RT F pm_X9_fade (n + 1) 21 L st h = exI E d lm RT F (run E g mi_X9_fade d lm RT F pm_X9_fade n) (32, 3, ((68 : Nat) : Int), 24, []) L st h := run_s rfl
theorem r_X9_fade_24 : run E g mi_X9_fade d lm RT F pm_X9_fade (n + 1) 24 L st h = exI E d lm RT F (run E g mi_X9_fade d lm RT F pm_X9_fade n) (1, ((3 : Nat) : Int), 0, 25, []) L st h := run_s rfl
theorem r_X9_fade_25 : run E g mi_X9_fade d lm RT F pm_X9_fade (n + 1) 25 L st h = exI E d lm RT F (run E g mi_X9_fade d lm RT F pm_X9_fade n) (0, 8, 0, 27, []) L st h := run_s rfl
theorem r_X9_fade_27 : run E g mi_X9_fade d lm RT F pm_X9_fade (n + 1) 27 L st h = exI E d lm RT F (run E g mi_X9_fade d lm RT F pm_X9_fade n) (11, 0, 0, 28, []) L st h := run_s rfl
theorem r_X9_fade_28 : run E g mi_X9_fade d lm RT F pm_X9_fade (n + 1) 28 L st h = exI E d lm RT F (run E g mi_X9_fade d lm RT F pm_X9_fade n) (4, ((4 : Nat) : Int), 0, 30, []) L st h := run_s rfl
theorem r_X9_fade_30 : run E g mi_X9_fade d lm RT F pm_X9_fade (n + 1) 30 L st h = exI E d lm RT F (run E g mi_X9_fade d lm RT F pm_X9_fade n) (1, ((4 : Nat) : Int), 0, 32, []) L st h := run_s rfl
theorem r_X9_fade_32 : run E g mi_X9_fade d lm RT F pm_X9_fade (n + 1) 32 L st h = exI E d lm RT F (run E g mi_X9_fade d lm RT F pm_X9_fade n) (1, ((3 : Nat) : Int), 0, 33, []) L st h := run_s rfl
theorem r_X9_fade_33 : run E g mi_X9_fade d lm RT F pm_X9_fade (n + 1) 33 L st h = exI E d lm RT F (run E g mi_X9_fade d lm RT F pm_X9_fade n) (0, 8, 0, 35, []) L st h := run_s rfl
theorem r_X9_fade_35 : run E g mi_X9_fade d lm RT F pm_X9_fade (n + 1) 35 L st h = exI E d lm RT F (run E g mi_X9_fade d lm RT F pm_X9_fade n) (12, 0, 0, 36, []) L st h := run_s rfl
theorem r_X9_fade_36 : run E g mi_X9_fade d lm RT F pm_X9_fade (n + 1) 36 L st h = exI E d lm RT F (run E g mi_X9_fade d lm RT F pm_X9_fade n) (32, 0, ((62 : Nat) : Int), 39, []) L st h := run_s rfl
theorem r_X9_fade_39 : run E g mi_X9_fade d lm RT F pm_X9_fade (n + 1) 39 L st h = exI E d lm RT F (run E g mi_X9_fade d lm RT F pm_X9_fade n) (2, ((0 : Nat) : Int), 0, 40, []) L st h := run_s rfl
theorem r_X9_fade_40 : run E g mi_X9_fade d lm RT F pm_X9_fade (n + 1) 40 L st h = exI E d lm RT F (run E g mi_X9_fade d lm RT F pm_X9_fade n) (1, ((4 : Nat) : Int), 0, 42, []) L st h := run_s rfl
theorem r_X9_fade_42 : run E g mi_X9_fade d lm RT F pm_X9_fade (n + 1) 42 L st h = exI E d lm RT F (run E g mi_X9_fade d lm RT F pm_X9_fade n) (51, ((93 : Nat) : Int), ((2 : Nat) : Int), 45, [9]) L st h := run_s rfl
theorem r_X9_fade_45 : run E g mi_X9_fade d lm RT F pm_X9_fade (n + 1) 45 L st h = exI E d lm RT F (run E g mi_X9_fade d lm RT F pm_X9_fade n) (31, 5, ((62 : Nat) : Int), 48, []) L st h := run_s rfl
theorem r_X9_fade_48 : run E g mi_X9_fade d lm RT F pm_X9_fade (n + 1) 48 L st h = exI E d lm RT F (run E g mi_X9_fade d lm RT F pm_X9_fade n) (1, ((2 : Nat) : Int), 0, 49, []) L st h := run_s rfl
theorem r_X9_fade_49 : run E g mi_X9_fade d lm RT F pm_X9_fade (n + 1) 49 L st h = exI E d lm RT F (run E g mi_X9_fade d lm RT F pm_X9_fade n) (2, ((0 : Nat) : Int), 0, 50, []) L st h := run_s rfl
theorem r_X9_fade_50 : run E g mi_X9_fade d lm RT F pm_X9_fade (n + 1) 50 L st h = exI E d lm RT F (run E g mi_X9_fade d lm RT F pm_X9_fade n) (1, ((4 : Nat) : Int), 0, 52, []) L st h := run_s rfl
theorem r_X9_fade_52 : run E g mi_X9_fade d lm RT F pm_X9_fade (n + 1) 52 L st h = exI E d lm RT F (run E g mi_X9_fade d lm RT F pm_X9_fade n) (0, 8, 0, 54, []) L st h := run_s rfl
theorem r_X9_fade_54 : run E g mi_X9_fade d lm RT F pm_X9_fade (n + 1) 54 L st h = exI E d lm RT F (run E g mi_X9_fade d lm RT F pm_X9_fade n) (1, ((3 : Nat) : Int), 0, 55, []) L st h := run_s rfl
theorem r_X9_fade_55 : run E g mi_X9_fade d lm RT F pm_X9_fade (n + 1) 55 L st h = exI E d lm RT F (run E g mi_X9_fade d lm RT F pm_X9_fade n) (10, 0, 0, 56, []) L st h := run_s rfl
theorem r_X9_fade_56 : run E g mi_X9_fade d lm RT F pm_X9_fade (n + 1) 56 L st h = exI E d lm RT F (run E g mi_X9_fade d lm RT F pm_X9_fade n) (1, ((1 : Nat) : Int), 0, 57, []) L st h := run_s rfl
theorem r_X9_fade_57 : run E g mi_X9_fade d lm RT F pm_X9_fade (n + 1) 57 L st h = exI E d lm RT F (run E g mi_X9_fade d lm RT F pm_X9_fade n) (51, ((115 : Nat) : Int), ((4 : Nat) : Int), 60, [9]) L st h := run_s rfl
theorem r_X9_fade_60 : run E g mi_X9_fade d lm RT F pm_X9_fade (n + 1) 60 L st h = exI E d lm RT F (run E g mi_X9_fade d lm RT F pm_X9_fade n) (8, 0, 0, 61, []) L st h := run_s rfl
theorem r_X9_fade_61 : run E g mi_X9_fade d lm RT F pm_X9_fade (n + 1) 61 L st h = exI E d lm RT F (run E g mi_X9_fade d lm RT F pm_X9_fade n) (4, ((2 : Nat) : Int), 0, 62, []) L st h := run_s rfl
theorem r_X9_fade_62 : run E g mi_X9_fade d lm RT F pm_X9_fade (n + 1) 62 L st h = exI E d lm RT F (run E g mi_X9_fade d lm RT F pm_X9_fade n) (7, ((3 : Nat) : Int), 1, 65, []) L st h := run_s rfl
theorem r_X9_fade_65 : run E g mi_X9_fade d lm RT F pm_X9_fade (n + 1) 65 L st h = exI E d lm RT F (run E g mi_X9_fade d lm RT F pm_X9_fade n) (33, ((18 : Nat) : Int), 0, 0, []) L st h := run_s rfl
theorem r_X9_fade_68 : run E g mi_X9_fade d lm RT F pm_X9_fade (n + 1) 68 L st h = exI E d lm RT F (run E g mi_X9_fade d lm RT F pm_X9_fade n) (1, ((2 : Nat) : Int), 0, 69, []) L st h := run_s rfl
theorem r_X9_fade_69 : run E g mi_X9_fade d lm RT F pm_X9_fade (n + 1) 69 L st h = exI E d lm RT F (run E g mi_X9_fade d lm RT F pm_X9_fade n) (48, 0, 0, 0, []) L st h := run_s rfl
theorem e_X9_fade (n : Nat) {pc : Nat} (hF : FOk E d F) (hx : run E g mi_X9_fade d lm RT F pm_X9_fade n pc L st h) : G E g mi_X9_fade d lm RT pc L st h := run_sound hF pk_X9_fade n pc L st h hx
end
def mi_X9_fadeRow : MI := (9, cX9_fadeRow, 8, 0, false)
theorem mo_X9_fadeRow : miOk mi_X9_fadeRow (mt 115) = true := by decide +kernel
def tl_X9_fadeRow : List (Nat × PT) := [(0, (2, ((0 : Nat) : Int), 0, 1, [])),
  (1, (1, ((1 : Nat) : Int), 0, 2, [])),
  (2, (51, ((93 : Nat) : Int), ((2 : Nat) : Int), 5, [9])),
  (5, (25, 0, 0, 6, [])),
  (6, (6, ((4 : Nat) : Int), 0, 8, [])),
  (8, (0, 0, 0, 9, [])),
  (9, (4, ((6 : Nat) : Int), 0, 11, [])),
  (11, (1, ((6 : Nat) : Int), 0, 13, [])),
  (13, (0, 8, 0, 15, [])),
  (15, (32, 3, ((73 : Nat) : Int), 18, [])),
  (18, (2, ((0 : Nat) : Int), 0, 19, [])),
  (19, (35, ((9 : Nat) : Int), ((10 : Nat) : Int), 22, [])),
  (22, (1, ((6 : Nat) : Int), 0, 24, [])),
  (24, (2, ((0 : Nat) : Int), 0, 25, [])),
  (25, (35, ((9 : Nat) : Int), ((5 : Nat) : Int), 28, [])),
  (28, (1, ((2 : Nat) : Int), 0, 29, [])),
  (29, (1, ((6 : Nat) : Int), 0, 31, [])),
  (31, (8, 0, 0, 32, [])),
  (32, (38, 0, 0, 33, [])),
  (33, (39, 0, 0, 34, [])),
  (34, (2, ((0 : Nat) : Int), 0, 35, [])),
  (35, (35, ((9 : Nat) : Int), ((8 : Nat) : Int), 38, [])),
  (38, (1, ((6 : Nat) : Int), 0, 40, [])),
  (40, (2, ((0 : Nat) : Int), 0, 41, [])),
  (41, (35, ((9 : Nat) : Int), ((5 : Nat) : Int), 44, [])),
  (44, (1, ((2 : Nat) : Int), 0, 45, [])),
  (45, (1, ((6 : Nat) : Int), 0, 47, [])),
  (47, (8, 0, 0, 48, [])),
  (48, (38, 0, 0, 49, [])),
  (49, (0, 1000, 0, 52, [])),
  (52, (1, ((3 : Nat) : Int), 0, 53, [])),
  (53, (9, 0, 0, 54, [])),
  (54, (10, 0, 0, 55, [])),
  (55, (25, 0, 0, 56, [])),
  (56, (3, ((4 : Nat) : Int), 0, 58, [])),
  (58, (21, 0, 0, 59, [])),
  (59, (0, 1000, 0, 62, [])),
  (62, (1, ((3 : Nat) : Int), 0, 63, [])),
  (63, (10, 0, 0, 64, [])),
  (64, (25, 0, 0, 65, [])),
  (65, (19, 0, 0, 66, [])),
  (66, (39, 2, 0, 67, [])),
  (67, (7, ((6 : Nat) : Int), 1, 70, [])),
  (70, (33, ((11 : Nat) : Int), 0, 0, [])),
  (73, (2, ((0 : Nat) : Int), 0, 74, [])),
  (74, (1, ((1 : Nat) : Int), 0, 75, [])),
  (75, (1, ((2 : Nat) : Int), 0, 76, [])),
  (76, (27, 1000, 0, 79, [])),
  (79, (0, (-9), 0, 81, [])),
  (81, (51, ((109 : Nat) : Int), ((5 : Nat) : Int), 84, [9])),
  (84, (2, ((0 : Nat) : Int), 0, 85, [])),
  (85, (1, ((1 : Nat) : Int), 0, 86, [])),
  (86, (1, ((2 : Nat) : Int), 0, 87, [])),
  (87, (51, ((112 : Nat) : Int), ((3 : Nat) : Int), 90, [9])),
  (90, (0, 0, 0, 91, [])),
  (91, (4, ((6 : Nat) : Int), 0, 93, [])),
  (93, (0, 0, 0, 94, [])),
  (94, (4, ((7 : Nat) : Int), 0, 96, [])),
  (96, (1, ((7 : Nat) : Int), 0, 98, [])),
  (98, (0, 8, 0, 100, [])),
  (100, (32, 3, ((148 : Nat) : Int), 103, [])),
  (103, (1, ((6 : Nat) : Int), 0, 105, [])),
  (105, (2, ((0 : Nat) : Int), 0, 106, [])),
  (106, (1, ((1 : Nat) : Int), 0, 107, [])),
  (107, (1, ((7 : Nat) : Int), 0, 109, [])),
  (109, (52, ((92 : Nat) : Int), ((3 : Nat) : Int), 112, [9])),
  (112, (31, 0, ((138 : Nat) : Int), 115, [])),
  (115, (2, ((0 : Nat) : Int), 0, 116, [])),
  (116, (35, ((9 : Nat) : Int), ((5 : Nat) : Int), 119, [])),
  (119, (1, ((2 : Nat) : Int), 0, 120, [])),
  (120, (1, ((7 : Nat) : Int), 0, 122, [])),
  (122, (8, 0, 0, 123, [])),
  (123, (38, 0, 0, 124, [])),
  (124, (2, ((0 : Nat) : Int), 0, 125, [])),
  (125, (35, ((9 : Nat) : Int), ((10 : Nat) : Int), 128, [])),
  (128, (1, ((7 : Nat) : Int), 0, 130, [])),
  (130, (38, 0, 0, 131, [])),
  (131, (32, 0, ((138 : Nat) : Int), 134, [])),
  (134, (0, 1, 0, 135, [])),
  (135, (33, ((139 : Nat) : Int), 0, 0, [])),
  (138, (0, 0, 0, 139, [])),
  (139, (8, 0, 0, 140, [])),
  (140, (4, ((6 : Nat) : Int), 0, 142, [])),
  (142, (7, ((7 : Nat) : Int), 1, 145, [])),
  (145, (33, ((96 : Nat) : Int), 0, 0, [])),
  (148, (1, ((6 : Nat) : Int), 0, 150, [])),
  (150, (48, 0, 0, 0, []))]
theorem tk_X9_fadeRow_0 : tOk mi_X9_fadeRow ((tl_X9_fadeRow.drop 0).take 45) = true := by decide +kernel
theorem tk_X9_fadeRow_1 : tOk mi_X9_fadeRow ((tl_X9_fadeRow.drop 45).take 45) = true := by decide +kernel
theorem tk_X9_fadeRow : tOk mi_X9_fadeRow tl_X9_fadeRow = true := by
  refine tOk_cut 45 (by decide) (fun q hq => ?_)
  have hl : tl_X9_fadeRow.length = 87 := by decide +kernel
  rw [hl] at hq
  rcases (show q = 0 ∨ q = 1 by omega) with rfl | rfl
  · exact tk_X9_fadeRow_0
  · exact tk_X9_fadeRow_1
def pm_X9_fadeRow (pc : Nat) : Option PT := if [11, 96].contains pc then none else tl_X9_fadeRow.lookup pc
theorem pk_X9_fadeRow : ∀ pc pt, pm_X9_fadeRow pc = some pt → okPt mi_X9_fadeRow pc pt := fun pc pt h => tOk_pm tk_X9_fadeRow h
section
variable {E : ET} {g : GT} {d : Nat} {lm : Nat × Nat} {RT : RTy} {F : FT} {n : Nat} {L : LV} {st : List AV} {h : AH}
theorem r_X9_fadeRow_0 : run E g mi_X9_fadeRow d lm RT F pm_X9_fadeRow (n + 1) 0 L st h = exI E d lm RT F (run E g mi_X9_fadeRow d lm RT F pm_X9_fadeRow n) (2, ((0 : Nat) : Int), 0, 1, []) L st h := run_s rfl
theorem r_X9_fadeRow_1 : run E g mi_X9_fadeRow d lm RT F pm_X9_fadeRow (n + 1) 1 L st h = exI E d lm RT F (run E g mi_X9_fadeRow d lm RT F pm_X9_fadeRow n) (1, ((1 : Nat) : Int), 0, 2, []) L st h := run_s rfl
theorem r_X9_fadeRow_2 : run E g mi_X9_fadeRow d lm RT F pm_X9_fadeRow (n + 1) 2 L st h = exI E d lm RT F (run E g mi_X9_fadeRow d lm RT F pm_X9_fadeRow n) (51, ((93 : Nat) : Int), ((2 : Nat) : Int), 5, [9]) L st h := run_s rfl
theorem r_X9_fadeRow_5 : run E g mi_X9_fadeRow d lm RT F pm_X9_fadeRow (n + 1) 5 L st h = exI E d lm RT F (run E g mi_X9_fadeRow d lm RT F pm_X9_fadeRow n) (25, 0, 0, 6, []) L st h := run_s rfl
theorem r_X9_fadeRow_6 : run E g mi_X9_fadeRow d lm RT F pm_X9_fadeRow (n + 1) 6 L st h = exI E d lm RT F (run E g mi_X9_fadeRow d lm RT F pm_X9_fadeRow n) (6, ((4 : Nat) : Int), 0, 8, []) L st h := run_s rfl
theorem r_X9_fadeRow_8 : run E g mi_X9_fadeRow d lm RT F pm_X9_fadeRow (n + 1) 8 L st h = exI E d lm RT F (run E g mi_X9_fadeRow d lm RT F pm_X9_fadeRow n) (0, 0, 0, 9, []) L st h := run_s rfl
theorem r_X9_fadeRow_9 : run E g mi_X9_fadeRow d lm RT F pm_X9_fadeRow (n + 1) 9 L st h = exI E d lm RT F (run E g mi_X9_fadeRow d lm RT F pm_X9_fadeRow n) (4, ((6 : Nat) : Int), 0, 11, []) L st h := run_s rfl
theorem r_X9_fadeRow_11 : run E g mi_X9_fadeRow d lm RT F pm_X9_fadeRow (n + 1) 11 L st h = G E g mi_X9_fadeRow d lm RT 11 L st h := run_c rfl
theorem q_X9_fadeRow_11 (n : Nat) (hF : FOk E d F) (hx : exI E d lm RT F (run E g mi_X9_fadeRow d lm RT F pm_X9_fadeRow n) (1, ((6 : Nat) : Int), 0, 13, []) L st h) : G E g mi_X9_fadeRow d lm RT 11 L st h := sstep hF (tOk_spec tk_X9_fadeRow (by decide +kernel)) (run_sound hF pk_X9_fadeRow n) hx
theorem r_X9_fadeRow_13 : run E g mi_X9_fadeRow d lm RT F pm_X9_fadeRow (n + 1) 13 L st h = exI E d lm RT F (run E g mi_X9_fadeRow d lm RT F pm_X9_fadeRow n) (0, 8, 0, 15, []) L st h := run_s rfl
theorem r_X9_fadeRow_15 : run E g mi_X9_fadeRow d lm RT F pm_X9_fadeRow (n + 1) 15 L st h = exI E d lm RT F (run E g mi_X9_fadeRow d lm RT F pm_X9_fadeRow n) (32, 3, ((73 : Nat) : Int), 18, []) L st h := run_s rfl
theorem r_X9_fadeRow_18 : run E g mi_X9_fadeRow d lm RT F pm_X9_fadeRow (n + 1) 18 L st h = exI E d lm RT F (run E g mi_X9_fadeRow d lm RT F pm_X9_fadeRow n) (2, ((0 : Nat) : Int), 0, 19, []) L st h := run_s rfl
theorem r_X9_fadeRow_19 : run E g mi_X9_fadeRow d lm RT F pm_X9_fadeRow (n + 1) 19 L st h = exI E d lm RT F (run E g mi_X9_fadeRow d lm RT F pm_X9_fadeRow n) (35, ((9 : Nat) : Int), ((10 : Nat) : Int), 22, []) L st h := run_s rfl
theorem r_X9_fadeRow_22 : run E g mi_X9_fadeRow d lm RT F pm_X9_fadeRow (n + 1) 22 L st h = exI E d lm RT F (run E g mi_X9_fadeRow d lm RT F pm_X9_fadeRow n) (1, ((6 : Nat) : Int), 0, 24, []) L st h := run_s rfl
theorem r_X9_fadeRow_24 : run E g mi_X9_fadeRow d lm RT F pm_X9_fadeRow (n + 1) 24 L st h = exI E d lm RT F (run E g mi_X9_fadeRow d lm RT F pm_X9_fadeRow n) (2, ((0 : Nat) : Int), 0, 25, []) L st h := run_s rfl
theorem r_X9_fadeRow_25 : run E g mi_X9_fadeRow d lm RT F pm_X9_fadeRow (n + 1) 25 L st h = exI E d lm RT F (run E g mi_X9_fadeRow d lm RT F pm_X9_fadeRow n) (35, ((9 : Nat) : Int), ((5 : Nat) : Int), 28, []) L st h := run_s rfl
theorem r_X9_fadeRow_28 : run E g mi_X9_fadeRow d lm RT F pm_X9_fadeRow (n + 1) 28 L st h = exI E d lm RT F (run E g mi_X9_fadeRow d lm RT F pm_X9_fadeRow n) (1, ((2 : Nat) : Int), 0, 29, []) L st h := run_s rfl
theorem r_X9_fadeRow_29 : run E g mi_X9_fadeRow d lm RT F pm_X9_fadeRow (n + 1) 29 L st h = exI E d lm RT F (run E g mi_X9_fadeRow d lm RT F pm_X9_fadeRow n) (1, ((6 : Nat) : Int), 0, 31, []) L st h := run_s rfl
theorem r_X9_fadeRow_31 : run E g mi_X9_fadeRow d lm RT F pm_X9_fadeRow (n + 1) 31 L st h = exI E d lm RT F (run E g mi_X9_fadeRow d lm RT F pm_X9_fadeRow n) (8, 0, 0, 32, []) L st h := run_s rfl
theorem r_X9_fadeRow_32 : run E g mi_X9_fadeRow d lm RT F pm_X9_fadeRow (n + 1) 32 L st h = exI E d lm RT F (run E g mi_X9_fadeRow d lm RT F pm_X9_fadeRow n) (38, 0, 0, 33, []) L st h := run_s rfl
theorem r_X9_fadeRow_33 : run E g mi_X9_fadeRow d lm RT F pm_X9_fadeRow (n + 1) 33 L st h = exI E d lm RT F (run E g mi_X9_fadeRow d lm RT F pm_X9_fadeRow n) (39, 0, 0, 34, []) L st h := run_s rfl
theorem r_X9_fadeRow_34 : run E g mi_X9_fadeRow d lm RT F pm_X9_fadeRow (n + 1) 34 L st h = exI E d lm RT F (run E g mi_X9_fadeRow d lm RT F pm_X9_fadeRow n) (2, ((0 : Nat) : Int), 0, 35, []) L st h := run_s rfl
theorem r_X9_fadeRow_35 : run E g mi_X9_fadeRow d lm RT F pm_X9_fadeRow (n + 1) 35 L st h = exI E d lm RT F (run E g mi_X9_fadeRow d lm RT F pm_X9_fadeRow n) (35, ((9 : Nat) : Int), ((8 : Nat) : Int), 38, []) L st h := run_s rfl
theorem r_X9_fadeRow_38 : run E g mi_X9_fadeRow d lm RT F pm_X9_fadeRow (n + 1) 38 L st h = exI E d lm RT F (run E g mi_X9_fadeRow d lm RT F pm_X9_fadeRow n) (1, ((6 : Nat) : Int), 0, 40, []) L st h := run_s rfl
theorem r_X9_fadeRow_40 : run E g mi_X9_fadeRow d lm RT F pm_X9_fadeRow (n + 1) 40 L st h = exI E d lm RT F (run E g mi_X9_fadeRow d lm RT F pm_X9_fadeRow n) (2, ((0 : Nat) : Int), 0, 41, []) L st h := run_s rfl
theorem r_X9_fadeRow_41 : run E g mi_X9_fadeRow d lm RT F pm_X9_fadeRow (n + 1) 41 L st h = exI E d lm RT F (run E g mi_X9_fadeRow d lm RT F pm_X9_fadeRow n) (35, ((9 : Nat) : Int), ((5 : Nat) : Int), 44, []) L st h := run_s rfl
theorem r_X9_fadeRow_44 : run E g mi_X9_fadeRow d lm RT F pm_X9_fadeRow (n + 1) 44 L st h = exI E d lm RT F (run E g mi_X9_fadeRow d lm RT F pm_X9_fadeRow n) (1, ((2 : Nat) : Int), 0, 45, []) L st h := run_s rfl
theorem r_X9_fadeRow_45 : run E g mi_X9_fadeRow d lm RT F pm_X9_fadeRow (n + 1) 45 L st h = exI E d lm RT F (run E g mi_X9_fadeRow d lm RT F pm_X9_fadeRow n) (1, ((6 : Nat) : Int), 0, 47, []) L st h := run_s rfl
theorem r_X9_fadeRow_47 : run E g mi_X9_fadeRow d lm RT F pm_X9_fadeRow (n + 1) 47 L st h = exI E d lm RT F (run E g mi_X9_fadeRow d lm RT F pm_X9_fadeRow n) (8, 0, 0, 48, []) L st h := run_s rfl
theorem r_X9_fadeRow_48 : run E g mi_X9_fadeRow d lm RT F pm_X9_fadeRow (n + 1) 48 L st h = exI E d lm RT F (run E g mi_X9_fadeRow d lm RT F pm_X9_fadeRow n) (38, 0, 0, 49, []) L st h := run_s rfl
theorem r_X9_fadeRow_49 : run E g mi_X9_fadeRow d lm RT F pm_X9_fadeRow (n + 1) 49 L st h = exI E d lm RT F (run E g mi_X9_fadeRow d lm RT F pm_X9_fadeRow n) (0, 1000, 0, 52, []) L st h := run_s rfl
theorem r_X9_fadeRow_52 : run E g mi_X9_fadeRow d lm RT F pm_X9_fadeRow (n + 1) 52 L st h = exI E d lm RT F (run E g mi_X9_fadeRow d lm RT F pm_X9_fadeRow n) (1, ((3 : Nat) : Int), 0, 53, []) L st h := run_s rfl
theorem r_X9_fadeRow_53 : run E g mi_X9_fadeRow d lm RT F pm_X9_fadeRow (n + 1) 53 L st h = exI E d lm RT F (run E g mi_X9_fadeRow d lm RT F pm_X9_fadeRow n) (9, 0, 0, 54, []) L st h := run_s rfl
theorem r_X9_fadeRow_54 : run E g mi_X9_fadeRow d lm RT F pm_X9_fadeRow (n + 1) 54 L st h = exI E d lm RT F (run E g mi_X9_fadeRow d lm RT F pm_X9_fadeRow n) (10, 0, 0, 55, []) L st h := run_s rfl
theorem r_X9_fadeRow_55 : run E g mi_X9_fadeRow d lm RT F pm_X9_fadeRow (n + 1) 55 L st h = exI E d lm RT F (run E g mi_X9_fadeRow d lm RT F pm_X9_fadeRow n) (25, 0, 0, 56, []) L st h := run_s rfl
theorem r_X9_fadeRow_56 : run E g mi_X9_fadeRow d lm RT F pm_X9_fadeRow (n + 1) 56 L st h = exI E d lm RT F (run E g mi_X9_fadeRow d lm RT F pm_X9_fadeRow n) (3, ((4 : Nat) : Int), 0, 58, []) L st h := run_s rfl
theorem r_X9_fadeRow_58 : run E g mi_X9_fadeRow d lm RT F pm_X9_fadeRow (n + 1) 58 L st h = exI E d lm RT F (run E g mi_X9_fadeRow d lm RT F pm_X9_fadeRow n) (21, 0, 0, 59, []) L st h := run_s rfl
theorem r_X9_fadeRow_59 : run E g mi_X9_fadeRow d lm RT F pm_X9_fadeRow (n + 1) 59 L st h = exI E d lm RT F (run E g mi_X9_fadeRow d lm RT F pm_X9_fadeRow n) (0, 1000, 0, 62, []) L st h := run_s rfl
theorem r_X9_fadeRow_62 : run E g mi_X9_fadeRow d lm RT F pm_X9_fadeRow (n + 1) 62 L st h = exI E d lm RT F (run E g mi_X9_fadeRow d lm RT F pm_X9_fadeRow n) (1, ((3 : Nat) : Int), 0, 63, []) L st h := run_s rfl
theorem r_X9_fadeRow_63 : run E g mi_X9_fadeRow d lm RT F pm_X9_fadeRow (n + 1) 63 L st h = exI E d lm RT F (run E g mi_X9_fadeRow d lm RT F pm_X9_fadeRow n) (10, 0, 0, 64, []) L st h := run_s rfl
theorem r_X9_fadeRow_64 : run E g mi_X9_fadeRow d lm RT F pm_X9_fadeRow (n + 1) 64 L st h = exI E d lm RT F (run E g mi_X9_fadeRow d lm RT F pm_X9_fadeRow n) (25, 0, 0, 65, []) L st h := run_s rfl
theorem r_X9_fadeRow_65 : run E g mi_X9_fadeRow d lm RT F pm_X9_fadeRow (n + 1) 65 L st h = exI E d lm RT F (run E g mi_X9_fadeRow d lm RT F pm_X9_fadeRow n) (19, 0, 0, 66, []) L st h := run_s rfl
theorem r_X9_fadeRow_66 : run E g mi_X9_fadeRow d lm RT F pm_X9_fadeRow (n + 1) 66 L st h = exI E d lm RT F (run E g mi_X9_fadeRow d lm RT F pm_X9_fadeRow n) (39, 2, 0, 67, []) L st h := run_s rfl
theorem r_X9_fadeRow_67 : run E g mi_X9_fadeRow d lm RT F pm_X9_fadeRow (n + 1) 67 L st h = exI E d lm RT F (run E g mi_X9_fadeRow d lm RT F pm_X9_fadeRow n) (7, ((6 : Nat) : Int), 1, 70, []) L st h := run_s rfl
theorem r_X9_fadeRow_70 : run E g mi_X9_fadeRow d lm RT F pm_X9_fadeRow (n + 1) 70 L st h = exI E d lm RT F (run E g mi_X9_fadeRow d lm RT F pm_X9_fadeRow n) (33, ((11 : Nat) : Int), 0, 0, []) L st h := run_s rfl
theorem r_X9_fadeRow_73 : run E g mi_X9_fadeRow d lm RT F pm_X9_fadeRow (n + 1) 73 L st h = exI E d lm RT F (run E g mi_X9_fadeRow d lm RT F pm_X9_fadeRow n) (2, ((0 : Nat) : Int), 0, 74, []) L st h := run_s rfl
theorem r_X9_fadeRow_74 : run E g mi_X9_fadeRow d lm RT F pm_X9_fadeRow (n + 1) 74 L st h = exI E d lm RT F (run E g mi_X9_fadeRow d lm RT F pm_X9_fadeRow n) (1, ((1 : Nat) : Int), 0, 75, []) L st h := run_s rfl
theorem r_X9_fadeRow_75 : run E g mi_X9_fadeRow d lm RT F pm_X9_fadeRow (n + 1) 75 L st h = exI E d lm RT F (run E g mi_X9_fadeRow d lm RT F pm_X9_fadeRow n) (1, ((2 : Nat) : Int), 0, 76, []) L st h := run_s rfl
theorem r_X9_fadeRow_76 : run E g mi_X9_fadeRow d lm RT F pm_X9_fadeRow (n + 1) 76 L st h = exI E d lm RT F (run E g mi_X9_fadeRow d lm RT F pm_X9_fadeRow n) (27, 1000, 0, 79, []) L st h := run_s rfl
theorem r_X9_fadeRow_79 : run E g mi_X9_fadeRow d lm RT F pm_X9_fadeRow (n + 1) 79 L st h = exI E d lm RT F (run E g mi_X9_fadeRow d lm RT F pm_X9_fadeRow n) (0, (-9), 0, 81, []) L st h := run_s rfl
theorem r_X9_fadeRow_81 : run E g mi_X9_fadeRow d lm RT F pm_X9_fadeRow (n + 1) 81 L st h = exI E d lm RT F (run E g mi_X9_fadeRow d lm RT F pm_X9_fadeRow n) (51, ((109 : Nat) : Int), ((5 : Nat) : Int), 84, [9]) L st h := run_s rfl
theorem r_X9_fadeRow_84 : run E g mi_X9_fadeRow d lm RT F pm_X9_fadeRow (n + 1) 84 L st h = exI E d lm RT F (run E g mi_X9_fadeRow d lm RT F pm_X9_fadeRow n) (2, ((0 : Nat) : Int), 0, 85, []) L st h := run_s rfl
theorem r_X9_fadeRow_85 : run E g mi_X9_fadeRow d lm RT F pm_X9_fadeRow (n + 1) 85 L st h = exI E d lm RT F (run E g mi_X9_fadeRow d lm RT F pm_X9_fadeRow n) (1, ((1 : Nat) : Int), 0, 86, []) L st h := run_s rfl
theorem r_X9_fadeRow_86 : run E g mi_X9_fadeRow d lm RT F pm_X9_fadeRow (n + 1) 86 L st h = exI E d lm RT F (run E g mi_X9_fadeRow d lm RT F pm_X9_fadeRow n) (1, ((2 : Nat) : Int), 0, 87, []) L st h := run_s rfl
theorem r_X9_fadeRow_87 : run E g mi_X9_fadeRow d lm RT F pm_X9_fadeRow (n + 1) 87 L st h = exI E d lm RT F (run E g mi_X9_fadeRow d lm RT F pm_X9_fadeRow n) (51, ((112 : Nat) : Int), ((3 : Nat) : Int), 90, [9]) L st h := run_s rfl
theorem r_X9_fadeRow_90 : run E g mi_X9_fadeRow d lm RT F pm_X9_fadeRow (n + 1) 90 L st h = exI E d lm RT F (run E g mi_X9_fadeRow d lm RT F pm_X9_fadeRow n) (0, 0, 0, 91, []) L st h := run_s rfl
theorem r_X9_fadeRow_91 : run E g mi_X9_fadeRow d lm RT F pm_X9_fadeRow (n + 1) 91 L st h = exI E d lm RT F (run E g mi_X9_fadeRow d lm RT F pm_X9_fadeRow n) (4, ((6 : Nat) : Int), 0, 93, []) L st h := run_s rfl
theorem r_X9_fadeRow_93 : run E g mi_X9_fadeRow d lm RT F pm_X9_fadeRow (n + 1) 93 L st h = exI E d lm RT F (run E g mi_X9_fadeRow d lm RT F pm_X9_fadeRow n) (0, 0, 0, 94, []) L st h := run_s rfl
theorem r_X9_fadeRow_94 : run E g mi_X9_fadeRow d lm RT F pm_X9_fadeRow (n + 1) 94 L st h = exI E d lm RT F (run E g mi_X9_fadeRow d lm RT F pm_X9_fadeRow n) (4, ((7 : Nat) : Int), 0, 96, []) L st h := run_s rfl
theorem r_X9_fadeRow_96 : run E g mi_X9_fadeRow d lm RT F pm_X9_fadeRow (n + 1) 96 L st h = G E g mi_X9_fadeRow d lm RT 96 L st h := run_c rfl
theorem q_X9_fadeRow_96 (n : Nat) (hF : FOk E d F) (hx : exI E d lm RT F (run E g mi_X9_fadeRow d lm RT F pm_X9_fadeRow n) (1, ((7 : Nat) : Int), 0, 98, []) L st h) : G E g mi_X9_fadeRow d lm RT 96 L st h := sstep hF (tOk_spec tk_X9_fadeRow (by decide +kernel)) (run_sound hF pk_X9_fadeRow n) hx
theorem r_X9_fadeRow_98 : run E g mi_X9_fadeRow d lm RT F pm_X9_fadeRow (n + 1) 98 L st h = exI E d lm RT F (run E g mi_X9_fadeRow d lm RT F pm_X9_fadeRow n) (0, 8, 0, 100, []) L st h := run_s rfl
theorem r_X9_fadeRow_100 : run E g mi_X9_fadeRow d lm RT F pm_X9_fadeRow (n + 1) 100 L st h = exI E d lm RT F (run E g mi_X9_fadeRow d lm RT F pm_X9_fadeRow n) (32, 3, ((148 : Nat) : Int), 103, []) L st h := run_s rfl
theorem r_X9_fadeRow_103 : run E g mi_X9_fadeRow d lm RT F pm_X9_fadeRow (n + 1) 103 L st h = exI E d lm RT F (run E g mi_X9_fadeRow d lm RT F pm_X9_fadeRow n) (1, ((6 : Nat) : Int), 0, 105, []) L st h := run_s rfl
theorem r_X9_fadeRow_105 : run E g mi_X9_fadeRow d lm RT F pm_X9_fadeRow (n + 1) 105 L st h = exI E d lm RT F (run E g mi_X9_fadeRow d lm RT F pm_X9_fadeRow n) (2, ((0 : Nat) : Int), 0, 106, []) L st h := run_s rfl
theorem r_X9_fadeRow_106 : run E g mi_X9_fadeRow d lm RT F pm_X9_fadeRow (n + 1) 106 L st h = exI E d lm RT F (run E g mi_X9_fadeRow d lm RT F pm_X9_fadeRow n) (1, ((1 : Nat) : Int), 0, 107, []) L st h := run_s rfl
theorem r_X9_fadeRow_107 : run E g mi_X9_fadeRow d lm RT F pm_X9_fadeRow (n + 1) 107 L st h = exI E d lm RT F (run E g mi_X9_fadeRow d lm RT F pm_X9_fadeRow n) (1, ((7 : Nat) : Int), 0, 109, []) L st h := run_s rfl
theorem r_X9_fadeRow_109 : run E g mi_X9_fadeRow d lm RT F pm_X9_fadeRow (n + 1) 109 L st h = exI E d lm RT F (run E g mi_X9_fadeRow d lm RT F pm_X9_fadeRow n) (52, ((92 : Nat) : Int), ((3 : Nat) : Int), 112, [9]) L st h := run_s rfl
theorem r_X9_fadeRow_112 : run E g mi_X9_fadeRow d lm RT F pm_X9_fadeRow (n + 1) 112 L st h = exI E d lm RT F (run E g mi_X9_fadeRow d lm RT F pm_X9_fadeRow n) (31, 0, ((138 : Nat) : Int), 115, []) L st h := run_s rfl
theorem r_X9_fadeRow_115 : run E g mi_X9_fadeRow d lm RT F pm_X9_fadeRow (n + 1) 115 L st h = exI E d lm RT F (run E g mi_X9_fadeRow d lm RT F pm_X9_fadeRow n) (2, ((0 : Nat) : Int), 0, 116, []) L st h := run_s rfl
theorem r_X9_fadeRow_116 : run E g mi_X9_fadeRow d lm RT F pm_X9_fadeRow (n + 1) 116 L st h = exI E d lm RT F (run E g mi_X9_fadeRow d lm RT F pm_X9_fadeRow n) (35, ((9 : Nat) : Int), ((5 : Nat) : Int), 119, []) L st h := run_s rfl
theorem r_X9_fadeRow_119 : run E g mi_X9_fadeRow d lm RT F pm_X9_fadeRow (n + 1) 119 L st h = exI E d lm RT F (run E g mi_X9_fadeRow d lm RT F pm_X9_fadeRow n) (1, ((2 : Nat) : Int), 0, 120, []) L st h := run_s rfl
theorem r_X9_fadeRow_120 : run E g mi_X9_fadeRow d lm RT F pm_X9_fadeRow (n + 1) 120 L st h = exI E d lm RT F (run E g mi_X9_fadeRow d lm RT F pm_X9_fadeRow n) (1, ((7 : Nat) : Int), 0, 122, []) L st h := run_s rfl
theorem r_X9_fadeRow_122 : run E g mi_X9_fadeRow d lm RT F pm_X9_fadeRow (n + 1) 122 L st h = exI E d lm RT F (run E g mi_X9_fadeRow d lm RT F pm_X9_fadeRow n) (8, 0, 0, 123, []) L st h := run_s rfl
theorem r_X9_fadeRow_123 : run E g mi_X9_fadeRow d lm RT F pm_X9_fadeRow (n + 1) 123 L st h = exI E d lm RT F (run E g mi_X9_fadeRow d lm RT F pm_X9_fadeRow n) (38, 0, 0, 124, []) L st h := run_s rfl
theorem r_X9_fadeRow_124 : run E g mi_X9_fadeRow d lm RT F pm_X9_fadeRow (n + 1) 124 L st h = exI E d lm RT F (run E g mi_X9_fadeRow d lm RT F pm_X9_fadeRow n) (2, ((0 : Nat) : Int), 0, 125, []) L st h := run_s rfl
theorem r_X9_fadeRow_125 : run E g mi_X9_fadeRow d lm RT F pm_X9_fadeRow (n + 1) 125 L st h = exI E d lm RT F (run E g mi_X9_fadeRow d lm RT F pm_X9_fadeRow n) (35, ((9 : Nat) : Int), ((10 : Nat) : Int), 128, []) L st h := run_s rfl
theorem r_X9_fadeRow_128 : run E g mi_X9_fadeRow d lm RT F pm_X9_fadeRow (n + 1) 128 L st h = exI E d lm RT F (run E g mi_X9_fadeRow d lm RT F pm_X9_fadeRow n) (1, ((7 : Nat) : Int), 0, 130, []) L st h := run_s rfl
theorem r_X9_fadeRow_130 : run E g mi_X9_fadeRow d lm RT F pm_X9_fadeRow (n + 1) 130 L st h = exI E d lm RT F (run E g mi_X9_fadeRow d lm RT F pm_X9_fadeRow n) (38, 0, 0, 131, []) L st h := run_s rfl
theorem r_X9_fadeRow_131 : run E g mi_X9_fadeRow d lm RT F pm_X9_fadeRow (n + 1) 131 L st h = exI E d lm RT F (run E g mi_X9_fadeRow d lm RT F pm_X9_fadeRow n) (32, 0, ((138 : Nat) : Int), 134, []) L st h := run_s rfl
theorem r_X9_fadeRow_134 : run E g mi_X9_fadeRow d lm RT F pm_X9_fadeRow (n + 1) 134 L st h = exI E d lm RT F (run E g mi_X9_fadeRow d lm RT F pm_X9_fadeRow n) (0, 1, 0, 135, []) L st h := run_s rfl
theorem r_X9_fadeRow_135 : run E g mi_X9_fadeRow d lm RT F pm_X9_fadeRow (n + 1) 135 L st h = exI E d lm RT F (run E g mi_X9_fadeRow d lm RT F pm_X9_fadeRow n) (33, ((139 : Nat) : Int), 0, 0, []) L st h := run_s rfl
theorem r_X9_fadeRow_138 : run E g mi_X9_fadeRow d lm RT F pm_X9_fadeRow (n + 1) 138 L st h = exI E d lm RT F (run E g mi_X9_fadeRow d lm RT F pm_X9_fadeRow n) (0, 0, 0, 139, []) L st h := run_s rfl
theorem r_X9_fadeRow_139 : run E g mi_X9_fadeRow d lm RT F pm_X9_fadeRow (n + 1) 139 L st h = exI E d lm RT F (run E g mi_X9_fadeRow d lm RT F pm_X9_fadeRow n) (8, 0, 0, 140, []) L st h := run_s rfl
theorem r_X9_fadeRow_140 : run E g mi_X9_fadeRow d lm RT F pm_X9_fadeRow (n + 1) 140 L st h = exI E d lm RT F (run E g mi_X9_fadeRow d lm RT F pm_X9_fadeRow n) (4, ((6 : Nat) : Int), 0, 142, []) L st h := run_s rfl
theorem r_X9_fadeRow_142 : run E g mi_X9_fadeRow d lm RT F pm_X9_fadeRow (n + 1) 142 L st h = exI E d lm RT F (run E g mi_X9_fadeRow d lm RT F pm_X9_fadeRow n) (7, ((7 : Nat) : Int), 1, 145, []) L st h := run_s rfl
theorem r_X9_fadeRow_145 : run E g mi_X9_fadeRow d lm RT F pm_X9_fadeRow (n + 1) 145 L st h = exI E d lm RT F (run E g mi_X9_fadeRow d lm RT F pm_X9_fadeRow n) (33, ((96 : Nat) : Int), 0, 0, []) L st h := run_s rfl
theorem r_X9_fadeRow_148 : run E g mi_X9_fadeRow d lm RT F pm_X9_fadeRow (n + 1) 148 L st h = exI E d lm RT F (run E g mi_X9_fadeRow d lm RT F pm_X9_fadeRow n) (1, ((6 : Nat) : Int), 0, 150, []) L st h := run_s rfl
theorem r_X9_fadeRow_150 : run E g mi_X9_fadeRow d lm RT F pm_X9_fadeRow (n + 1) 150 L st h = exI E d lm RT F (run E g mi_X9_fadeRow d lm RT F pm_X9_fadeRow n) (48, 0, 0, 0, []) L st h := run_s rfl
theorem e_X9_fadeRow (n : Nat) {pc : Nat} (hF : FOk E d F) (hx : run E g mi_X9_fadeRow d lm RT F pm_X9_fadeRow n pc L st h) : G E g mi_X9_fadeRow d lm RT pc L st h := run_sound hF pk_X9_fadeRow n pc L st h hx
end
def mi_X9_raise : MI := (9, cX9_raise, 5, 0, false)
theorem mo_X9_raise : miOk mi_X9_raise (mt 116) = true := by decide +kernel
def tl_X9_raise : List (Nat × PT) := [(0, (1, ((1 : Nat) : Int), 0, 1, [])),
  (1, (45, ((91 : Nat) : Int), ((1 : Nat) : Int), 4, [])),
  (4, (31, 0, ((21 : Nat) : Int), 7, [])),
  (7, (1, ((2 : Nat) : Int), 0, 8, [])),
  (8, (45, ((91 : Nat) : Int), ((1 : Nat) : Int), 11, [])),
  (11, (31, 0, ((21 : Nat) : Int), 14, [])),
  (14, (1, ((3 : Nat) : Int), 0, 15, [])),
  (15, (45, ((91 : Nat) : Int), ((1 : Nat) : Int), 18, [])),
  (18, (31, 1, ((23 : Nat) : Int), 21, [])),
  (21, (0, (-1), 0, 22, [])),
  (22, (48, 0, 0, 0, [])),
  (23, (1, ((4 : Nat) : Int), 0, 25, [])),
  (25, (0, 0, 0, 26, [])),
  (26, (0, 1000, 0, 29, [])),
  (29, (45, ((90 : Nat) : Int), ((3 : Nat) : Int), 32, [])),
  (32, (31, 1, ((38 : Nat) : Int), 35, [])),
  (35, (0, (-2), 0, 37, [])),
  (37, (48, 0, 0, 0, [])),
  (38, (1, ((1 : Nat) : Int), 0, 39, [])),
  (39, (1, ((2 : Nat) : Int), 0, 40, [])),
  (40, (32, 0, ((52 : Nat) : Int), 43, [])),
  (43, (2, ((0 : Nat) : Int), 0, 44, [])),
  (44, (1, ((1 : Nat) : Int), 0, 45, [])),
  (45, (1, ((3 : Nat) : Int), 0, 46, [])),
  (46, (52, ((92 : Nat) : Int), ((3 : Nat) : Int), 49, [9])),
  (49, (31, 1, ((55 : Nat) : Int), 52, [])),
  (52, (0, (-3), 0, 54, [])),
  (54, (48, 0, 0, 0, [])),
  (55, (2, ((0 : Nat) : Int), 0, 56, [])),
  (56, (1, ((1 : Nat) : Int), 0, 57, [])),
  (57, (1, ((2 : Nat) : Int), 0, 58, [])),
  (58, (1, ((3 : Nat) : Int), 0, 59, [])),
  (59, (1, ((4 : Nat) : Int), 0, 61, [])),
  (61, (51, ((113 : Nat) : Int), ((5 : Nat) : Int), 64, [9])),
  (64, (2, ((0 : Nat) : Int), 0, 65, [])),
  (65, (35, ((9 : Nat) : Int), ((5 : Nat) : Int), 68, [])),
  (68, (1, ((1 : Nat) : Int), 0, 69, [])),
  (69, (1, ((2 : Nat) : Int), 0, 70, [])),
  (70, (45, ((94 : Nat) : Int), ((2 : Nat) : Int), 73, [])),
  (73, (1, ((3 : Nat) : Int), 0, 74, [])),
  (74, (8, 0, 0, 75, [])),
  (75, (38, 0, 0, 76, [])),
  (76, (48, 0, 0, 0, []))]
theorem tk_X9_raise : tOk mi_X9_raise tl_X9_raise = true := by decide +kernel
def pm_X9_raise (pc : Nat) : Option PT := if [].contains pc then none else tl_X9_raise.lookup pc
theorem pk_X9_raise : ∀ pc pt, pm_X9_raise pc = some pt → okPt mi_X9_raise pc pt := fun pc pt h => tOk_pm tk_X9_raise h
section
variable {E : ET} {g : GT} {d : Nat} {lm : Nat × Nat} {RT : RTy} {F : FT} {n : Nat} {L : LV} {st : List AV} {h : AH}
theorem r_X9_raise_0 : run E g mi_X9_raise d lm RT F pm_X9_raise (n + 1) 0 L st h = exI E d lm RT F (run E g mi_X9_raise d lm RT F pm_X9_raise n) (1, ((1 : Nat) : Int), 0, 1, []) L st h := run_s rfl
theorem r_X9_raise_1 : run E g mi_X9_raise d lm RT F pm_X9_raise (n + 1) 1 L st h = exI E d lm RT F (run E g mi_X9_raise d lm RT F pm_X9_raise n) (45, ((91 : Nat) : Int), ((1 : Nat) : Int), 4, []) L st h := run_s rfl
theorem r_X9_raise_4 : run E g mi_X9_raise d lm RT F pm_X9_raise (n + 1) 4 L st h = exI E d lm RT F (run E g mi_X9_raise d lm RT F pm_X9_raise n) (31, 0, ((21 : Nat) : Int), 7, []) L st h := run_s rfl
theorem r_X9_raise_7 : run E g mi_X9_raise d lm RT F pm_X9_raise (n + 1) 7 L st h = exI E d lm RT F (run E g mi_X9_raise d lm RT F pm_X9_raise n) (1, ((2 : Nat) : Int), 0, 8, []) L st h := run_s rfl
theorem r_X9_raise_8 : run E g mi_X9_raise d lm RT F pm_X9_raise (n + 1) 8 L st h = exI E d lm RT F (run E g mi_X9_raise d lm RT F pm_X9_raise n) (45, ((91 : Nat) : Int), ((1 : Nat) : Int), 11, []) L st h := run_s rfl
theorem r_X9_raise_11 : run E g mi_X9_raise d lm RT F pm_X9_raise (n + 1) 11 L st h = exI E d lm RT F (run E g mi_X9_raise d lm RT F pm_X9_raise n) (31, 0, ((21 : Nat) : Int), 14, []) L st h := run_s rfl
theorem r_X9_raise_14 : run E g mi_X9_raise d lm RT F pm_X9_raise (n + 1) 14 L st h = exI E d lm RT F (run E g mi_X9_raise d lm RT F pm_X9_raise n) (1, ((3 : Nat) : Int), 0, 15, []) L st h := run_s rfl
theorem r_X9_raise_15 : run E g mi_X9_raise d lm RT F pm_X9_raise (n + 1) 15 L st h = exI E d lm RT F (run E g mi_X9_raise d lm RT F pm_X9_raise n) (45, ((91 : Nat) : Int), ((1 : Nat) : Int), 18, []) L st h := run_s rfl
theorem r_X9_raise_18 : run E g mi_X9_raise d lm RT F pm_X9_raise (n + 1) 18 L st h = exI E d lm RT F (run E g mi_X9_raise d lm RT F pm_X9_raise n) (31, 1, ((23 : Nat) : Int), 21, []) L st h := run_s rfl
theorem r_X9_raise_21 : run E g mi_X9_raise d lm RT F pm_X9_raise (n + 1) 21 L st h = exI E d lm RT F (run E g mi_X9_raise d lm RT F pm_X9_raise n) (0, (-1), 0, 22, []) L st h := run_s rfl
theorem r_X9_raise_22 : run E g mi_X9_raise d lm RT F pm_X9_raise (n + 1) 22 L st h = exI E d lm RT F (run E g mi_X9_raise d lm RT F pm_X9_raise n) (48, 0, 0, 0, []) L st h := run_s rfl
theorem r_X9_raise_23 : run E g mi_X9_raise d lm RT F pm_X9_raise (n + 1) 23 L st h = exI E d lm RT F (run E g mi_X9_raise d lm RT F pm_X9_raise n) (1, ((4 : Nat) : Int), 0, 25, []) L st h := run_s rfl
theorem r_X9_raise_25 : run E g mi_X9_raise d lm RT F pm_X9_raise (n + 1) 25 L st h = exI E d lm RT F (run E g mi_X9_raise d lm RT F pm_X9_raise n) (0, 0, 0, 26, []) L st h := run_s rfl
theorem r_X9_raise_26 : run E g mi_X9_raise d lm RT F pm_X9_raise (n + 1) 26 L st h = exI E d lm RT F (run E g mi_X9_raise d lm RT F pm_X9_raise n) (0, 1000, 0, 29, []) L st h := run_s rfl
theorem r_X9_raise_29 : run E g mi_X9_raise d lm RT F pm_X9_raise (n + 1) 29 L st h = exI E d lm RT F (run E g mi_X9_raise d lm RT F pm_X9_raise n) (45, ((90 : Nat) : Int), ((3 : Nat) : Int), 32, []) L st h := run_s rfl
theorem r_X9_raise_32 : run E g mi_X9_raise d lm RT F pm_X9_raise (n + 1) 32 L st h = exI E d lm RT F (run E g mi_X9_raise d lm RT F pm_X9_raise n) (31, 1, ((38 : Nat) : Int), 35, []) L st h := run_s rfl
theorem r_X9_raise_35 : run E g mi_X9_raise d lm RT F pm_X9_raise (n + 1) 35 L st h = exI E d lm RT F (run E g mi_X9_raise d lm RT F pm_X9_raise n) (0, (-2), 0, 37, []) L st h := run_s rfl
theorem r_X9_raise_37 : run E g mi_X9_raise d lm RT F pm_X9_raise (n + 1) 37 L st h = exI E d lm RT F (run E g mi_X9_raise d lm RT F pm_X9_raise n) (48, 0, 0, 0, []) L st h := run_s rfl
theorem r_X9_raise_38 : run E g mi_X9_raise d lm RT F pm_X9_raise (n + 1) 38 L st h = exI E d lm RT F (run E g mi_X9_raise d lm RT F pm_X9_raise n) (1, ((1 : Nat) : Int), 0, 39, []) L st h := run_s rfl
theorem r_X9_raise_39 : run E g mi_X9_raise d lm RT F pm_X9_raise (n + 1) 39 L st h = exI E d lm RT F (run E g mi_X9_raise d lm RT F pm_X9_raise n) (1, ((2 : Nat) : Int), 0, 40, []) L st h := run_s rfl
theorem r_X9_raise_40 : run E g mi_X9_raise d lm RT F pm_X9_raise (n + 1) 40 L st h = exI E d lm RT F (run E g mi_X9_raise d lm RT F pm_X9_raise n) (32, 0, ((52 : Nat) : Int), 43, []) L st h := run_s rfl
theorem r_X9_raise_43 : run E g mi_X9_raise d lm RT F pm_X9_raise (n + 1) 43 L st h = exI E d lm RT F (run E g mi_X9_raise d lm RT F pm_X9_raise n) (2, ((0 : Nat) : Int), 0, 44, []) L st h := run_s rfl
theorem r_X9_raise_44 : run E g mi_X9_raise d lm RT F pm_X9_raise (n + 1) 44 L st h = exI E d lm RT F (run E g mi_X9_raise d lm RT F pm_X9_raise n) (1, ((1 : Nat) : Int), 0, 45, []) L st h := run_s rfl
theorem r_X9_raise_45 : run E g mi_X9_raise d lm RT F pm_X9_raise (n + 1) 45 L st h = exI E d lm RT F (run E g mi_X9_raise d lm RT F pm_X9_raise n) (1, ((3 : Nat) : Int), 0, 46, []) L st h := run_s rfl
theorem r_X9_raise_46 : run E g mi_X9_raise d lm RT F pm_X9_raise (n + 1) 46 L st h = exI E d lm RT F (run E g mi_X9_raise d lm RT F pm_X9_raise n) (52, ((92 : Nat) : Int), ((3 : Nat) : Int), 49, [9]) L st h := run_s rfl
theorem r_X9_raise_49 : run E g mi_X9_raise d lm RT F pm_X9_raise (n + 1) 49 L st h = exI E d lm RT F (run E g mi_X9_raise d lm RT F pm_X9_raise n) (31, 1, ((55 : Nat) : Int), 52, []) L st h := run_s rfl
theorem r_X9_raise_52 : run E g mi_X9_raise d lm RT F pm_X9_raise (n + 1) 52 L st h = exI E d lm RT F (run E g mi_X9_raise d lm RT F pm_X9_raise n) (0, (-3), 0, 54, []) L st h := run_s rfl
theorem r_X9_raise_54 : run E g mi_X9_raise d lm RT F pm_X9_raise (n + 1) 54 L st h = exI E d lm RT F (run E g mi_X9_raise d lm RT F pm_X9_raise n) (48, 0, 0, 0, []) L st h := run_s rfl
theorem r_X9_raise_55 : run E g mi_X9_raise d lm RT F pm_X9_raise (n + 1) 55 L st h = exI E d lm RT F (run E g mi_X9_raise d lm RT F pm_X9_raise n) (2, ((0 : Nat) : Int), 0, 56, []) L st h := run_s rfl
theorem r_X9_raise_56 : run E g mi_X9_raise d lm RT F pm_X9_raise (n + 1) 56 L st h = exI E d lm RT F (run E g mi_X9_raise d lm RT F pm_X9_raise n) (1, ((1 : Nat) : Int), 0, 57, []) L st h := run_s rfl
theorem r_X9_raise_57 : run E g mi_X9_raise d lm RT F pm_X9_raise (n + 1) 57 L st h = exI E d lm RT F (run E g mi_X9_raise d lm RT F pm_X9_raise n) (1, ((2 : Nat) : Int), 0, 58, []) L st h := run_s rfl
theorem r_X9_raise_58 : run E g mi_X9_raise d lm RT F pm_X9_raise (n + 1) 58 L st h = exI E d lm RT F (run E g mi_X9_raise d lm RT F pm_X9_raise n) (1, ((3 : Nat) : Int), 0, 59, []) L st h := run_s rfl
theorem r_X9_raise_59 : run E g mi_X9_raise d lm RT F pm_X9_raise (n + 1) 59 L st h = exI E d lm RT F (run E g mi_X9_raise d lm RT F pm_X9_raise n) (1, ((4 : Nat) : Int), 0, 61, []) L st h := run_s rfl
theorem r_X9_raise_61 : run E g mi_X9_raise d lm RT F pm_X9_raise (n + 1) 61 L st h = exI E d lm RT F (run E g mi_X9_raise d lm RT F pm_X9_raise n) (51, ((113 : Nat) : Int), ((5 : Nat) : Int), 64, [9]) L st h := run_s rfl
theorem r_X9_raise_64 : run E g mi_X9_raise d lm RT F pm_X9_raise (n + 1) 64 L st h = exI E d lm RT F (run E g mi_X9_raise d lm RT F pm_X9_raise n) (2, ((0 : Nat) : Int), 0, 65, []) L st h := run_s rfl
theorem r_X9_raise_65 : run E g mi_X9_raise d lm RT F pm_X9_raise (n + 1) 65 L st h = exI E d lm RT F (run E g mi_X9_raise d lm RT F pm_X9_raise n) (35, ((9 : Nat) : Int), ((5 : Nat) : Int), 68, []) L st h := run_s rfl
theorem r_X9_raise_68 : run E g mi_X9_raise d lm RT F pm_X9_raise (n + 1) 68 L st h = exI E d lm RT F (run E g mi_X9_raise d lm RT F pm_X9_raise n) (1, ((1 : Nat) : Int), 0, 69, []) L st h := run_s rfl
theorem r_X9_raise_69 : run E g mi_X9_raise d lm RT F pm_X9_raise (n + 1) 69 L st h = exI E d lm RT F (run E g mi_X9_raise d lm RT F pm_X9_raise n) (1, ((2 : Nat) : Int), 0, 70, []) L st h := run_s rfl
theorem r_X9_raise_70 : run E g mi_X9_raise d lm RT F pm_X9_raise (n + 1) 70 L st h = exI E d lm RT F (run E g mi_X9_raise d lm RT F pm_X9_raise n) (45, ((94 : Nat) : Int), ((2 : Nat) : Int), 73, []) L st h := run_s rfl
theorem r_X9_raise_73 : run E g mi_X9_raise d lm RT F pm_X9_raise (n + 1) 73 L st h = exI E d lm RT F (run E g mi_X9_raise d lm RT F pm_X9_raise n) (1, ((3 : Nat) : Int), 0, 74, []) L st h := run_s rfl
theorem r_X9_raise_74 : run E g mi_X9_raise d lm RT F pm_X9_raise (n + 1) 74 L st h = exI E d lm RT F (run E g mi_X9_raise d lm RT F pm_X9_raise n) (8, 0, 0, 75, []) L st h := run_s rfl
theorem r_X9_raise_75 : run E g mi_X9_raise d lm RT F pm_X9_raise (n + 1) 75 L st h = exI E d lm RT F (run E g mi_X9_raise d lm RT F pm_X9_raise n) (38, 0, 0, 76, []) L st h := run_s rfl
theorem r_X9_raise_76 : run E g mi_X9_raise d lm RT F pm_X9_raise (n + 1) 76 L st h = exI E d lm RT F (run E g mi_X9_raise d lm RT F pm_X9_raise n) (48, 0, 0, 0, []) L st h := run_s rfl
theorem e_X9_raise (n : Nat) {pc : Nat} (hF : FOk E d F) (hx : run E g mi_X9_raise d lm RT F pm_X9_raise n pc L st h) : G E g mi_X9_raise d lm RT pc L st h := run_sound hF pk_X9_raise n pc L st h hx
end
def mi_X9_even : MI := (9, cX9_even, 3, 0, false)
theorem mo_X9_even : miOk mi_X9_even (mt 117) = true := by decide +kernel
def tl_X9_even : List (Nat × PT) := [(0, (1, ((1 : Nat) : Int), 0, 1, [])),
  (1, (45, ((91 : Nat) : Int), ((1 : Nat) : Int), 4, [])),
  (4, (31, 0, ((14 : Nat) : Int), 7, [])),
  (7, (1, ((2 : Nat) : Int), 0, 8, [])),
  (8, (45, ((91 : Nat) : Int), ((1 : Nat) : Int), 11, [])),
  (11, (31, 1, ((16 : Nat) : Int), 14, [])),
  (14, (0, (-1), 0, 15, [])),
  (15, (48, 0, 0, 0, [])),
  (16, (1, ((1 : Nat) : Int), 0, 17, [])),
  (17, (1, ((2 : Nat) : Int), 0, 18, [])),
  (18, (32, 1, ((24 : Nat) : Int), 21, [])),
  (21, (0, (-3), 0, 23, [])),
  (23, (48, 0, 0, 0, [])),
  (24, (2, ((0 : Nat) : Int), 0, 25, [])),
  (25, (1, ((1 : Nat) : Int), 0, 26, [])),
  (26, (1, ((2 : Nat) : Int), 0, 27, [])),
  (27, (51, ((96 : Nat) : Int), ((3 : Nat) : Int), 30, [9])),
  (30, (2, ((0 : Nat) : Int), 0, 31, [])),
  (31, (1, ((1 : Nat) : Int), 0, 32, [])),
  (32, (51, ((93 : Nat) : Int), ((2 : Nat) : Int), 35, [9])),
  (35, (48, 0, 0, 0, []))]
theorem tk_X9_even : tOk mi_X9_even tl_X9_even = true := by decide +kernel
def pm_X9_even (pc : Nat) : Option PT := if [].contains pc then none else tl_X9_even.lookup pc
theorem pk_X9_even : ∀ pc pt, pm_X9_even pc = some pt → okPt mi_X9_even pc pt := fun pc pt h => tOk_pm tk_X9_even h
section
variable {E : ET} {g : GT} {d : Nat} {lm : Nat × Nat} {RT : RTy} {F : FT} {n : Nat} {L : LV} {st : List AV} {h : AH}
theorem r_X9_even_0 : run E g mi_X9_even d lm RT F pm_X9_even (n + 1) 0 L st h = exI E d lm RT F (run E g mi_X9_even d lm RT F pm_X9_even n) (1, ((1 : Nat) : Int), 0, 1, []) L st h := run_s rfl
theorem r_X9_even_1 : run E g mi_X9_even d lm RT F pm_X9_even (n + 1) 1 L st h = exI E d lm RT F (run E g mi_X9_even d lm RT F pm_X9_even n) (45, ((91 : Nat) : Int), ((1 : Nat) : Int), 4, []) L st h := run_s rfl
theorem r_X9_even_4 : run E g mi_X9_even d lm RT F pm_X9_even (n + 1) 4 L st h = exI E d lm RT F (run E g mi_X9_even d lm RT F pm_X9_even n) (31, 0, ((14 : Nat) : Int), 7, []) L st h := run_s rfl
theorem r_X9_even_7 : run E g mi_X9_even d lm RT F pm_X9_even (n + 1) 7 L st h = exI E d lm RT F (run E g mi_X9_even d lm RT F pm_X9_even n) (1, ((2 : Nat) : Int), 0, 8, []) L st h := run_s rfl
theorem r_X9_even_8 : run E g mi_X9_even d lm RT F pm_X9_even (n + 1) 8 L st h = exI E d lm RT F (run E g mi_X9_even d lm RT F pm_X9_even n) (45, ((91 : Nat) : Int), ((1 : Nat) : Int), 11, []) L st h := run_s rfl
theorem r_X9_even_11 : run E g mi_X9_even d lm RT F pm_X9_even (n + 1) 11 L st h = exI E d lm RT F (run E g mi_X9_even d lm RT F pm_X9_even n) (31, 1, ((16 : Nat) : Int), 14, []) L st h := run_s rfl
theorem r_X9_even_14 : run E g mi_X9_even d lm RT F pm_X9_even (n + 1) 14 L st h = exI E d lm RT F (run E g mi_X9_even d lm RT F pm_X9_even n) (0, (-1), 0, 15, []) L st h := run_s rfl
theorem r_X9_even_15 : run E g mi_X9_even d lm RT F pm_X9_even (n + 1) 15 L st h = exI E d lm RT F (run E g mi_X9_even d lm RT F pm_X9_even n) (48, 0, 0, 0, []) L st h := run_s rfl
theorem r_X9_even_16 : run E g mi_X9_even d lm RT F pm_X9_even (n + 1) 16 L st h = exI E d lm RT F (run E g mi_X9_even d lm RT F pm_X9_even n) (1, ((1 : Nat) : Int), 0, 17, []) L st h := run_s rfl
theorem r_X9_even_17 : run E g mi_X9_even d lm RT F pm_X9_even (n + 1) 17 L st h = exI E d lm RT F (run E g mi_X9_even d lm RT F pm_X9_even n) (1, ((2 : Nat) : Int), 0, 18, []) L st h := run_s rfl
theorem r_X9_even_18 : run E g mi_X9_even d lm RT F pm_X9_even (n + 1) 18 L st h = exI E d lm RT F (run E g mi_X9_even d lm RT F pm_X9_even n) (32, 1, ((24 : Nat) : Int), 21, []) L st h := run_s rfl
theorem r_X9_even_21 : run E g mi_X9_even d lm RT F pm_X9_even (n + 1) 21 L st h = exI E d lm RT F (run E g mi_X9_even d lm RT F pm_X9_even n) (0, (-3), 0, 23, []) L st h := run_s rfl
theorem r_X9_even_23 : run E g mi_X9_even d lm RT F pm_X9_even (n + 1) 23 L st h = exI E d lm RT F (run E g mi_X9_even d lm RT F pm_X9_even n) (48, 0, 0, 0, []) L st h := run_s rfl
theorem r_X9_even_24 : run E g mi_X9_even d lm RT F pm_X9_even (n + 1) 24 L st h = exI E d lm RT F (run E g mi_X9_even d lm RT F pm_X9_even n) (2, ((0 : Nat) : Int), 0, 25, []) L st h := run_s rfl
theorem r_X9_even_25 : run E g mi_X9_even d lm RT F pm_X9_even (n + 1) 25 L st h = exI E d lm RT F (run E g mi_X9_even d lm RT F pm_X9_even n) (1, ((1 : Nat) : Int), 0, 26, []) L st h := run_s rfl
theorem r_X9_even_26 : run E g mi_X9_even d lm RT F pm_X9_even (n + 1) 26 L st h = exI E d lm RT F (run E g mi_X9_even d lm RT F pm_X9_even n) (1, ((2 : Nat) : Int), 0, 27, []) L st h := run_s rfl
theorem r_X9_even_27 : run E g mi_X9_even d lm RT F pm_X9_even (n + 1) 27 L st h = exI E d lm RT F (run E g mi_X9_even d lm RT F pm_X9_even n) (51, ((96 : Nat) : Int), ((3 : Nat) : Int), 30, [9]) L st h := run_s rfl
theorem r_X9_even_30 : run E g mi_X9_even d lm RT F pm_X9_even (n + 1) 30 L st h = exI E d lm RT F (run E g mi_X9_even d lm RT F pm_X9_even n) (2, ((0 : Nat) : Int), 0, 31, []) L st h := run_s rfl
theorem r_X9_even_31 : run E g mi_X9_even d lm RT F pm_X9_even (n + 1) 31 L st h = exI E d lm RT F (run E g mi_X9_even d lm RT F pm_X9_even n) (1, ((1 : Nat) : Int), 0, 32, []) L st h := run_s rfl
theorem r_X9_even_32 : run E g mi_X9_even d lm RT F pm_X9_even (n + 1) 32 L st h = exI E d lm RT F (run E g mi_X9_even d lm RT F pm_X9_even n) (51, ((93 : Nat) : Int), ((2 : Nat) : Int), 35, [9]) L st h := run_s rfl
theorem r_X9_even_35 : run E g mi_X9_even d lm RT F pm_X9_even (n + 1) 35 L st h = exI E d lm RT F (run E g mi_X9_even d lm RT F pm_X9_even n) (48, 0, 0, 0, []) L st h := run_s rfl
theorem e_X9_even (n : Nat) {pc : Nat} (hF : FOk E d F) (hx : run E g mi_X9_even d lm RT F pm_X9_even n pc L st h) : G E g mi_X9_even d lm RT pc L st h := run_sound hF pk_X9_even n pc L st h hx
end
def mi_X9_seed : MI := (9, cX9_seed, 3, 0, false)
theorem mo_X9_seed : miOk mi_X9_seed (mt 118) = true := by decide +kernel
def tl_X9_seed : List (Nat × PT) := [(0, (2, ((0 : Nat) : Int), 0, 1, [])),
  (1, (35, ((9 : Nat) : Int), ((11 : Nat) : Int), 4, [])),
  (4, (4, ((2 : Nat) : Int), 0, 5, [])),
  (5, (2, ((0 : Nat) : Int), 0, 6, [])),
  (6, (1, ((1 : Nat) : Int), 0, 7, [])),
  (7, (36, ((9 : Nat) : Int), ((11 : Nat) : Int), 10, [0])),
  (10, (1, ((2 : Nat) : Int), 0, 11, [])),
  (11, (48, 0, 0, 0, []))]
theorem tk_X9_seed : tOk mi_X9_seed tl_X9_seed = true := by decide +kernel
def pm_X9_seed (pc : Nat) : Option PT := if [].contains pc then none else tl_X9_seed.lookup pc
theorem pk_X9_seed : ∀ pc pt, pm_X9_seed pc = some pt → okPt mi_X9_seed pc pt := fun pc pt h => tOk_pm tk_X9_seed h
section
variable {E : ET} {g : GT} {d : Nat} {lm : Nat × Nat} {RT : RTy} {F : FT} {n : Nat} {L : LV} {st : List AV} {h : AH}
theorem r_X9_seed_0 : run E g mi_X9_seed d lm RT F pm_X9_seed (n + 1) 0 L st h = exI E d lm RT F (run E g mi_X9_seed d lm RT F pm_X9_seed n) (2, ((0 : Nat) : Int), 0, 1, []) L st h := run_s rfl
theorem r_X9_seed_1 : run E g mi_X9_seed d lm RT F pm_X9_seed (n + 1) 1 L st h = exI E d lm RT F (run E g mi_X9_seed d lm RT F pm_X9_seed n) (35, ((9 : Nat) : Int), ((11 : Nat) : Int), 4, []) L st h := run_s rfl
theorem r_X9_seed_4 : run E g mi_X9_seed d lm RT F pm_X9_seed (n + 1) 4 L st h = exI E d lm RT F (run E g mi_X9_seed d lm RT F pm_X9_seed n) (4, ((2 : Nat) : Int), 0, 5, []) L st h := run_s rfl
theorem r_X9_seed_5 : run E g mi_X9_seed d lm RT F pm_X9_seed (n + 1) 5 L st h = exI E d lm RT F (run E g mi_X9_seed d lm RT F pm_X9_seed n) (2, ((0 : Nat) : Int), 0, 6, []) L st h := run_s rfl
theorem r_X9_seed_6 : run E g mi_X9_seed d lm RT F pm_X9_seed (n + 1) 6 L st h = exI E d lm RT F (run E g mi_X9_seed d lm RT F pm_X9_seed n) (1, ((1 : Nat) : Int), 0, 7, []) L st h := run_s rfl
theorem r_X9_seed_7 : run E g mi_X9_seed d lm RT F pm_X9_seed (n + 1) 7 L st h = exI E d lm RT F (run E g mi_X9_seed d lm RT F pm_X9_seed n) (36, ((9 : Nat) : Int), ((11 : Nat) : Int), 10, [0]) L st h := run_s rfl
theorem r_X9_seed_10 : run E g mi_X9_seed d lm RT F pm_X9_seed (n + 1) 10 L st h = exI E d lm RT F (run E g mi_X9_seed d lm RT F pm_X9_seed n) (1, ((2 : Nat) : Int), 0, 11, []) L st h := run_s rfl
theorem r_X9_seed_11 : run E g mi_X9_seed d lm RT F pm_X9_seed (n + 1) 11 L st h = exI E d lm RT F (run E g mi_X9_seed d lm RT F pm_X9_seed n) (48, 0, 0, 0, []) L st h := run_s rfl
theorem e_X9_seed (n : Nat) {pc : Nat} (hF : FOk E d F) (hx : run E g mi_X9_seed d lm RT F pm_X9_seed n pc L st h) : G E g mi_X9_seed d lm RT pc L st h := run_sound hF pk_X9_seed n pc L st h hx
end
def mi_X9_draw : MI := (9, cX9_draw, 2, 0, false)
theorem mo_X9_draw : miOk mi_X9_draw (mt 119) = true := by decide +kernel
def tl_X9_draw : List (Nat × PT) := [(0, (2, ((0 : Nat) : Int), 0, 1, [])),
  (1, (0, 1103515245, 0, 3, [])),
  (3, (2, ((0 : Nat) : Int), 0, 4, [])),
  (4, (35, ((9 : Nat) : Int), ((11 : Nat) : Int), 7, [])),
  (7, (10, 0, 0, 8, [])),
  (8, (0, 12345, 0, 11, [])),
  (11, (8, 0, 0, 12, [])),
  (12, (36, ((9 : Nat) : Int), ((11 : Nat) : Int), 15, [0])),
  (15, (2, ((0 : Nat) : Int), 0, 16, [])),
  (16, (28, 0, 0, 17, [])),
  (17, (35, ((9 : Nat) : Int), ((13 : Nat) : Int), 20, [])),
  (20, (0, 1, 0, 21, [])),
  (21, (8, 0, 0, 22, [])),
  (22, (36, ((9 : Nat) : Int), ((13 : Nat) : Int), 25, [0])),
  (25, (2, ((0 : Nat) : Int), 0, 26, [])),
  (26, (35, ((9 : Nat) : Int), ((11 : Nat) : Int), 29, [])),
  (29, (0, 16, 0, 31, [])),
  (31, (18, 0, 0, 32, [])),
  (32, (1, ((1 : Nat) : Int), 0, 33, [])),
  (33, (12, 0, 0, 34, [])),
  (34, (48, 0, 0, 0, []))]
theorem tk_X9_draw : tOk mi_X9_draw tl_X9_draw = true := by decide +kernel
def pm_X9_draw (pc : Nat) : Option PT := if [].contains pc then none else tl_X9_draw.lookup pc
theorem pk_X9_draw : ∀ pc pt, pm_X9_draw pc = some pt → okPt mi_X9_draw pc pt := fun pc pt h => tOk_pm tk_X9_draw h
section
variable {E : ET} {g : GT} {d : Nat} {lm : Nat × Nat} {RT : RTy} {F : FT} {n : Nat} {L : LV} {st : List AV} {h : AH}
theorem r_X9_draw_0 : run E g mi_X9_draw d lm RT F pm_X9_draw (n + 1) 0 L st h = exI E d lm RT F (run E g mi_X9_draw d lm RT F pm_X9_draw n) (2, ((0 : Nat) : Int), 0, 1, []) L st h := run_s rfl
theorem r_X9_draw_1 : run E g mi_X9_draw d lm RT F pm_X9_draw (n + 1) 1 L st h = exI E d lm RT F (run E g mi_X9_draw d lm RT F pm_X9_draw n) (0, 1103515245, 0, 3, []) L st h := run_s rfl
theorem r_X9_draw_3 : run E g mi_X9_draw d lm RT F pm_X9_draw (n + 1) 3 L st h = exI E d lm RT F (run E g mi_X9_draw d lm RT F pm_X9_draw n) (2, ((0 : Nat) : Int), 0, 4, []) L st h := run_s rfl
theorem r_X9_draw_4 : run E g mi_X9_draw d lm RT F pm_X9_draw (n + 1) 4 L st h = exI E d lm RT F (run E g mi_X9_draw d lm RT F pm_X9_draw n) (35, ((9 : Nat) : Int), ((11 : Nat) : Int), 7, []) L st h := run_s rfl
theorem r_X9_draw_7 : run E g mi_X9_draw d lm RT F pm_X9_draw (n + 1) 7 L st h = exI E d lm RT F (run E g mi_X9_draw d lm RT F pm_X9_draw n) (10, 0, 0, 8, []) L st h := run_s rfl
theorem r_X9_draw_8 : run E g mi_X9_draw d lm RT F pm_X9_draw (n + 1) 8 L st h = exI E d lm RT F (run E g mi_X9_draw d lm RT F pm_X9_draw n) (0, 12345, 0, 11, []) L st h := run_s rfl
theorem r_X9_draw_11 : run E g mi_X9_draw d lm RT F pm_X9_draw (n + 1) 11 L st h = exI E d lm RT F (run E g mi_X9_draw d lm RT F pm_X9_draw n) (8, 0, 0, 12, []) L st h := run_s rfl
theorem r_X9_draw_12 : run E g mi_X9_draw d lm RT F pm_X9_draw (n + 1) 12 L st h = exI E d lm RT F (run E g mi_X9_draw d lm RT F pm_X9_draw n) (36, ((9 : Nat) : Int), ((11 : Nat) : Int), 15, [0]) L st h := run_s rfl
theorem r_X9_draw_15 : run E g mi_X9_draw d lm RT F pm_X9_draw (n + 1) 15 L st h = exI E d lm RT F (run E g mi_X9_draw d lm RT F pm_X9_draw n) (2, ((0 : Nat) : Int), 0, 16, []) L st h := run_s rfl
theorem r_X9_draw_16 : run E g mi_X9_draw d lm RT F pm_X9_draw (n + 1) 16 L st h = exI E d lm RT F (run E g mi_X9_draw d lm RT F pm_X9_draw n) (28, 0, 0, 17, []) L st h := run_s rfl
theorem r_X9_draw_17 : run E g mi_X9_draw d lm RT F pm_X9_draw (n + 1) 17 L st h = exI E d lm RT F (run E g mi_X9_draw d lm RT F pm_X9_draw n) (35, ((9 : Nat) : Int), ((13 : Nat) : Int), 20, []) L st h := run_s rfl
theorem r_X9_draw_20 : run E g mi_X9_draw d lm RT F pm_X9_draw (n + 1) 20 L st h = exI E d lm RT F (run E g mi_X9_draw d lm RT F pm_X9_draw n) (0, 1, 0, 21, []) L st h := run_s rfl
theorem r_X9_draw_21 : run E g mi_X9_draw d lm RT F pm_X9_draw (n + 1) 21 L st h = exI E d lm RT F (run E g mi_X9_draw d lm RT F pm_X9_draw n) (8, 0, 0, 22, []) L st h := run_s rfl
theorem r_X9_draw_22 : run E g mi_X9_draw d lm RT F pm_X9_draw (n + 1) 22 L st h = exI E d lm RT F (run E g mi_X9_draw d lm RT F pm_X9_draw n) (36, ((9 : Nat) : Int), ((13 : Nat) : Int), 25, [0]) L st h := run_s rfl
theorem r_X9_draw_25 : run E g mi_X9_draw d lm RT F pm_X9_draw (n + 1) 25 L st h = exI E d lm RT F (run E g mi_X9_draw d lm RT F pm_X9_draw n) (2, ((0 : Nat) : Int), 0, 26, []) L st h := run_s rfl
theorem r_X9_draw_26 : run E g mi_X9_draw d lm RT F pm_X9_draw (n + 1) 26 L st h = exI E d lm RT F (run E g mi_X9_draw d lm RT F pm_X9_draw n) (35, ((9 : Nat) : Int), ((11 : Nat) : Int), 29, []) L st h := run_s rfl
theorem r_X9_draw_29 : run E g mi_X9_draw d lm RT F pm_X9_draw (n + 1) 29 L st h = exI E d lm RT F (run E g mi_X9_draw d lm RT F pm_X9_draw n) (0, 16, 0, 31, []) L st h := run_s rfl
theorem r_X9_draw_31 : run E g mi_X9_draw d lm RT F pm_X9_draw (n + 1) 31 L st h = exI E d lm RT F (run E g mi_X9_draw d lm RT F pm_X9_draw n) (18, 0, 0, 32, []) L st h := run_s rfl
theorem r_X9_draw_32 : run E g mi_X9_draw d lm RT F pm_X9_draw (n + 1) 32 L st h = exI E d lm RT F (run E g mi_X9_draw d lm RT F pm_X9_draw n) (1, ((1 : Nat) : Int), 0, 33, []) L st h := run_s rfl
theorem r_X9_draw_33 : run E g mi_X9_draw d lm RT F pm_X9_draw (n + 1) 33 L st h = exI E d lm RT F (run E g mi_X9_draw d lm RT F pm_X9_draw n) (12, 0, 0, 34, []) L st h := run_s rfl
theorem r_X9_draw_34 : run E g mi_X9_draw d lm RT F pm_X9_draw (n + 1) 34 L st h = exI E d lm RT F (run E g mi_X9_draw d lm RT F pm_X9_draw n) (48, 0, 0, 0, []) L st h := run_s rfl
theorem e_X9_draw (n : Nat) {pc : Nat} (hF : FOk E d F) (hx : run E g mi_X9_draw d lm RT F pm_X9_draw n pc L st h) : G E g mi_X9_draw d lm RT pc L st h := run_sound hF pk_X9_draw n pc L st h hx
end
def mi_X9_loses : MI := (9, cX9_loses, 2, 4, false)
theorem mo_X9_loses : miOk mi_X9_loses (mt 120) = true := by decide +kernel
def tl_X9_loses : List (Nat × PT) := [(0, (2, ((0 : Nat) : Int), 0, 1, [])),
  (1, (35, ((9 : Nat) : Int), ((17 : Nat) : Int), 4, [])),
  (4, (1, ((1 : Nat) : Int), 0, 5, [])),
  (5, (0, 0, 0, 6, [])),
  (6, (39, 1, 0, 7, [])),
  (7, (2, ((0 : Nat) : Int), 0, 8, [])),
  (8, (28, 0, 0, 9, [])),
  (9, (35, ((9 : Nat) : Int), ((15 : Nat) : Int), 12, [])),
  (12, (0, 1, 0, 13, [])),
  (13, (8, 0, 0, 14, [])),
  (14, (36, ((9 : Nat) : Int), ((15 : Nat) : Int), 17, [0])),
  (17, (48, 4, 0, 0, []))]
theorem tk_X9_loses : tOk mi_X9_loses tl_X9_loses = true := by decide +kernel
def pm_X9_loses (pc : Nat) : Option PT := if [].contains pc then none else tl_X9_loses.lookup pc
theorem pk_X9_loses : ∀ pc pt, pm_X9_loses pc = some pt → okPt mi_X9_loses pc pt := fun pc pt h => tOk_pm tk_X9_loses h
section
variable {E : ET} {g : GT} {d : Nat} {lm : Nat × Nat} {RT : RTy} {F : FT} {n : Nat} {L : LV} {st : List AV} {h : AH}
theorem r_X9_loses_0 : run E g mi_X9_loses d lm RT F pm_X9_loses (n + 1) 0 L st h = exI E d lm RT F (run E g mi_X9_loses d lm RT F pm_X9_loses n) (2, ((0 : Nat) : Int), 0, 1, []) L st h := run_s rfl
theorem r_X9_loses_1 : run E g mi_X9_loses d lm RT F pm_X9_loses (n + 1) 1 L st h = exI E d lm RT F (run E g mi_X9_loses d lm RT F pm_X9_loses n) (35, ((9 : Nat) : Int), ((17 : Nat) : Int), 4, []) L st h := run_s rfl
theorem r_X9_loses_4 : run E g mi_X9_loses d lm RT F pm_X9_loses (n + 1) 4 L st h = exI E d lm RT F (run E g mi_X9_loses d lm RT F pm_X9_loses n) (1, ((1 : Nat) : Int), 0, 5, []) L st h := run_s rfl
theorem r_X9_loses_5 : run E g mi_X9_loses d lm RT F pm_X9_loses (n + 1) 5 L st h = exI E d lm RT F (run E g mi_X9_loses d lm RT F pm_X9_loses n) (0, 0, 0, 6, []) L st h := run_s rfl
theorem r_X9_loses_6 : run E g mi_X9_loses d lm RT F pm_X9_loses (n + 1) 6 L st h = exI E d lm RT F (run E g mi_X9_loses d lm RT F pm_X9_loses n) (39, 1, 0, 7, []) L st h := run_s rfl
theorem r_X9_loses_7 : run E g mi_X9_loses d lm RT F pm_X9_loses (n + 1) 7 L st h = exI E d lm RT F (run E g mi_X9_loses d lm RT F pm_X9_loses n) (2, ((0 : Nat) : Int), 0, 8, []) L st h := run_s rfl
theorem r_X9_loses_8 : run E g mi_X9_loses d lm RT F pm_X9_loses (n + 1) 8 L st h = exI E d lm RT F (run E g mi_X9_loses d lm RT F pm_X9_loses n) (28, 0, 0, 9, []) L st h := run_s rfl
theorem r_X9_loses_9 : run E g mi_X9_loses d lm RT F pm_X9_loses (n + 1) 9 L st h = exI E d lm RT F (run E g mi_X9_loses d lm RT F pm_X9_loses n) (35, ((9 : Nat) : Int), ((15 : Nat) : Int), 12, []) L st h := run_s rfl
theorem r_X9_loses_12 : run E g mi_X9_loses d lm RT F pm_X9_loses (n + 1) 12 L st h = exI E d lm RT F (run E g mi_X9_loses d lm RT F pm_X9_loses n) (0, 1, 0, 13, []) L st h := run_s rfl
theorem r_X9_loses_13 : run E g mi_X9_loses d lm RT F pm_X9_loses (n + 1) 13 L st h = exI E d lm RT F (run E g mi_X9_loses d lm RT F pm_X9_loses n) (8, 0, 0, 14, []) L st h := run_s rfl
theorem r_X9_loses_14 : run E g mi_X9_loses d lm RT F pm_X9_loses (n + 1) 14 L st h = exI E d lm RT F (run E g mi_X9_loses d lm RT F pm_X9_loses n) (36, ((9 : Nat) : Int), ((15 : Nat) : Int), 17, [0]) L st h := run_s rfl
theorem r_X9_loses_17 : run E g mi_X9_loses d lm RT F pm_X9_loses (n + 1) 17 L st h = exI E d lm RT F (run E g mi_X9_loses d lm RT F pm_X9_loses n) (48, 4, 0, 0, []) L st h := run_s rfl
theorem e_X9_loses (n : Nat) {pc : Nat} (hF : FOk E d F) (hx : run E g mi_X9_loses d lm RT F pm_X9_loses n pc L st h) : G E g mi_X9_loses d lm RT pc L st h := run_sound hF pk_X9_loses n pc L st h hx
end
def mi_X9_placeIn : MI := (9, cX9_placeIn, 4, 0, false)
theorem mo_X9_placeIn : miOk mi_X9_placeIn (mt 121) = true := by decide +kernel
def tl_X9_placeIn : List (Nat × PT) := [(0, (0, 0, 0, 1, [])),
  (1, (4, ((3 : Nat) : Int), 0, 2, [])),
  (2, (1, ((3 : Nat) : Int), 0, 3, [])),
  (3, (2, ((0 : Nat) : Int), 0, 4, [])),
  (4, (35, ((9 : Nat) : Int), ((26 : Nat) : Int), 7, [])),
  (7, (1, ((1 : Nat) : Int), 0, 8, [])),
  (8, (38, 0, 0, 9, [])),
  (9, (32, 3, ((35 : Nat) : Int), 12, [])),
  (12, (2, ((0 : Nat) : Int), 0, 13, [])),
  (13, (35, ((9 : Nat) : Int), ((27 : Nat) : Int), 16, [])),
  (16, (0, 8, 0, 18, [])),
  (18, (1, ((1 : Nat) : Int), 0, 19, [])),
  (19, (10, 0, 0, 20, [])),
  (20, (1, ((3 : Nat) : Int), 0, 21, [])),
  (21, (8, 0, 0, 22, [])),
  (22, (38, 0, 0, 23, [])),
  (23, (1, ((2 : Nat) : Int), 0, 24, [])),
  (24, (32, 1, ((29 : Nat) : Int), 27, [])),
  (27, (1, ((3 : Nat) : Int), 0, 28, [])),
  (28, (48, 0, 0, 0, [])),
  (29, (7, ((3 : Nat) : Int), 1, 32, [])),
  (32, (33, ((2 : Nat) : Int), 0, 0, [])),
  (35, (0, (-9), 0, 37, [])),
  (37, (48, 0, 0, 0, []))]
theorem tk_X9_placeIn : tOk mi_X9_placeIn tl_X9_placeIn = true := by decide +kernel
def pm_X9_placeIn (pc : Nat) : Option PT := if [2].contains pc then none else tl_X9_placeIn.lookup pc
theorem pk_X9_placeIn : ∀ pc pt, pm_X9_placeIn pc = some pt → okPt mi_X9_placeIn pc pt := fun pc pt h => tOk_pm tk_X9_placeIn h
section
variable {E : ET} {g : GT} {d : Nat} {lm : Nat × Nat} {RT : RTy} {F : FT} {n : Nat} {L : LV} {st : List AV} {h : AH}
theorem r_X9_placeIn_0 : run E g mi_X9_placeIn d lm RT F pm_X9_placeIn (n + 1) 0 L st h = exI E d lm RT F (run E g mi_X9_placeIn d lm RT F pm_X9_placeIn n) (0, 0, 0, 1, []) L st h := run_s rfl
theorem r_X9_placeIn_1 : run E g mi_X9_placeIn d lm RT F pm_X9_placeIn (n + 1) 1 L st h = exI E d lm RT F (run E g mi_X9_placeIn d lm RT F pm_X9_placeIn n) (4, ((3 : Nat) : Int), 0, 2, []) L st h := run_s rfl
theorem r_X9_placeIn_2 : run E g mi_X9_placeIn d lm RT F pm_X9_placeIn (n + 1) 2 L st h = G E g mi_X9_placeIn d lm RT 2 L st h := run_c rfl
theorem q_X9_placeIn_2 (n : Nat) (hF : FOk E d F) (hx : exI E d lm RT F (run E g mi_X9_placeIn d lm RT F pm_X9_placeIn n) (1, ((3 : Nat) : Int), 0, 3, []) L st h) : G E g mi_X9_placeIn d lm RT 2 L st h := sstep hF (tOk_spec tk_X9_placeIn (by decide +kernel)) (run_sound hF pk_X9_placeIn n) hx
theorem r_X9_placeIn_3 : run E g mi_X9_placeIn d lm RT F pm_X9_placeIn (n + 1) 3 L st h = exI E d lm RT F (run E g mi_X9_placeIn d lm RT F pm_X9_placeIn n) (2, ((0 : Nat) : Int), 0, 4, []) L st h := run_s rfl
theorem r_X9_placeIn_4 : run E g mi_X9_placeIn d lm RT F pm_X9_placeIn (n + 1) 4 L st h = exI E d lm RT F (run E g mi_X9_placeIn d lm RT F pm_X9_placeIn n) (35, ((9 : Nat) : Int), ((26 : Nat) : Int), 7, []) L st h := run_s rfl
theorem r_X9_placeIn_7 : run E g mi_X9_placeIn d lm RT F pm_X9_placeIn (n + 1) 7 L st h = exI E d lm RT F (run E g mi_X9_placeIn d lm RT F pm_X9_placeIn n) (1, ((1 : Nat) : Int), 0, 8, []) L st h := run_s rfl
theorem r_X9_placeIn_8 : run E g mi_X9_placeIn d lm RT F pm_X9_placeIn (n + 1) 8 L st h = exI E d lm RT F (run E g mi_X9_placeIn d lm RT F pm_X9_placeIn n) (38, 0, 0, 9, []) L st h := run_s rfl
theorem r_X9_placeIn_9 : run E g mi_X9_placeIn d lm RT F pm_X9_placeIn (n + 1) 9 L st h = exI E d lm RT F (run E g mi_X9_placeIn d lm RT F pm_X9_placeIn n) (32, 3, ((35 : Nat) : Int), 12, []) L st h := run_s rfl
theorem r_X9_placeIn_12 : run E g mi_X9_placeIn d lm RT F pm_X9_placeIn (n + 1) 12 L st h = exI E d lm RT F (run E g mi_X9_placeIn d lm RT F pm_X9_placeIn n) (2, ((0 : Nat) : Int), 0, 13, []) L st h := run_s rfl
theorem r_X9_placeIn_13 : run E g mi_X9_placeIn d lm RT F pm_X9_placeIn (n + 1) 13 L st h = exI E d lm RT F (run E g mi_X9_placeIn d lm RT F pm_X9_placeIn n) (35, ((9 : Nat) : Int), ((27 : Nat) : Int), 16, []) L st h := run_s rfl
theorem r_X9_placeIn_16 : run E g mi_X9_placeIn d lm RT F pm_X9_placeIn (n + 1) 16 L st h = exI E d lm RT F (run E g mi_X9_placeIn d lm RT F pm_X9_placeIn n) (0, 8, 0, 18, []) L st h := run_s rfl
theorem r_X9_placeIn_18 : run E g mi_X9_placeIn d lm RT F pm_X9_placeIn (n + 1) 18 L st h = exI E d lm RT F (run E g mi_X9_placeIn d lm RT F pm_X9_placeIn n) (1, ((1 : Nat) : Int), 0, 19, []) L st h := run_s rfl
theorem r_X9_placeIn_19 : run E g mi_X9_placeIn d lm RT F pm_X9_placeIn (n + 1) 19 L st h = exI E d lm RT F (run E g mi_X9_placeIn d lm RT F pm_X9_placeIn n) (10, 0, 0, 20, []) L st h := run_s rfl
theorem r_X9_placeIn_20 : run E g mi_X9_placeIn d lm RT F pm_X9_placeIn (n + 1) 20 L st h = exI E d lm RT F (run E g mi_X9_placeIn d lm RT F pm_X9_placeIn n) (1, ((3 : Nat) : Int), 0, 21, []) L st h := run_s rfl
theorem r_X9_placeIn_21 : run E g mi_X9_placeIn d lm RT F pm_X9_placeIn (n + 1) 21 L st h = exI E d lm RT F (run E g mi_X9_placeIn d lm RT F pm_X9_placeIn n) (8, 0, 0, 22, []) L st h := run_s rfl
theorem r_X9_placeIn_22 : run E g mi_X9_placeIn d lm RT F pm_X9_placeIn (n + 1) 22 L st h = exI E d lm RT F (run E g mi_X9_placeIn d lm RT F pm_X9_placeIn n) (38, 0, 0, 23, []) L st h := run_s rfl
theorem r_X9_placeIn_23 : run E g mi_X9_placeIn d lm RT F pm_X9_placeIn (n + 1) 23 L st h = exI E d lm RT F (run E g mi_X9_placeIn d lm RT F pm_X9_placeIn n) (1, ((2 : Nat) : Int), 0, 24, []) L st h := run_s rfl
theorem r_X9_placeIn_24 : run E g mi_X9_placeIn d lm RT F pm_X9_placeIn (n + 1) 24 L st h = exI E d lm RT F (run E g mi_X9_placeIn d lm RT F pm_X9_placeIn n) (32, 1, ((29 : Nat) : Int), 27, []) L st h := run_s rfl
theorem r_X9_placeIn_27 : run E g mi_X9_placeIn d lm RT F pm_X9_placeIn (n + 1) 27 L st h = exI E d lm RT F (run E g mi_X9_placeIn d lm RT F pm_X9_placeIn n) (1, ((3 : Nat) : Int), 0, 28, []) L st h := run_s rfl
theorem r_X9_placeIn_28 : run E g mi_X9_placeIn d lm RT F pm_X9_placeIn (n + 1) 28 L st h = exI E d lm RT F (run E g mi_X9_placeIn d lm RT F pm_X9_placeIn n) (48, 0, 0, 0, []) L st h := run_s rfl
theorem r_X9_placeIn_29 : run E g mi_X9_placeIn d lm RT F pm_X9_placeIn (n + 1) 29 L st h = exI E d lm RT F (run E g mi_X9_placeIn d lm RT F pm_X9_placeIn n) (7, ((3 : Nat) : Int), 1, 32, []) L st h := run_s rfl
theorem r_X9_placeIn_32 : run E g mi_X9_placeIn d lm RT F pm_X9_placeIn (n + 1) 32 L st h = exI E d lm RT F (run E g mi_X9_placeIn d lm RT F pm_X9_placeIn n) (33, ((2 : Nat) : Int), 0, 0, []) L st h := run_s rfl
theorem r_X9_placeIn_35 : run E g mi_X9_placeIn d lm RT F pm_X9_placeIn (n + 1) 35 L st h = exI E d lm RT F (run E g mi_X9_placeIn d lm RT F pm_X9_placeIn n) (0, (-9), 0, 37, []) L st h := run_s rfl
theorem r_X9_placeIn_37 : run E g mi_X9_placeIn d lm RT F pm_X9_placeIn (n + 1) 37 L st h = exI E d lm RT F (run E g mi_X9_placeIn d lm RT F pm_X9_placeIn n) (48, 0, 0, 0, []) L st h := run_s rfl
theorem e_X9_placeIn (n : Nat) {pc : Nat} (hF : FOk E d F) (hx : run E g mi_X9_placeIn d lm RT F pm_X9_placeIn n pc L st h) : G E g mi_X9_placeIn d lm RT pc L st h := run_sound hF pk_X9_placeIn n pc L st h hx
end
def mi_X9_weight : MI := (9, cX9_weight, 5, 0, false)
theorem mo_X9_weight : miOk mi_X9_weight (mt 122) = true := by decide +kernel
def tl_X9_weight : List (Nat × PT) := [(0, (2, ((0 : Nat) : Int), 0, 1, [])),
  (1, (35, ((9 : Nat) : Int), ((5 : Nat) : Int), 4, [])),
  (4, (1, ((2 : Nat) : Int), 0, 5, [])),
  (5, (2, ((0 : Nat) : Int), 0, 6, [])),
  (6, (35, ((9 : Nat) : Int), ((20 : Nat) : Int), 9, [])),
  (9, (1, ((1 : Nat) : Int), 0, 10, [])),
  (10, (38, 0, 0, 11, [])),
  (11, (45, ((94 : Nat) : Int), ((2 : Nat) : Int), 14, [])),
  (14, (1, ((3 : Nat) : Int), 0, 15, [])),
  (15, (8, 0, 0, 16, [])),
  (16, (38, 0, 0, 17, [])),
  (17, (4, ((4 : Nat) : Int), 0, 19, [])),
  (19, (2, ((0 : Nat) : Int), 0, 20, [])),
  (20, (35, ((9 : Nat) : Int), ((18 : Nat) : Int), 23, [])),
  (23, (1, ((1 : Nat) : Int), 0, 24, [])),
  (24, (38, 0, 0, 25, [])),
  (25, (0, 1, 0, 26, [])),
  (26, (32, 2, ((53 : Nat) : Int), 29, [])),
  (29, (1, ((4 : Nat) : Int), 0, 31, [])),
  (31, (0, 1, 0, 32, [])),
  (32, (2, ((0 : Nat) : Int), 0, 33, [])),
  (33, (2, ((0 : Nat) : Int), 0, 34, [])),
  (34, (35, ((9 : Nat) : Int), ((4 : Nat) : Int), 37, [])),
  (37, (0, 8, 0, 39, [])),
  (39, (1, ((2 : Nat) : Int), 0, 40, [])),
  (40, (10, 0, 0, 41, [])),
  (41, (1, ((3 : Nat) : Int), 0, 42, [])),
  (42, (8, 0, 0, 43, [])),
  (43, (38, 0, 0, 44, [])),
  (44, (0, 0, 0, 45, [])),
  (45, (51, ((103 : Nat) : Int), ((3 : Nat) : Int), 48, [9])),
  (48, (8, 0, 0, 49, [])),
  (49, (11, 0, 0, 50, [])),
  (50, (33, ((55 : Nat) : Int), 0, 0, [])),
  (53, (1, ((4 : Nat) : Int), 0, 55, [])),
  (55, (48, 0, 0, 0, []))]
theorem tk_X9_weight : tOk mi_X9_weight tl_X9_weight = true := by decide +kernel
def pm_X9_weight (pc : Nat) : Option PT := if [].contains pc then none else tl_X9_weight.lookup pc
theorem pk_X9_weight : ∀ pc pt, pm_X9_weight pc = some pt → okPt mi_X9_weight pc pt := fun pc pt h => tOk_pm tk_X9_weight h
section
variable {E : ET} {g : GT} {d : Nat} {lm : Nat × Nat} {RT : RTy} {F : FT} {n : Nat} {L : LV} {st : List AV} {h : AH}
theorem r_X9_weight_0 : run E g mi_X9_weight d lm RT F pm_X9_weight (n + 1) 0 L st h = exI E d lm RT F (run E g mi_X9_weight d lm RT F pm_X9_weight n) (2, ((0 : Nat) : Int), 0, 1, []) L st h := run_s rfl
theorem r_X9_weight_1 : run E g mi_X9_weight d lm RT F pm_X9_weight (n + 1) 1 L st h = exI E d lm RT F (run E g mi_X9_weight d lm RT F pm_X9_weight n) (35, ((9 : Nat) : Int), ((5 : Nat) : Int), 4, []) L st h := run_s rfl
theorem r_X9_weight_4 : run E g mi_X9_weight d lm RT F pm_X9_weight (n + 1) 4 L st h = exI E d lm RT F (run E g mi_X9_weight d lm RT F pm_X9_weight n) (1, ((2 : Nat) : Int), 0, 5, []) L st h := run_s rfl
theorem r_X9_weight_5 : run E g mi_X9_weight d lm RT F pm_X9_weight (n + 1) 5 L st h = exI E d lm RT F (run E g mi_X9_weight d lm RT F pm_X9_weight n) (2, ((0 : Nat) : Int), 0, 6, []) L st h := run_s rfl
theorem r_X9_weight_6 : run E g mi_X9_weight d lm RT F pm_X9_weight (n + 1) 6 L st h = exI E d lm RT F (run E g mi_X9_weight d lm RT F pm_X9_weight n) (35, ((9 : Nat) : Int), ((20 : Nat) : Int), 9, []) L st h := run_s rfl
theorem r_X9_weight_9 : run E g mi_X9_weight d lm RT F pm_X9_weight (n + 1) 9 L st h = exI E d lm RT F (run E g mi_X9_weight d lm RT F pm_X9_weight n) (1, ((1 : Nat) : Int), 0, 10, []) L st h := run_s rfl
theorem r_X9_weight_10 : run E g mi_X9_weight d lm RT F pm_X9_weight (n + 1) 10 L st h = exI E d lm RT F (run E g mi_X9_weight d lm RT F pm_X9_weight n) (38, 0, 0, 11, []) L st h := run_s rfl
theorem r_X9_weight_11 : run E g mi_X9_weight d lm RT F pm_X9_weight (n + 1) 11 L st h = exI E d lm RT F (run E g mi_X9_weight d lm RT F pm_X9_weight n) (45, ((94 : Nat) : Int), ((2 : Nat) : Int), 14, []) L st h := run_s rfl
theorem r_X9_weight_14 : run E g mi_X9_weight d lm RT F pm_X9_weight (n + 1) 14 L st h = exI E d lm RT F (run E g mi_X9_weight d lm RT F pm_X9_weight n) (1, ((3 : Nat) : Int), 0, 15, []) L st h := run_s rfl
theorem r_X9_weight_15 : run E g mi_X9_weight d lm RT F pm_X9_weight (n + 1) 15 L st h = exI E d lm RT F (run E g mi_X9_weight d lm RT F pm_X9_weight n) (8, 0, 0, 16, []) L st h := run_s rfl
theorem r_X9_weight_16 : run E g mi_X9_weight d lm RT F pm_X9_weight (n + 1) 16 L st h = exI E d lm RT F (run E g mi_X9_weight d lm RT F pm_X9_weight n) (38, 0, 0, 17, []) L st h := run_s rfl
theorem r_X9_weight_17 : run E g mi_X9_weight d lm RT F pm_X9_weight (n + 1) 17 L st h = exI E d lm RT F (run E g mi_X9_weight d lm RT F pm_X9_weight n) (4, ((4 : Nat) : Int), 0, 19, []) L st h := run_s rfl
theorem r_X9_weight_19 : run E g mi_X9_weight d lm RT F pm_X9_weight (n + 1) 19 L st h = exI E d lm RT F (run E g mi_X9_weight d lm RT F pm_X9_weight n) (2, ((0 : Nat) : Int), 0, 20, []) L st h := run_s rfl
theorem r_X9_weight_20 : run E g mi_X9_weight d lm RT F pm_X9_weight (n + 1) 20 L st h = exI E d lm RT F (run E g mi_X9_weight d lm RT F pm_X9_weight n) (35, ((9 : Nat) : Int), ((18 : Nat) : Int), 23, []) L st h := run_s rfl
theorem r_X9_weight_23 : run E g mi_X9_weight d lm RT F pm_X9_weight (n + 1) 23 L st h = exI E d lm RT F (run E g mi_X9_weight d lm RT F pm_X9_weight n) (1, ((1 : Nat) : Int), 0, 24, []) L st h := run_s rfl
theorem r_X9_weight_24 : run E g mi_X9_weight d lm RT F pm_X9_weight (n + 1) 24 L st h = exI E d lm RT F (run E g mi_X9_weight d lm RT F pm_X9_weight n) (38, 0, 0, 25, []) L st h := run_s rfl
theorem r_X9_weight_25 : run E g mi_X9_weight d lm RT F pm_X9_weight (n + 1) 25 L st h = exI E d lm RT F (run E g mi_X9_weight d lm RT F pm_X9_weight n) (0, 1, 0, 26, []) L st h := run_s rfl
theorem r_X9_weight_26 : run E g mi_X9_weight d lm RT F pm_X9_weight (n + 1) 26 L st h = exI E d lm RT F (run E g mi_X9_weight d lm RT F pm_X9_weight n) (32, 2, ((53 : Nat) : Int), 29, []) L st h := run_s rfl
theorem r_X9_weight_29 : run E g mi_X9_weight d lm RT F pm_X9_weight (n + 1) 29 L st h = exI E d lm RT F (run E g mi_X9_weight d lm RT F pm_X9_weight n) (1, ((4 : Nat) : Int), 0, 31, []) L st h := run_s rfl
theorem r_X9_weight_31 : run E g mi_X9_weight d lm RT F pm_X9_weight (n + 1) 31 L st h = exI E d lm RT F (run E g mi_X9_weight d lm RT F pm_X9_weight n) (0, 1, 0, 32, []) L st h := run_s rfl
theorem r_X9_weight_32 : run E g mi_X9_weight d lm RT F pm_X9_weight (n + 1) 32 L st h = exI E d lm RT F (run E g mi_X9_weight d lm RT F pm_X9_weight n) (2, ((0 : Nat) : Int), 0, 33, []) L st h := run_s rfl
theorem r_X9_weight_33 : run E g mi_X9_weight d lm RT F pm_X9_weight (n + 1) 33 L st h = exI E d lm RT F (run E g mi_X9_weight d lm RT F pm_X9_weight n) (2, ((0 : Nat) : Int), 0, 34, []) L st h := run_s rfl
theorem r_X9_weight_34 : run E g mi_X9_weight d lm RT F pm_X9_weight (n + 1) 34 L st h = exI E d lm RT F (run E g mi_X9_weight d lm RT F pm_X9_weight n) (35, ((9 : Nat) : Int), ((4 : Nat) : Int), 37, []) L st h := run_s rfl
theorem r_X9_weight_37 : run E g mi_X9_weight d lm RT F pm_X9_weight (n + 1) 37 L st h = exI E d lm RT F (run E g mi_X9_weight d lm RT F pm_X9_weight n) (0, 8, 0, 39, []) L st h := run_s rfl
theorem r_X9_weight_39 : run E g mi_X9_weight d lm RT F pm_X9_weight (n + 1) 39 L st h = exI E d lm RT F (run E g mi_X9_weight d lm RT F pm_X9_weight n) (1, ((2 : Nat) : Int), 0, 40, []) L st h := run_s rfl
theorem r_X9_weight_40 : run E g mi_X9_weight d lm RT F pm_X9_weight (n + 1) 40 L st h = exI E d lm RT F (run E g mi_X9_weight d lm RT F pm_X9_weight n) (10, 0, 0, 41, []) L st h := run_s rfl
theorem r_X9_weight_41 : run E g mi_X9_weight d lm RT F pm_X9_weight (n + 1) 41 L st h = exI E d lm RT F (run E g mi_X9_weight d lm RT F pm_X9_weight n) (1, ((3 : Nat) : Int), 0, 42, []) L st h := run_s rfl
theorem r_X9_weight_42 : run E g mi_X9_weight d lm RT F pm_X9_weight (n + 1) 42 L st h = exI E d lm RT F (run E g mi_X9_weight d lm RT F pm_X9_weight n) (8, 0, 0, 43, []) L st h := run_s rfl
theorem r_X9_weight_43 : run E g mi_X9_weight d lm RT F pm_X9_weight (n + 1) 43 L st h = exI E d lm RT F (run E g mi_X9_weight d lm RT F pm_X9_weight n) (38, 0, 0, 44, []) L st h := run_s rfl
theorem r_X9_weight_44 : run E g mi_X9_weight d lm RT F pm_X9_weight (n + 1) 44 L st h = exI E d lm RT F (run E g mi_X9_weight d lm RT F pm_X9_weight n) (0, 0, 0, 45, []) L st h := run_s rfl
theorem r_X9_weight_45 : run E g mi_X9_weight d lm RT F pm_X9_weight (n + 1) 45 L st h = exI E d lm RT F (run E g mi_X9_weight d lm RT F pm_X9_weight n) (51, ((103 : Nat) : Int), ((3 : Nat) : Int), 48, [9]) L st h := run_s rfl
theorem r_X9_weight_48 : run E g mi_X9_weight d lm RT F pm_X9_weight (n + 1) 48 L st h = exI E d lm RT F (run E g mi_X9_weight d lm RT F pm_X9_weight n) (8, 0, 0, 49, []) L st h := run_s rfl
theorem r_X9_weight_49 : run E g mi_X9_weight d lm RT F pm_X9_weight (n + 1) 49 L st h = exI E d lm RT F (run E g mi_X9_weight d lm RT F pm_X9_weight n) (11, 0, 0, 50, []) L st h := run_s rfl
theorem r_X9_weight_50 : run E g mi_X9_weight d lm RT F pm_X9_weight (n + 1) 50 L st h = exI E d lm RT F (run E g mi_X9_weight d lm RT F pm_X9_weight n) (33, ((55 : Nat) : Int), 0, 0, []) L st h := run_s rfl
theorem r_X9_weight_53 : run E g mi_X9_weight d lm RT F pm_X9_weight (n + 1) 53 L st h = exI E d lm RT F (run E g mi_X9_weight d lm RT F pm_X9_weight n) (1, ((4 : Nat) : Int), 0, 55, []) L st h := run_s rfl
theorem r_X9_weight_55 : run E g mi_X9_weight d lm RT F pm_X9_weight (n + 1) 55 L st h = exI E d lm RT F (run E g mi_X9_weight d lm RT F pm_X9_weight n) (48, 0, 0, 0, []) L st h := run_s rfl
theorem e_X9_weight (n : Nat) {pc : Nat} (hF : FOk E d F) (hx : run E g mi_X9_weight d lm RT F pm_X9_weight n pc L st h) : G E g mi_X9_weight d lm RT pc L st h := run_sound hF pk_X9_weight n pc L st h hx
end
def mi_X9_mayPick : MI := (9, cX9_mayPick, 5, 1, false)
theorem mo_X9_mayPick : miOk mi_X9_mayPick (mt 123) = true := by decide +kernel
def tl_X9_mayPick : List (Nat × PT) := [(0, (2, ((0 : Nat) : Int), 0, 1, [])),
  (1, (1, ((2 : Nat) : Int), 0, 2, [])),
  (2, (1, ((3 : Nat) : Int), 0, 3, [])),
  (3, (52, ((92 : Nat) : Int), ((3 : Nat) : Int), 6, [9])),
  (6, (31, 0, ((29 : Nat) : Int), 9, [])),
  (9, (1, ((4 : Nat) : Int), 0, 11, [])),
  (11, (31, 0, ((25 : Nat) : Int), 14, [])),
  (14, (2, ((0 : Nat) : Int), 0, 15, [])),
  (15, (1, ((1 : Nat) : Int), 0, 16, [])),
  (16, (1, ((3 : Nat) : Int), 0, 17, [])),
  (17, (51, ((121 : Nat) : Int), ((3 : Nat) : Int), 20, [9])),
  (20, (0, (-9), 0, 22, [])),
  (22, (32, 1, ((29 : Nat) : Int), 25, [])),
  (25, (0, 1, 0, 26, [])),
  (26, (33, ((30 : Nat) : Int), 0, 0, [])),
  (29, (0, 0, 0, 30, [])),
  (30, (48, 1, 0, 0, []))]
theorem tk_X9_mayPick : tOk mi_X9_mayPick tl_X9_mayPick = true := by decide +kernel
def pm_X9_mayPick (pc : Nat) : Option PT := if [].contains pc then none else tl_X9_mayPick.lookup pc
theorem pk_X9_mayPick : ∀ pc pt, pm_X9_mayPick pc = some pt → okPt mi_X9_mayPick pc pt := fun pc pt h => tOk_pm tk_X9_mayPick h
section
variable {E : ET} {g : GT} {d : Nat} {lm : Nat × Nat} {RT : RTy} {F : FT} {n : Nat} {L : LV} {st : List AV} {h : AH}
theorem r_X9_mayPick_0 : run E g mi_X9_mayPick d lm RT F pm_X9_mayPick (n + 1) 0 L st h = exI E d lm RT F (run E g mi_X9_mayPick d lm RT F pm_X9_mayPick n) (2, ((0 : Nat) : Int), 0, 1, []) L st h := run_s rfl
theorem r_X9_mayPick_1 : run E g mi_X9_mayPick d lm RT F pm_X9_mayPick (n + 1) 1 L st h = exI E d lm RT F (run E g mi_X9_mayPick d lm RT F pm_X9_mayPick n) (1, ((2 : Nat) : Int), 0, 2, []) L st h := run_s rfl
theorem r_X9_mayPick_2 : run E g mi_X9_mayPick d lm RT F pm_X9_mayPick (n + 1) 2 L st h = exI E d lm RT F (run E g mi_X9_mayPick d lm RT F pm_X9_mayPick n) (1, ((3 : Nat) : Int), 0, 3, []) L st h := run_s rfl
theorem r_X9_mayPick_3 : run E g mi_X9_mayPick d lm RT F pm_X9_mayPick (n + 1) 3 L st h = exI E d lm RT F (run E g mi_X9_mayPick d lm RT F pm_X9_mayPick n) (52, ((92 : Nat) : Int), ((3 : Nat) : Int), 6, [9]) L st h := run_s rfl
theorem r_X9_mayPick_6 : run E g mi_X9_mayPick d lm RT F pm_X9_mayPick (n + 1) 6 L st h = exI E d lm RT F (run E g mi_X9_mayPick d lm RT F pm_X9_mayPick n) (31, 0, ((29 : Nat) : Int), 9, []) L st h := run_s rfl
theorem r_X9_mayPick_9 : run E g mi_X9_mayPick d lm RT F pm_X9_mayPick (n + 1) 9 L st h = exI E d lm RT F (run E g mi_X9_mayPick d lm RT F pm_X9_mayPick n) (1, ((4 : Nat) : Int), 0, 11, []) L st h := run_s rfl
theorem r_X9_mayPick_11 : run E g mi_X9_mayPick d lm RT F pm_X9_mayPick (n + 1) 11 L st h = exI E d lm RT F (run E g mi_X9_mayPick d lm RT F pm_X9_mayPick n) (31, 0, ((25 : Nat) : Int), 14, []) L st h := run_s rfl
theorem r_X9_mayPick_14 : run E g mi_X9_mayPick d lm RT F pm_X9_mayPick (n + 1) 14 L st h = exI E d lm RT F (run E g mi_X9_mayPick d lm RT F pm_X9_mayPick n) (2, ((0 : Nat) : Int), 0, 15, []) L st h := run_s rfl
theorem r_X9_mayPick_15 : run E g mi_X9_mayPick d lm RT F pm_X9_mayPick (n + 1) 15 L st h = exI E d lm RT F (run E g mi_X9_mayPick d lm RT F pm_X9_mayPick n) (1, ((1 : Nat) : Int), 0, 16, []) L st h := run_s rfl
theorem r_X9_mayPick_16 : run E g mi_X9_mayPick d lm RT F pm_X9_mayPick (n + 1) 16 L st h = exI E d lm RT F (run E g mi_X9_mayPick d lm RT F pm_X9_mayPick n) (1, ((3 : Nat) : Int), 0, 17, []) L st h := run_s rfl
theorem r_X9_mayPick_17 : run E g mi_X9_mayPick d lm RT F pm_X9_mayPick (n + 1) 17 L st h = exI E d lm RT F (run E g mi_X9_mayPick d lm RT F pm_X9_mayPick n) (51, ((121 : Nat) : Int), ((3 : Nat) : Int), 20, [9]) L st h := run_s rfl
theorem r_X9_mayPick_20 : run E g mi_X9_mayPick d lm RT F pm_X9_mayPick (n + 1) 20 L st h = exI E d lm RT F (run E g mi_X9_mayPick d lm RT F pm_X9_mayPick n) (0, (-9), 0, 22, []) L st h := run_s rfl
theorem r_X9_mayPick_22 : run E g mi_X9_mayPick d lm RT F pm_X9_mayPick (n + 1) 22 L st h = exI E d lm RT F (run E g mi_X9_mayPick d lm RT F pm_X9_mayPick n) (32, 1, ((29 : Nat) : Int), 25, []) L st h := run_s rfl
theorem r_X9_mayPick_25 : run E g mi_X9_mayPick d lm RT F pm_X9_mayPick (n + 1) 25 L st h = exI E d lm RT F (run E g mi_X9_mayPick d lm RT F pm_X9_mayPick n) (0, 1, 0, 26, []) L st h := run_s rfl
theorem r_X9_mayPick_26 : run E g mi_X9_mayPick d lm RT F pm_X9_mayPick (n + 1) 26 L st h = exI E d lm RT F (run E g mi_X9_mayPick d lm RT F pm_X9_mayPick n) (33, ((30 : Nat) : Int), 0, 0, []) L st h := run_s rfl
theorem r_X9_mayPick_29 : run E g mi_X9_mayPick d lm RT F pm_X9_mayPick (n + 1) 29 L st h = exI E d lm RT F (run E g mi_X9_mayPick d lm RT F pm_X9_mayPick n) (0, 0, 0, 30, []) L st h := run_s rfl
theorem r_X9_mayPick_30 : run E g mi_X9_mayPick d lm RT F pm_X9_mayPick (n + 1) 30 L st h = exI E d lm RT F (run E g mi_X9_mayPick d lm RT F pm_X9_mayPick n) (48, 1, 0, 0, []) L st h := run_s rfl
theorem e_X9_mayPick (n : Nat) {pc : Nat} (hF : FOk E d F) (hx : run E g mi_X9_mayPick d lm RT F pm_X9_mayPick n pc L st h) : G E g mi_X9_mayPick d lm RT pc L st h := run_sound hF pk_X9_mayPick n pc L st h hx
end
