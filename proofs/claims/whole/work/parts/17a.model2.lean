def mi_X9_pick : MI := (9, cX9_pick, 8, 0, false)
theorem mo_X9_pick : miOk mi_X9_pick (mt 124) = true := by decide +kernel
def tl_X9_pick : List (Nat × PT) := [(0, (0, 0, 0, 1, [])),
  (1, (4, ((3 : Nat) : Int), 0, 2, [])),
  (2, (0, (-9), 0, 4, [])),
  (4, (4, ((4 : Nat) : Int), 0, 6, [])),
  (6, (0, 0, 0, 7, [])),
  (7, (4, ((5 : Nat) : Int), 0, 9, [])),
  (9, (1, ((5 : Nat) : Int), 0, 11, [])),
  (11, (0, 8, 0, 13, [])),
  (13, (32, 3, ((54 : Nat) : Int), 16, [])),
  (16, (1, ((3 : Nat) : Int), 0, 17, [])),
  (17, (31, 1, ((42 : Nat) : Int), 20, [])),
  (20, (2, ((0 : Nat) : Int), 0, 21, [])),
  (21, (1, ((2 : Nat) : Int), 0, 22, [])),
  (22, (1, ((5 : Nat) : Int), 0, 24, [])),
  (24, (52, ((92 : Nat) : Int), ((3 : Nat) : Int), 27, [9])),
  (27, (31, 0, ((46 : Nat) : Int), 30, [])),
  (30, (2, ((0 : Nat) : Int), 0, 31, [])),
  (31, (1, ((1 : Nat) : Int), 0, 32, [])),
  (32, (1, ((5 : Nat) : Int), 0, 34, [])),
  (34, (51, ((121 : Nat) : Int), ((3 : Nat) : Int), 37, [9])),
  (37, (0, (-9), 0, 39, [])),
  (39, (32, 1, ((46 : Nat) : Int), 42, [])),
  (42, (0, 1, 0, 43, [])),
  (43, (33, ((47 : Nat) : Int), 0, 0, [])),
  (46, (0, 0, 0, 47, [])),
  (47, (4, ((3 : Nat) : Int), 0, 48, [])),
  (48, (7, ((5 : Nat) : Int), 1, 51, [])),
  (51, (33, ((9 : Nat) : Int), 0, 0, [])),
  (54, (0, 0, 0, 55, [])),
  (55, (4, ((5 : Nat) : Int), 0, 57, [])),
  (57, (0, 0, 0, 58, [])),
  (58, (4, ((6 : Nat) : Int), 0, 60, [])),
  (60, (1, ((6 : Nat) : Int), 0, 62, [])),
  (62, (0, 8, 0, 64, [])),
  (64, (32, 3, ((114 : Nat) : Int), 67, [])),
  (67, (2, ((0 : Nat) : Int), 0, 68, [])),
  (68, (1, ((1 : Nat) : Int), 0, 69, [])),
  (69, (1, ((2 : Nat) : Int), 0, 70, [])),
  (70, (1, ((6 : Nat) : Int), 0, 72, [])),
  (72, (1, ((3 : Nat) : Int), 0, 73, [])),
  (73, (51, ((123 : Nat) : Int), ((5 : Nat) : Int), 76, [9])),
  (76, (31, 0, ((108 : Nat) : Int), 79, [])),
  (79, (1, ((5 : Nat) : Int), 0, 81, [])),
  (81, (2, ((0 : Nat) : Int), 0, 82, [])),
  (82, (1, ((1 : Nat) : Int), 0, 83, [])),
  (83, (1, ((2 : Nat) : Int), 0, 84, [])),
  (84, (1, ((6 : Nat) : Int), 0, 86, [])),
  (86, (51, ((122 : Nat) : Int), ((4 : Nat) : Int), 89, [9])),
  (89, (8, 0, 0, 90, [])),
  (90, (4, ((5 : Nat) : Int), 0, 92, [])),
  (92, (1, ((4 : Nat) : Int), 0, 94, [])),
  (94, (0, (-9), 0, 96, [])),
  (96, (32, 1, ((104 : Nat) : Int), 99, [])),
  (99, (1, ((6 : Nat) : Int), 0, 101, [])),
  (101, (33, ((106 : Nat) : Int), 0, 0, [])),
  (104, (1, ((4 : Nat) : Int), 0, 106, [])),
  (106, (4, ((4 : Nat) : Int), 0, 108, [])),
  (108, (7, ((6 : Nat) : Int), 1, 111, [])),
  (111, (33, ((60 : Nat) : Int), 0, 0, [])),
  (114, (1, ((5 : Nat) : Int), 0, 116, [])),
  (116, (31, 1, ((122 : Nat) : Int), 119, [])),
  (119, (1, ((4 : Nat) : Int), 0, 121, [])),
  (121, (48, 0, 0, 0, [])),
  (122, (2, ((0 : Nat) : Int), 0, 123, [])),
  (123, (1, ((5 : Nat) : Int), 0, 125, [])),
  (125, (51, ((119 : Nat) : Int), ((2 : Nat) : Int), 128, [9])),
  (128, (4, ((6 : Nat) : Int), 0, 130, [])),
  (130, (0, 0, 0, 131, [])),
  (131, (4, ((7 : Nat) : Int), 0, 133, [])),
  (133, (1, ((7 : Nat) : Int), 0, 135, [])),
  (135, (0, 8, 0, 137, [])),
  (137, (32, 3, ((179 : Nat) : Int), 140, [])),
  (140, (2, ((0 : Nat) : Int), 0, 141, [])),
  (141, (1, ((1 : Nat) : Int), 0, 142, [])),
  (142, (1, ((2 : Nat) : Int), 0, 143, [])),
  (143, (1, ((7 : Nat) : Int), 0, 145, [])),
  (145, (1, ((3 : Nat) : Int), 0, 146, [])),
  (146, (51, ((123 : Nat) : Int), ((5 : Nat) : Int), 149, [9])),
  (149, (31, 0, ((173 : Nat) : Int), 152, [])),
  (152, (1, ((6 : Nat) : Int), 0, 154, [])),
  (154, (2, ((0 : Nat) : Int), 0, 155, [])),
  (155, (1, ((1 : Nat) : Int), 0, 156, [])),
  (156, (1, ((2 : Nat) : Int), 0, 157, [])),
  (157, (1, ((7 : Nat) : Int), 0, 159, [])),
  (159, (51, ((122 : Nat) : Int), ((4 : Nat) : Int), 162, [9])),
  (162, (9, 0, 0, 163, [])),
  (163, (4, ((6 : Nat) : Int), 0, 165, [])),
  (165, (1, ((6 : Nat) : Int), 0, 167, [])),
  (167, (31, 3, ((173 : Nat) : Int), 170, [])),
  (170, (1, ((7 : Nat) : Int), 0, 172, [])),
  (172, (48, 0, 0, 0, [])),
  (173, (7, ((7 : Nat) : Int), 1, 176, [])),
  (176, (33, ((133 : Nat) : Int), 0, 0, [])),
  (179, (0, (-9), 0, 181, [])),
  (181, (48, 0, 0, 0, []))]
theorem tk_X9_pick_0 : tOk mi_X9_pick ((tl_X9_pick.drop 0).take 45) = true := by decide +kernel
theorem tk_X9_pick_1 : tOk mi_X9_pick ((tl_X9_pick.drop 45).take 45) = true := by decide +kernel
theorem tk_X9_pick_2 : tOk mi_X9_pick ((tl_X9_pick.drop 90).take 45) = true := by decide +kernel
theorem tk_X9_pick : tOk mi_X9_pick tl_X9_pick = true := by
  refine tOk_cut 45 (by decide) (fun q hq => ?_)
  have hl : tl_X9_pick.length = 95 := by decide +kernel
  rw [hl] at hq
  rcases (show q = 0 ∨ q = 1 ∨ q = 2 by omega) with rfl | rfl | rfl
  · exact tk_X9_pick_0
  · exact tk_X9_pick_1
  · exact tk_X9_pick_2
def pm_X9_pick (pc : Nat) : Option PT := if [9, 60, 133].contains pc then none else tl_X9_pick.lookup pc
theorem pk_X9_pick : ∀ pc pt, pm_X9_pick pc = some pt → okPt mi_X9_pick pc pt := fun pc pt h => tOk_pm tk_X9_pick h
section
variable {E : ET} {g : GT} {d : Nat} {lm : Nat × Nat} {RT : RTy} {F : FT} {n : Nat} {L : LV} {st : List AV} {h : AH}
theorem r_X9_pick_0 : run E g mi_X9_pick d lm RT F pm_X9_pick (n + 1) 0 L st h = exI E d lm RT F (run E g mi_X9_pick d lm RT F pm_X9_pick n) (0, 0, 0, 1, []) L st h := run_s rfl
theorem r_X9_pick_1 : run E g mi_X9_pick d lm RT F pm_X9_pick (n + 1) 1 L st h = exI E d lm RT F (run E g mi_X9_pick d lm RT F pm_X9_pick n) (4, ((3 : Nat) : Int), 0, 2, []) L st h := run_s rfl
theorem r_X9_pick_2 : run E g mi_X9_pick d lm RT F pm_X9_pick (n + 1) 2 L st h = exI E d lm RT F (run E g mi_X9_pick d lm RT F pm_X9_pick n) (0, (-9), 0, 4, []) L st h := run_s rfl
theorem r_X9_pick_4 : run E g mi_X9_pick d lm RT F pm_X9_pick (n + 1) 4 L st h = exI E d lm RT F (run E g mi_X9_pick d lm RT F pm_X9_pick n) (4, ((4 : Nat) : Int), 0, 6, []) L st h := run_s rfl
theorem r_X9_pick_6 : run E g mi_X9_pick d lm RT F pm_X9_pick (n + 1) 6 L st h = exI E d lm RT F (run E g mi_X9_pick d lm RT F pm_X9_pick n) (0, 0, 0, 7, []) L st h := run_s rfl
theorem r_X9_pick_7 : run E g mi_X9_pick d lm RT F pm_X9_pick (n + 1) 7 L st h = exI E d lm RT F (run E g mi_X9_pick d lm RT F pm_X9_pick n) (4, ((5 : Nat) : Int), 0, 9, []) L st h := run_s rfl
theorem r_X9_pick_9 : run E g mi_X9_pick d lm RT F pm_X9_pick (n + 1) 9 L st h = G E g mi_X9_pick d lm RT 9 L st h := run_c rfl
theorem q_X9_pick_9 (n : Nat) (hF : FOk E d F) (hx : exI E d lm RT F (run E g mi_X9_pick d lm RT F pm_X9_pick n) (1, ((5 : Nat) : Int), 0, 11, []) L st h) : G E g mi_X9_pick d lm RT 9 L st h := sstep hF (tOk_spec tk_X9_pick (by decide +kernel)) (run_sound hF pk_X9_pick n) hx
theorem r_X9_pick_11 : run E g mi_X9_pick d lm RT F pm_X9_pick (n + 1) 11 L st h = exI E d lm RT F (run E g mi_X9_pick d lm RT F pm_X9_pick n) (0, 8, 0, 13, []) L st h := run_s rfl
theorem r_X9_pick_13 : run E g mi_X9_pick d lm RT F pm_X9_pick (n + 1) 13 L st h = exI E d lm RT F (run E g mi_X9_pick d lm RT F pm_X9_pick n) (32, 3, ((54 : Nat) : Int), 16, []) L st h := run_s rfl
theorem r_X9_pick_16 : run E g mi_X9_pick d lm RT F pm_X9_pick (n + 1) 16 L st h = exI E d lm RT F (run E g mi_X9_pick d lm RT F pm_X9_pick n) (1, ((3 : Nat) : Int), 0, 17, []) L st h := run_s rfl
theorem r_X9_pick_17 : run E g mi_X9_pick d lm RT F pm_X9_pick (n + 1) 17 L st h = exI E d lm RT F (run E g mi_X9_pick d lm RT F pm_X9_pick n) (31, 1, ((42 : Nat) : Int), 20, []) L st h := run_s rfl
theorem r_X9_pick_20 : run E g mi_X9_pick d lm RT F pm_X9_pick (n + 1) 20 L st h = exI E d lm RT F (run E g mi_X9_pick d lm RT F pm_X9_pick n) (2, ((0 : Nat) : Int), 0, 21, []) L st h := run_s rfl
theorem r_X9_pick_21 : run E g mi_X9_pick d lm RT F pm_X9_pick (n + 1) 21 L st h = exI E d lm RT F (run E g mi_X9_pick d lm RT F pm_X9_pick n) (1, ((2 : Nat) : Int), 0, 22, []) L st h := run_s rfl
theorem r_X9_pick_22 : run E g mi_X9_pick d lm RT F pm_X9_pick (n + 1) 22 L st h = exI E d lm RT F (run E g mi_X9_pick d lm RT F pm_X9_pick n) (1, ((5 : Nat) : Int), 0, 24, []) L st h := run_s rfl
theorem r_X9_pick_24 : run E g mi_X9_pick d lm RT F pm_X9_pick (n + 1) 24 L st h = exI E d lm RT F (run E g mi_X9_pick d lm RT F pm_X9_pick n) (52, ((92 : Nat) : Int), ((3 : Nat) : Int), 27, [9]) L st h := run_s rfl
theorem r_X9_pick_27 : run E g mi_X9_pick d lm RT F pm_X9_pick (n + 1) 27 L st h = exI E d lm RT F (run E g mi_X9_pick d lm RT F pm_X9_pick n) (31, 0, ((46 : Nat) : Int), 30, []) L st h := run_s rfl
theorem r_X9_pick_30 : run E g mi_X9_pick d lm RT F pm_X9_pick (n + 1) 30 L st h = exI E d lm RT F (run E g mi_X9_pick d lm RT F pm_X9_pick n) (2, ((0 : Nat) : Int), 0, 31, []) L st h := run_s rfl
theorem r_X9_pick_31 : run E g mi_X9_pick d lm RT F pm_X9_pick (n + 1) 31 L st h = exI E d lm RT F (run E g mi_X9_pick d lm RT F pm_X9_pick n) (1, ((1 : Nat) : Int), 0, 32, []) L st h := run_s rfl
theorem r_X9_pick_32 : run E g mi_X9_pick d lm RT F pm_X9_pick (n + 1) 32 L st h = exI E d lm RT F (run E g mi_X9_pick d lm RT F pm_X9_pick n) (1, ((5 : Nat) : Int), 0, 34, []) L st h := run_s rfl
theorem r_X9_pick_34 : run E g mi_X9_pick d lm RT F pm_X9_pick (n + 1) 34 L st h = exI E d lm RT F (run E g mi_X9_pick d lm RT F pm_X9_pick n) (51, ((121 : Nat) : Int), ((3 : Nat) : Int), 37, [9]) L st h := run_s rfl
theorem r_X9_pick_37 : run E g mi_X9_pick d lm RT F pm_X9_pick (n + 1) 37 L st h = exI E d lm RT F (run E g mi_X9_pick d lm RT F pm_X9_pick n) (0, (-9), 0, 39, []) L st h := run_s rfl
theorem r_X9_pick_39 : run E g mi_X9_pick d lm RT F pm_X9_pick (n + 1) 39 L st h = exI E d lm RT F (run E g mi_X9_pick d lm RT F pm_X9_pick n) (32, 1, ((46 : Nat) : Int), 42, []) L st h := run_s rfl
theorem r_X9_pick_42 : run E g mi_X9_pick d lm RT F pm_X9_pick (n + 1) 42 L st h = exI E d lm RT F (run E g mi_X9_pick d lm RT F pm_X9_pick n) (0, 1, 0, 43, []) L st h := run_s rfl
theorem r_X9_pick_43 : run E g mi_X9_pick d lm RT F pm_X9_pick (n + 1) 43 L st h = exI E d lm RT F (run E g mi_X9_pick d lm RT F pm_X9_pick n) (33, ((47 : Nat) : Int), 0, 0, []) L st h := run_s rfl
theorem r_X9_pick_46 : run E g mi_X9_pick d lm RT F pm_X9_pick (n + 1) 46 L st h = exI E d lm RT F (run E g mi_X9_pick d lm RT F pm_X9_pick n) (0, 0, 0, 47, []) L st h := run_s rfl
theorem r_X9_pick_47 : run E g mi_X9_pick d lm RT F pm_X9_pick (n + 1) 47 L st h = exI E d lm RT F (run E g mi_X9_pick d lm RT F pm_X9_pick n) (4, ((3 : Nat) : Int), 0, 48, []) L st h := run_s rfl
theorem r_X9_pick_48 : run E g mi_X9_pick d lm RT F pm_X9_pick (n + 1) 48 L st h = exI E d lm RT F (run E g mi_X9_pick d lm RT F pm_X9_pick n) (7, ((5 : Nat) : Int), 1, 51, []) L st h := run_s rfl
theorem r_X9_pick_51 : run E g mi_X9_pick d lm RT F pm_X9_pick (n + 1) 51 L st h = exI E d lm RT F (run E g mi_X9_pick d lm RT F pm_X9_pick n) (33, ((9 : Nat) : Int), 0, 0, []) L st h := run_s rfl
theorem r_X9_pick_54 : run E g mi_X9_pick d lm RT F pm_X9_pick (n + 1) 54 L st h = exI E d lm RT F (run E g mi_X9_pick d lm RT F pm_X9_pick n) (0, 0, 0, 55, []) L st h := run_s rfl
theorem r_X9_pick_55 : run E g mi_X9_pick d lm RT F pm_X9_pick (n + 1) 55 L st h = exI E d lm RT F (run E g mi_X9_pick d lm RT F pm_X9_pick n) (4, ((5 : Nat) : Int), 0, 57, []) L st h := run_s rfl
theorem r_X9_pick_57 : run E g mi_X9_pick d lm RT F pm_X9_pick (n + 1) 57 L st h = exI E d lm RT F (run E g mi_X9_pick d lm RT F pm_X9_pick n) (0, 0, 0, 58, []) L st h := run_s rfl
theorem r_X9_pick_58 : run E g mi_X9_pick d lm RT F pm_X9_pick (n + 1) 58 L st h = exI E d lm RT F (run E g mi_X9_pick d lm RT F pm_X9_pick n) (4, ((6 : Nat) : Int), 0, 60, []) L st h := run_s rfl
theorem r_X9_pick_60 : run E g mi_X9_pick d lm RT F pm_X9_pick (n + 1) 60 L st h = G E g mi_X9_pick d lm RT 60 L st h := run_c rfl
theorem q_X9_pick_60 (n : Nat) (hF : FOk E d F) (hx : exI E d lm RT F (run E g mi_X9_pick d lm RT F pm_X9_pick n) (1, ((6 : Nat) : Int), 0, 62, []) L st h) : G E g mi_X9_pick d lm RT 60 L st h := sstep hF (tOk_spec tk_X9_pick (by decide +kernel)) (run_sound hF pk_X9_pick n) hx
theorem r_X9_pick_62 : run E g mi_X9_pick d lm RT F pm_X9_pick (n + 1) 62 L st h = exI E d lm RT F (run E g mi_X9_pick d lm RT F pm_X9_pick n) (0, 8, 0, 64, []) L st h := run_s rfl
theorem r_X9_pick_64 : run E g mi_X9_pick d lm RT F pm_X9_pick (n + 1) 64 L st h = exI E d lm RT F (run E g mi_X9_pick d lm RT F pm_X9_pick n) (32, 3, ((114 : Nat) : Int), 67, []) L st h := run_s rfl
theorem r_X9_pick_67 : run E g mi_X9_pick d lm RT F pm_X9_pick (n + 1) 67 L st h = exI E d lm RT F (run E g mi_X9_pick d lm RT F pm_X9_pick n) (2, ((0 : Nat) : Int), 0, 68, []) L st h := run_s rfl
theorem r_X9_pick_68 : run E g mi_X9_pick d lm RT F pm_X9_pick (n + 1) 68 L st h = exI E d lm RT F (run E g mi_X9_pick d lm RT F pm_X9_pick n) (1, ((1 : Nat) : Int), 0, 69, []) L st h := run_s rfl
theorem r_X9_pick_69 : run E g mi_X9_pick d lm RT F pm_X9_pick (n + 1) 69 L st h = exI E d lm RT F (run E g mi_X9_pick d lm RT F pm_X9_pick n) (1, ((2 : Nat) : Int), 0, 70, []) L st h := run_s rfl
theorem r_X9_pick_70 : run E g mi_X9_pick d lm RT F pm_X9_pick (n + 1) 70 L st h = exI E d lm RT F (run E g mi_X9_pick d lm RT F pm_X9_pick n) (1, ((6 : Nat) : Int), 0, 72, []) L st h := run_s rfl
theorem r_X9_pick_72 : run E g mi_X9_pick d lm RT F pm_X9_pick (n + 1) 72 L st h = exI E d lm RT F (run E g mi_X9_pick d lm RT F pm_X9_pick n) (1, ((3 : Nat) : Int), 0, 73, []) L st h := run_s rfl
theorem r_X9_pick_73 : run E g mi_X9_pick d lm RT F pm_X9_pick (n + 1) 73 L st h = exI E d lm RT F (run E g mi_X9_pick d lm RT F pm_X9_pick n) (51, ((123 : Nat) : Int), ((5 : Nat) : Int), 76, [9]) L st h := run_s rfl
theorem r_X9_pick_76 : run E g mi_X9_pick d lm RT F pm_X9_pick (n + 1) 76 L st h = exI E d lm RT F (run E g mi_X9_pick d lm RT F pm_X9_pick n) (31, 0, ((108 : Nat) : Int), 79, []) L st h := run_s rfl
theorem r_X9_pick_79 : run E g mi_X9_pick d lm RT F pm_X9_pick (n + 1) 79 L st h = exI E d lm RT F (run E g mi_X9_pick d lm RT F pm_X9_pick n) (1, ((5 : Nat) : Int), 0, 81, []) L st h := run_s rfl
theorem r_X9_pick_81 : run E g mi_X9_pick d lm RT F pm_X9_pick (n + 1) 81 L st h = exI E d lm RT F (run E g mi_X9_pick d lm RT F pm_X9_pick n) (2, ((0 : Nat) : Int), 0, 82, []) L st h := run_s rfl
theorem r_X9_pick_82 : run E g mi_X9_pick d lm RT F pm_X9_pick (n + 1) 82 L st h = exI E d lm RT F (run E g mi_X9_pick d lm RT F pm_X9_pick n) (1, ((1 : Nat) : Int), 0, 83, []) L st h := run_s rfl
theorem r_X9_pick_83 : run E g mi_X9_pick d lm RT F pm_X9_pick (n + 1) 83 L st h = exI E d lm RT F (run E g mi_X9_pick d lm RT F pm_X9_pick n) (1, ((2 : Nat) : Int), 0, 84, []) L st h := run_s rfl
theorem r_X9_pick_84 : run E g mi_X9_pick d lm RT F pm_X9_pick (n + 1) 84 L st h = exI E d lm RT F (run E g mi_X9_pick d lm RT F pm_X9_pick n) (1, ((6 : Nat) : Int), 0, 86, []) L st h := run_s rfl
theorem r_X9_pick_86 : run E g mi_X9_pick d lm RT F pm_X9_pick (n + 1) 86 L st h = exI E d lm RT F (run E g mi_X9_pick d lm RT F pm_X9_pick n) (51, ((122 : Nat) : Int), ((4 : Nat) : Int), 89, [9]) L st h := run_s rfl
theorem r_X9_pick_89 : run E g mi_X9_pick d lm RT F pm_X9_pick (n + 1) 89 L st h = exI E d lm RT F (run E g mi_X9_pick d lm RT F pm_X9_pick n) (8, 0, 0, 90, []) L st h := run_s rfl
theorem r_X9_pick_90 : run E g mi_X9_pick d lm RT F pm_X9_pick (n + 1) 90 L st h = exI E d lm RT F (run E g mi_X9_pick d lm RT F pm_X9_pick n) (4, ((5 : Nat) : Int), 0, 92, []) L st h := run_s rfl
theorem r_X9_pick_92 : run E g mi_X9_pick d lm RT F pm_X9_pick (n + 1) 92 L st h = exI E d lm RT F (run E g mi_X9_pick d lm RT F pm_X9_pick n) (1, ((4 : Nat) : Int), 0, 94, []) L st h := run_s rfl
theorem r_X9_pick_94 : run E g mi_X9_pick d lm RT F pm_X9_pick (n + 1) 94 L st h = exI E d lm RT F (run E g mi_X9_pick d lm RT F pm_X9_pick n) (0, (-9), 0, 96, []) L st h := run_s rfl
theorem r_X9_pick_96 : run E g mi_X9_pick d lm RT F pm_X9_pick (n + 1) 96 L st h = exI E d lm RT F (run E g mi_X9_pick d lm RT F pm_X9_pick n) (32, 1, ((104 : Nat) : Int), 99, []) L st h := run_s rfl
theorem r_X9_pick_99 : run E g mi_X9_pick d lm RT F pm_X9_pick (n + 1) 99 L st h = exI E d lm RT F (run E g mi_X9_pick d lm RT F pm_X9_pick n) (1, ((6 : Nat) : Int), 0, 101, []) L st h := run_s rfl
theorem r_X9_pick_101 : run E g mi_X9_pick d lm RT F pm_X9_pick (n + 1) 101 L st h = exI E d lm RT F (run E g mi_X9_pick d lm RT F pm_X9_pick n) (33, ((106 : Nat) : Int), 0, 0, []) L st h := run_s rfl
theorem r_X9_pick_104 : run E g mi_X9_pick d lm RT F pm_X9_pick (n + 1) 104 L st h = exI E d lm RT F (run E g mi_X9_pick d lm RT F pm_X9_pick n) (1, ((4 : Nat) : Int), 0, 106, []) L st h := run_s rfl
theorem r_X9_pick_106 : run E g mi_X9_pick d lm RT F pm_X9_pick (n + 1) 106 L st h = exI E d lm RT F (run E g mi_X9_pick d lm RT F pm_X9_pick n) (4, ((4 : Nat) : Int), 0, 108, []) L st h := run_s rfl
theorem r_X9_pick_108 : run E g mi_X9_pick d lm RT F pm_X9_pick (n + 1) 108 L st h = exI E d lm RT F (run E g mi_X9_pick d lm RT F pm_X9_pick n) (7, ((6 : Nat) : Int), 1, 111, []) L st h := run_s rfl
theorem r_X9_pick_111 : run E g mi_X9_pick d lm RT F pm_X9_pick (n + 1) 111 L st h = exI E d lm RT F (run E g mi_X9_pick d lm RT F pm_X9_pick n) (33, ((60 : Nat) : Int), 0, 0, []) L st h := run_s rfl
theorem r_X9_pick_114 : run E g mi_X9_pick d lm RT F pm_X9_pick (n + 1) 114 L st h = exI E d lm RT F (run E g mi_X9_pick d lm RT F pm_X9_pick n) (1, ((5 : Nat) : Int), 0, 116, []) L st h := run_s rfl
theorem r_X9_pick_116 : run E g mi_X9_pick d lm RT F pm_X9_pick (n + 1) 116 L st h = exI E d lm RT F (run E g mi_X9_pick d lm RT F pm_X9_pick n) (31, 1, ((122 : Nat) : Int), 119, []) L st h := run_s rfl
theorem r_X9_pick_119 : run E g mi_X9_pick d lm RT F pm_X9_pick (n + 1) 119 L st h = exI E d lm RT F (run E g mi_X9_pick d lm RT F pm_X9_pick n) (1, ((4 : Nat) : Int), 0, 121, []) L st h := run_s rfl
theorem r_X9_pick_121 : run E g mi_X9_pick d lm RT F pm_X9_pick (n + 1) 121 L st h = exI E d lm RT F (run E g mi_X9_pick d lm RT F pm_X9_pick n) (48, 0, 0, 0, []) L st h := run_s rfl
theorem r_X9_pick_122 : run E g mi_X9_pick d lm RT F pm_X9_pick (n + 1) 122 L st h = exI E d lm RT F (run E g mi_X9_pick d lm RT F pm_X9_pick n) (2, ((0 : Nat) : Int), 0, 123, []) L st h := run_s rfl
theorem r_X9_pick_123 : run E g mi_X9_pick d lm RT F pm_X9_pick (n + 1) 123 L st h = exI E d lm RT F (run E g mi_X9_pick d lm RT F pm_X9_pick n) (1, ((5 : Nat) : Int), 0, 125, []) L st h := run_s rfl
theorem r_X9_pick_125 : run E g mi_X9_pick d lm RT F pm_X9_pick (n + 1) 125 L st h = exI E d lm RT F (run E g mi_X9_pick d lm RT F pm_X9_pick n) (51, ((119 : Nat) : Int), ((2 : Nat) : Int), 128, [9]) L st h := run_s rfl
theorem r_X9_pick_128 : run E g mi_X9_pick d lm RT F pm_X9_pick (n + 1) 128 L st h = exI E d lm RT F (run E g mi_X9_pick d lm RT F pm_X9_pick n) (4, ((6 : Nat) : Int), 0, 130, []) L st h := run_s rfl
theorem r_X9_pick_130 : run E g mi_X9_pick d lm RT F pm_X9_pick (n + 1) 130 L st h = exI E d lm RT F (run E g mi_X9_pick d lm RT F pm_X9_pick n) (0, 0, 0, 131, []) L st h := run_s rfl
theorem r_X9_pick_131 : run E g mi_X9_pick d lm RT F pm_X9_pick (n + 1) 131 L st h = exI E d lm RT F (run E g mi_X9_pick d lm RT F pm_X9_pick n) (4, ((7 : Nat) : Int), 0, 133, []) L st h := run_s rfl
theorem r_X9_pick_133 : run E g mi_X9_pick d lm RT F pm_X9_pick (n + 1) 133 L st h = G E g mi_X9_pick d lm RT 133 L st h := run_c rfl
theorem q_X9_pick_133 (n : Nat) (hF : FOk E d F) (hx : exI E d lm RT F (run E g mi_X9_pick d lm RT F pm_X9_pick n) (1, ((7 : Nat) : Int), 0, 135, []) L st h) : G E g mi_X9_pick d lm RT 133 L st h := sstep hF (tOk_spec tk_X9_pick (by decide +kernel)) (run_sound hF pk_X9_pick n) hx
theorem r_X9_pick_135 : run E g mi_X9_pick d lm RT F pm_X9_pick (n + 1) 135 L st h = exI E d lm RT F (run E g mi_X9_pick d lm RT F pm_X9_pick n) (0, 8, 0, 137, []) L st h := run_s rfl
theorem r_X9_pick_137 : run E g mi_X9_pick d lm RT F pm_X9_pick (n + 1) 137 L st h = exI E d lm RT F (run E g mi_X9_pick d lm RT F pm_X9_pick n) (32, 3, ((179 : Nat) : Int), 140, []) L st h := run_s rfl
theorem r_X9_pick_140 : run E g mi_X9_pick d lm RT F pm_X9_pick (n + 1) 140 L st h = exI E d lm RT F (run E g mi_X9_pick d lm RT F pm_X9_pick n) (2, ((0 : Nat) : Int), 0, 141, []) L st h := run_s rfl
theorem r_X9_pick_141 : run E g mi_X9_pick d lm RT F pm_X9_pick (n + 1) 141 L st h = exI E d lm RT F (run E g mi_X9_pick d lm RT F pm_X9_pick n) (1, ((1 : Nat) : Int), 0, 142, []) L st h := run_s rfl
theorem r_X9_pick_142 : run E g mi_X9_pick d lm RT F pm_X9_pick (n + 1) 142 L st h = exI E d lm RT F (run E g mi_X9_pick d lm RT F pm_X9_pick n) (1, ((2 : Nat) : Int), 0, 143, []) L st h := run_s rfl
theorem r_X9_pick_143 : run E g mi_X9_pick d lm RT F pm_X9_pick (n + 1) 143 L st h = exI E d lm RT F (run E g mi_X9_pick d lm RT F pm_X9_pick n) (1, ((7 : Nat) : Int), 0, 145, []) L st h := run_s rfl
theorem r_X9_pick_145 : run E g mi_X9_pick d lm RT F pm_X9_pick (n + 1) 145 L st h = exI E d lm RT F (run E g mi_X9_pick d lm RT F pm_X9_pick n) (1, ((3 : Nat) : Int), 0, 146, []) L st h := run_s rfl
theorem r_X9_pick_146 : run E g mi_X9_pick d lm RT F pm_X9_pick (n + 1) 146 L st h = exI E d lm RT F (run E g mi_X9_pick d lm RT F pm_X9_pick n) (51, ((123 : Nat) : Int), ((5 : Nat) : Int), 149, [9]) L st h := run_s rfl
theorem r_X9_pick_149 : run E g mi_X9_pick d lm RT F pm_X9_pick (n + 1) 149 L st h = exI E d lm RT F (run E g mi_X9_pick d lm RT F pm_X9_pick n) (31, 0, ((173 : Nat) : Int), 152, []) L st h := run_s rfl
theorem r_X9_pick_152 : run E g mi_X9_pick d lm RT F pm_X9_pick (n + 1) 152 L st h = exI E d lm RT F (run E g mi_X9_pick d lm RT F pm_X9_pick n) (1, ((6 : Nat) : Int), 0, 154, []) L st h := run_s rfl
theorem r_X9_pick_154 : run E g mi_X9_pick d lm RT F pm_X9_pick (n + 1) 154 L st h = exI E d lm RT F (run E g mi_X9_pick d lm RT F pm_X9_pick n) (2, ((0 : Nat) : Int), 0, 155, []) L st h := run_s rfl
theorem r_X9_pick_155 : run E g mi_X9_pick d lm RT F pm_X9_pick (n + 1) 155 L st h = exI E d lm RT F (run E g mi_X9_pick d lm RT F pm_X9_pick n) (1, ((1 : Nat) : Int), 0, 156, []) L st h := run_s rfl
theorem r_X9_pick_156 : run E g mi_X9_pick d lm RT F pm_X9_pick (n + 1) 156 L st h = exI E d lm RT F (run E g mi_X9_pick d lm RT F pm_X9_pick n) (1, ((2 : Nat) : Int), 0, 157, []) L st h := run_s rfl
theorem r_X9_pick_157 : run E g mi_X9_pick d lm RT F pm_X9_pick (n + 1) 157 L st h = exI E d lm RT F (run E g mi_X9_pick d lm RT F pm_X9_pick n) (1, ((7 : Nat) : Int), 0, 159, []) L st h := run_s rfl
theorem r_X9_pick_159 : run E g mi_X9_pick d lm RT F pm_X9_pick (n + 1) 159 L st h = exI E d lm RT F (run E g mi_X9_pick d lm RT F pm_X9_pick n) (51, ((122 : Nat) : Int), ((4 : Nat) : Int), 162, [9]) L st h := run_s rfl
theorem r_X9_pick_162 : run E g mi_X9_pick d lm RT F pm_X9_pick (n + 1) 162 L st h = exI E d lm RT F (run E g mi_X9_pick d lm RT F pm_X9_pick n) (9, 0, 0, 163, []) L st h := run_s rfl
theorem r_X9_pick_163 : run E g mi_X9_pick d lm RT F pm_X9_pick (n + 1) 163 L st h = exI E d lm RT F (run E g mi_X9_pick d lm RT F pm_X9_pick n) (4, ((6 : Nat) : Int), 0, 165, []) L st h := run_s rfl
theorem r_X9_pick_165 : run E g mi_X9_pick d lm RT F pm_X9_pick (n + 1) 165 L st h = exI E d lm RT F (run E g mi_X9_pick d lm RT F pm_X9_pick n) (1, ((6 : Nat) : Int), 0, 167, []) L st h := run_s rfl
theorem r_X9_pick_167 : run E g mi_X9_pick d lm RT F pm_X9_pick (n + 1) 167 L st h = exI E d lm RT F (run E g mi_X9_pick d lm RT F pm_X9_pick n) (31, 3, ((173 : Nat) : Int), 170, []) L st h := run_s rfl
theorem r_X9_pick_170 : run E g mi_X9_pick d lm RT F pm_X9_pick (n + 1) 170 L st h = exI E d lm RT F (run E g mi_X9_pick d lm RT F pm_X9_pick n) (1, ((7 : Nat) : Int), 0, 172, []) L st h := run_s rfl
theorem r_X9_pick_172 : run E g mi_X9_pick d lm RT F pm_X9_pick (n + 1) 172 L st h = exI E d lm RT F (run E g mi_X9_pick d lm RT F pm_X9_pick n) (48, 0, 0, 0, []) L st h := run_s rfl
theorem r_X9_pick_173 : run E g mi_X9_pick d lm RT F pm_X9_pick (n + 1) 173 L st h = exI E d lm RT F (run E g mi_X9_pick d lm RT F pm_X9_pick n) (7, ((7 : Nat) : Int), 1, 176, []) L st h := run_s rfl
theorem r_X9_pick_176 : run E g mi_X9_pick d lm RT F pm_X9_pick (n + 1) 176 L st h = exI E d lm RT F (run E g mi_X9_pick d lm RT F pm_X9_pick n) (33, ((133 : Nat) : Int), 0, 0, []) L st h := run_s rfl
theorem r_X9_pick_179 : run E g mi_X9_pick d lm RT F pm_X9_pick (n + 1) 179 L st h = exI E d lm RT F (run E g mi_X9_pick d lm RT F pm_X9_pick n) (0, (-9), 0, 181, []) L st h := run_s rfl
theorem r_X9_pick_181 : run E g mi_X9_pick d lm RT F pm_X9_pick (n + 1) 181 L st h = exI E d lm RT F (run E g mi_X9_pick d lm RT F pm_X9_pick n) (48, 0, 0, 0, []) L st h := run_s rfl
theorem e_X9_pick (n : Nat) {pc : Nat} (hF : FOk E d F) (hx : run E g mi_X9_pick d lm RT F pm_X9_pick n pc L st h) : G E g mi_X9_pick d lm RT pc L st h := run_sound hF pk_X9_pick n pc L st h hx
end
def mi_X9_goesOn : MI := (9, cX9_goesOn, 6, 1, false)
theorem mo_X9_goesOn : miOk mi_X9_goesOn (mt 125) = true := by decide +kernel
def tl_X9_goesOn : List (Nat × PT) := [(0, (2, ((0 : Nat) : Int), 0, 1, [])),
  (1, (35, ((9 : Nat) : Int), ((25 : Nat) : Int), 4, [])),
  (4, (1, ((1 : Nat) : Int), 0, 5, [])),
  (5, (38, 0, 0, 6, [])),
  (6, (0, 24, 0, 8, [])),
  (8, (32, 1, ((16 : Nat) : Int), 11, [])),
  (11, (0, (-9), 0, 13, [])),
  (13, (33, ((22 : Nat) : Int), 0, 0, [])),
  (16, (2, ((0 : Nat) : Int), 0, 17, [])),
  (17, (1, ((1 : Nat) : Int), 0, 18, [])),
  (18, (1, ((2 : Nat) : Int), 0, 19, [])),
  (19, (51, ((124 : Nat) : Int), ((3 : Nat) : Int), 22, [9])),
  (22, (4, ((3 : Nat) : Int), 0, 23, [])),
  (23, (1, ((3 : Nat) : Int), 0, 24, [])),
  (24, (0, (-9), 0, 26, [])),
  (26, (32, 1, ((36 : Nat) : Int), 29, [])),
  (29, (2, ((0 : Nat) : Int), 0, 30, [])),
  (30, (1, ((1 : Nat) : Int), 0, 31, [])),
  (31, (51, ((120 : Nat) : Int), ((2 : Nat) : Int), 34, [9])),
  (34, (0, 0, 0, 35, [])),
  (35, (48, 1, 0, 0, [])),
  (36, (2, ((0 : Nat) : Int), 0, 37, [])),
  (37, (35, ((9 : Nat) : Int), ((4 : Nat) : Int), 40, [])),
  (40, (0, 8, 0, 42, [])),
  (42, (1, ((2 : Nat) : Int), 0, 43, [])),
  (43, (10, 0, 0, 44, [])),
  (44, (1, ((3 : Nat) : Int), 0, 45, [])),
  (45, (8, 0, 0, 46, [])),
  (46, (38, 0, 0, 47, [])),
  (47, (4, ((4 : Nat) : Int), 0, 49, [])),
  (49, (2, ((0 : Nat) : Int), 0, 50, [])),
  (50, (1, ((4 : Nat) : Int), 0, 52, [])),
  (52, (0, 0, 0, 53, [])),
  (53, (51, ((103 : Nat) : Int), ((3 : Nat) : Int), 56, [9])),
  (56, (4, ((5 : Nat) : Int), 0, 58, [])),
  (58, (2, ((0 : Nat) : Int), 0, 59, [])),
  (59, (35, ((9 : Nat) : Int), ((22 : Nat) : Int), 62, [])),
  (62, (1, ((1 : Nat) : Int), 0, 63, [])),
  (63, (1, ((4 : Nat) : Int), 0, 65, [])),
  (65, (39, 0, 0, 66, [])),
  (66, (2, ((0 : Nat) : Int), 0, 67, [])),
  (67, (35, ((9 : Nat) : Int), ((23 : Nat) : Int), 70, [])),
  (70, (1, ((1 : Nat) : Int), 0, 71, [])),
  (71, (1, ((3 : Nat) : Int), 0, 72, [])),
  (72, (39, 0, 0, 73, [])),
  (73, (2, ((0 : Nat) : Int), 0, 74, [])),
  (74, (35, ((9 : Nat) : Int), ((24 : Nat) : Int), 77, [])),
  (77, (1, ((1 : Nat) : Int), 0, 78, [])),
  (78, (2, ((0 : Nat) : Int), 0, 79, [])),
  (79, (35, ((9 : Nat) : Int), ((12 : Nat) : Int), 82, [])),
  (82, (2, ((0 : Nat) : Int), 0, 83, [])),
  (83, (35, ((9 : Nat) : Int), ((3 : Nat) : Int), 86, [])),
  (86, (1, ((4 : Nat) : Int), 0, 88, [])),
  (88, (38, 0, 0, 89, [])),
  (89, (8, 0, 0, 90, [])),
  (90, (1, ((5 : Nat) : Int), 0, 92, [])),
  (92, (8, 0, 0, 93, [])),
  (93, (39, 0, 0, 94, [])),
  (94, (2, ((0 : Nat) : Int), 0, 95, [])),
  (95, (35, ((9 : Nat) : Int), ((25 : Nat) : Int), 98, [])),
  (98, (1, ((1 : Nat) : Int), 0, 99, [])),
  (99, (29, 0, 0, 100, [])),
  (100, (38, 0, 0, 101, [])),
  (101, (0, 1, 0, 102, [])),
  (102, (8, 0, 0, 103, [])),
  (103, (39, 0, 0, 104, [])),
  (104, (0, 1, 0, 105, [])),
  (105, (48, 1, 0, 0, []))]
theorem tk_X9_goesOn_0 : tOk mi_X9_goesOn ((tl_X9_goesOn.drop 0).take 45) = true := by decide +kernel
theorem tk_X9_goesOn_1 : tOk mi_X9_goesOn ((tl_X9_goesOn.drop 45).take 45) = true := by decide +kernel
theorem tk_X9_goesOn : tOk mi_X9_goesOn tl_X9_goesOn = true := by
  refine tOk_cut 45 (by decide) (fun q hq => ?_)
  have hl : tl_X9_goesOn.length = 68 := by decide +kernel
  rw [hl] at hq
  rcases (show q = 0 ∨ q = 1 by omega) with rfl | rfl
  · exact tk_X9_goesOn_0
  · exact tk_X9_goesOn_1
def pm_X9_goesOn (pc : Nat) : Option PT := if [].contains pc then none else tl_X9_goesOn.lookup pc
theorem pk_X9_goesOn : ∀ pc pt, pm_X9_goesOn pc = some pt → okPt mi_X9_goesOn pc pt := fun pc pt h => tOk_pm tk_X9_goesOn h
section
variable {E : ET} {g : GT} {d : Nat} {lm : Nat × Nat} {RT : RTy} {F : FT} {n : Nat} {L : LV} {st : List AV} {h : AH}
theorem r_X9_goesOn_0 : run E g mi_X9_goesOn d lm RT F pm_X9_goesOn (n + 1) 0 L st h = exI E d lm RT F (run E g mi_X9_goesOn d lm RT F pm_X9_goesOn n) (2, ((0 : Nat) : Int), 0, 1, []) L st h := run_s rfl
theorem r_X9_goesOn_1 : run E g mi_X9_goesOn d lm RT F pm_X9_goesOn (n + 1) 1 L st h = exI E d lm RT F (run E g mi_X9_goesOn d lm RT F pm_X9_goesOn n) (35, ((9 : Nat) : Int), ((25 : Nat) : Int), 4, []) L st h := run_s rfl
theorem r_X9_goesOn_4 : run E g mi_X9_goesOn d lm RT F pm_X9_goesOn (n + 1) 4 L st h = exI E d lm RT F (run E g mi_X9_goesOn d lm RT F pm_X9_goesOn n) (1, ((1 : Nat) : Int), 0, 5, []) L st h := run_s rfl
theorem r_X9_goesOn_5 : run E g mi_X9_goesOn d lm RT F pm_X9_goesOn (n + 1) 5 L st h = exI E d lm RT F (run E g mi_X9_goesOn d lm RT F pm_X9_goesOn n) (38, 0, 0, 6, []) L st h := run_s rfl
theorem r_X9_goesOn_6 : run E g mi_X9_goesOn d lm RT F pm_X9_goesOn (n + 1) 6 L st h = exI E d lm RT F (run E g mi_X9_goesOn d lm RT F pm_X9_goesOn n) (0, 24, 0, 8, []) L st h := run_s rfl
theorem r_X9_goesOn_8 : run E g mi_X9_goesOn d lm RT F pm_X9_goesOn (n + 1) 8 L st h = exI E d lm RT F (run E g mi_X9_goesOn d lm RT F pm_X9_goesOn n) (32, 1, ((16 : Nat) : Int), 11, []) L st h := run_s rfl
theorem r_X9_goesOn_11 : run E g mi_X9_goesOn d lm RT F pm_X9_goesOn (n + 1) 11 L st h = exI E d lm RT F (run E g mi_X9_goesOn d lm RT F pm_X9_goesOn n) (0, (-9), 0, 13, []) L st h := run_s rfl
theorem r_X9_goesOn_13 : run E g mi_X9_goesOn d lm RT F pm_X9_goesOn (n + 1) 13 L st h = exI E d lm RT F (run E g mi_X9_goesOn d lm RT F pm_X9_goesOn n) (33, ((22 : Nat) : Int), 0, 0, []) L st h := run_s rfl
theorem r_X9_goesOn_16 : run E g mi_X9_goesOn d lm RT F pm_X9_goesOn (n + 1) 16 L st h = exI E d lm RT F (run E g mi_X9_goesOn d lm RT F pm_X9_goesOn n) (2, ((0 : Nat) : Int), 0, 17, []) L st h := run_s rfl
theorem r_X9_goesOn_17 : run E g mi_X9_goesOn d lm RT F pm_X9_goesOn (n + 1) 17 L st h = exI E d lm RT F (run E g mi_X9_goesOn d lm RT F pm_X9_goesOn n) (1, ((1 : Nat) : Int), 0, 18, []) L st h := run_s rfl
theorem r_X9_goesOn_18 : run E g mi_X9_goesOn d lm RT F pm_X9_goesOn (n + 1) 18 L st h = exI E d lm RT F (run E g mi_X9_goesOn d lm RT F pm_X9_goesOn n) (1, ((2 : Nat) : Int), 0, 19, []) L st h := run_s rfl
theorem r_X9_goesOn_19 : run E g mi_X9_goesOn d lm RT F pm_X9_goesOn (n + 1) 19 L st h = exI E d lm RT F (run E g mi_X9_goesOn d lm RT F pm_X9_goesOn n) (51, ((124 : Nat) : Int), ((3 : Nat) : Int), 22, [9]) L st h := run_s rfl
theorem r_X9_goesOn_22 : run E g mi_X9_goesOn d lm RT F pm_X9_goesOn (n + 1) 22 L st h = exI E d lm RT F (run E g mi_X9_goesOn d lm RT F pm_X9_goesOn n) (4, ((3 : Nat) : Int), 0, 23, []) L st h := run_s rfl
theorem r_X9_goesOn_23 : run E g mi_X9_goesOn d lm RT F pm_X9_goesOn (n + 1) 23 L st h = exI E d lm RT F (run E g mi_X9_goesOn d lm RT F pm_X9_goesOn n) (1, ((3 : Nat) : Int), 0, 24, []) L st h := run_s rfl
theorem r_X9_goesOn_24 : run E g mi_X9_goesOn d lm RT F pm_X9_goesOn (n + 1) 24 L st h = exI E d lm RT F (run E g mi_X9_goesOn d lm RT F pm_X9_goesOn n) (0, (-9), 0, 26, []) L st h := run_s rfl
theorem r_X9_goesOn_26 : run E g mi_X9_goesOn d lm RT F pm_X9_goesOn (n + 1) 26 L st h = exI E d lm RT F (run E g mi_X9_goesOn d lm RT F pm_X9_goesOn n) (32, 1, ((36 : Nat) : Int), 29, []) L st h := run_s rfl
theorem r_X9_goesOn_29 : run E g mi_X9_goesOn d lm RT F pm_X9_goesOn (n + 1) 29 L st h = exI E d lm RT F (run E g mi_X9_goesOn d lm RT F pm_X9_goesOn n) (2, ((0 : Nat) : Int), 0, 30, []) L st h := run_s rfl
theorem r_X9_goesOn_30 : run E g mi_X9_goesOn d lm RT F pm_X9_goesOn (n + 1) 30 L st h = exI E d lm RT F (run E g mi_X9_goesOn d lm RT F pm_X9_goesOn n) (1, ((1 : Nat) : Int), 0, 31, []) L st h := run_s rfl
theorem r_X9_goesOn_31 : run E g mi_X9_goesOn d lm RT F pm_X9_goesOn (n + 1) 31 L st h = exI E d lm RT F (run E g mi_X9_goesOn d lm RT F pm_X9_goesOn n) (51, ((120 : Nat) : Int), ((2 : Nat) : Int), 34, [9]) L st h := run_s rfl
theorem r_X9_goesOn_34 : run E g mi_X9_goesOn d lm RT F pm_X9_goesOn (n + 1) 34 L st h = exI E d lm RT F (run E g mi_X9_goesOn d lm RT F pm_X9_goesOn n) (0, 0, 0, 35, []) L st h := run_s rfl
theorem r_X9_goesOn_35 : run E g mi_X9_goesOn d lm RT F pm_X9_goesOn (n + 1) 35 L st h = exI E d lm RT F (run E g mi_X9_goesOn d lm RT F pm_X9_goesOn n) (48, 1, 0, 0, []) L st h := run_s rfl
theorem r_X9_goesOn_36 : run E g mi_X9_goesOn d lm RT F pm_X9_goesOn (n + 1) 36 L st h = exI E d lm RT F (run E g mi_X9_goesOn d lm RT F pm_X9_goesOn n) (2, ((0 : Nat) : Int), 0, 37, []) L st h := run_s rfl
theorem r_X9_goesOn_37 : run E g mi_X9_goesOn d lm RT F pm_X9_goesOn (n + 1) 37 L st h = exI E d lm RT F (run E g mi_X9_goesOn d lm RT F pm_X9_goesOn n) (35, ((9 : Nat) : Int), ((4 : Nat) : Int), 40, []) L st h := run_s rfl
theorem r_X9_goesOn_40 : run E g mi_X9_goesOn d lm RT F pm_X9_goesOn (n + 1) 40 L st h = exI E d lm RT F (run E g mi_X9_goesOn d lm RT F pm_X9_goesOn n) (0, 8, 0, 42, []) L st h := run_s rfl
theorem r_X9_goesOn_42 : run E g mi_X9_goesOn d lm RT F pm_X9_goesOn (n + 1) 42 L st h = exI E d lm RT F (run E g mi_X9_goesOn d lm RT F pm_X9_goesOn n) (1, ((2 : Nat) : Int), 0, 43, []) L st h := run_s rfl
theorem r_X9_goesOn_43 : run E g mi_X9_goesOn d lm RT F pm_X9_goesOn (n + 1) 43 L st h = exI E d lm RT F (run E g mi_X9_goesOn d lm RT F pm_X9_goesOn n) (10, 0, 0, 44, []) L st h := run_s rfl
theorem r_X9_goesOn_44 : run E g mi_X9_goesOn d lm RT F pm_X9_goesOn (n + 1) 44 L st h = exI E d lm RT F (run E g mi_X9_goesOn d lm RT F pm_X9_goesOn n) (1, ((3 : Nat) : Int), 0, 45, []) L st h := run_s rfl
theorem r_X9_goesOn_45 : run E g mi_X9_goesOn d lm RT F pm_X9_goesOn (n + 1) 45 L st h = exI E d lm RT F (run E g mi_X9_goesOn d lm RT F pm_X9_goesOn n) (8, 0, 0, 46, []) L st h := run_s rfl
theorem r_X9_goesOn_46 : run E g mi_X9_goesOn d lm RT F pm_X9_goesOn (n + 1) 46 L st h = exI E d lm RT F (run E g mi_X9_goesOn d lm RT F pm_X9_goesOn n) (38, 0, 0, 47, []) L st h := run_s rfl
theorem r_X9_goesOn_47 : run E g mi_X9_goesOn d lm RT F pm_X9_goesOn (n + 1) 47 L st h = exI E d lm RT F (run E g mi_X9_goesOn d lm RT F pm_X9_goesOn n) (4, ((4 : Nat) : Int), 0, 49, []) L st h := run_s rfl
theorem r_X9_goesOn_49 : run E g mi_X9_goesOn d lm RT F pm_X9_goesOn (n + 1) 49 L st h = exI E d lm RT F (run E g mi_X9_goesOn d lm RT F pm_X9_goesOn n) (2, ((0 : Nat) : Int), 0, 50, []) L st h := run_s rfl
theorem r_X9_goesOn_50 : run E g mi_X9_goesOn d lm RT F pm_X9_goesOn (n + 1) 50 L st h = exI E d lm RT F (run E g mi_X9_goesOn d lm RT F pm_X9_goesOn n) (1, ((4 : Nat) : Int), 0, 52, []) L st h := run_s rfl
theorem r_X9_goesOn_52 : run E g mi_X9_goesOn d lm RT F pm_X9_goesOn (n + 1) 52 L st h = exI E d lm RT F (run E g mi_X9_goesOn d lm RT F pm_X9_goesOn n) (0, 0, 0, 53, []) L st h := run_s rfl
theorem r_X9_goesOn_53 : run E g mi_X9_goesOn d lm RT F pm_X9_goesOn (n + 1) 53 L st h = exI E d lm RT F (run E g mi_X9_goesOn d lm RT F pm_X9_goesOn n) (51, ((103 : Nat) : Int), ((3 : Nat) : Int), 56, [9]) L st h := run_s rfl
theorem r_X9_goesOn_56 : run E g mi_X9_goesOn d lm RT F pm_X9_goesOn (n + 1) 56 L st h = exI E d lm RT F (run E g mi_X9_goesOn d lm RT F pm_X9_goesOn n) (4, ((5 : Nat) : Int), 0, 58, []) L st h := run_s rfl
theorem r_X9_goesOn_58 : run E g mi_X9_goesOn d lm RT F pm_X9_goesOn (n + 1) 58 L st h = exI E d lm RT F (run E g mi_X9_goesOn d lm RT F pm_X9_goesOn n) (2, ((0 : Nat) : Int), 0, 59, []) L st h := run_s rfl
theorem r_X9_goesOn_59 : run E g mi_X9_goesOn d lm RT F pm_X9_goesOn (n + 1) 59 L st h = exI E d lm RT F (run E g mi_X9_goesOn d lm RT F pm_X9_goesOn n) (35, ((9 : Nat) : Int), ((22 : Nat) : Int), 62, []) L st h := run_s rfl
theorem r_X9_goesOn_62 : run E g mi_X9_goesOn d lm RT F pm_X9_goesOn (n + 1) 62 L st h = exI E d lm RT F (run E g mi_X9_goesOn d lm RT F pm_X9_goesOn n) (1, ((1 : Nat) : Int), 0, 63, []) L st h := run_s rfl
theorem r_X9_goesOn_63 : run E g mi_X9_goesOn d lm RT F pm_X9_goesOn (n + 1) 63 L st h = exI E d lm RT F (run E g mi_X9_goesOn d lm RT F pm_X9_goesOn n) (1, ((4 : Nat) : Int), 0, 65, []) L st h := run_s rfl
theorem r_X9_goesOn_65 : run E g mi_X9_goesOn d lm RT F pm_X9_goesOn (n + 1) 65 L st h = exI E d lm RT F (run E g mi_X9_goesOn d lm RT F pm_X9_goesOn n) (39, 0, 0, 66, []) L st h := run_s rfl
theorem r_X9_goesOn_66 : run E g mi_X9_goesOn d lm RT F pm_X9_goesOn (n + 1) 66 L st h = exI E d lm RT F (run E g mi_X9_goesOn d lm RT F pm_X9_goesOn n) (2, ((0 : Nat) : Int), 0, 67, []) L st h := run_s rfl
theorem r_X9_goesOn_67 : run E g mi_X9_goesOn d lm RT F pm_X9_goesOn (n + 1) 67 L st h = exI E d lm RT F (run E g mi_X9_goesOn d lm RT F pm_X9_goesOn n) (35, ((9 : Nat) : Int), ((23 : Nat) : Int), 70, []) L st h := run_s rfl
theorem r_X9_goesOn_70 : run E g mi_X9_goesOn d lm RT F pm_X9_goesOn (n + 1) 70 L st h = exI E d lm RT F (run E g mi_X9_goesOn d lm RT F pm_X9_goesOn n) (1, ((1 : Nat) : Int), 0, 71, []) L st h := run_s rfl
theorem r_X9_goesOn_71 : run E g mi_X9_goesOn d lm RT F pm_X9_goesOn (n + 1) 71 L st h = exI E d lm RT F (run E g mi_X9_goesOn d lm RT F pm_X9_goesOn n) (1, ((3 : Nat) : Int), 0, 72, []) L st h := run_s rfl
theorem r_X9_goesOn_72 : run E g mi_X9_goesOn d lm RT F pm_X9_goesOn (n + 1) 72 L st h = exI E d lm RT F (run E g mi_X9_goesOn d lm RT F pm_X9_goesOn n) (39, 0, 0, 73, []) L st h := run_s rfl
theorem r_X9_goesOn_73 : run E g mi_X9_goesOn d lm RT F pm_X9_goesOn (n + 1) 73 L st h = exI E d lm RT F (run E g mi_X9_goesOn d lm RT F pm_X9_goesOn n) (2, ((0 : Nat) : Int), 0, 74, []) L st h := run_s rfl
theorem r_X9_goesOn_74 : run E g mi_X9_goesOn d lm RT F pm_X9_goesOn (n + 1) 74 L st h = exI E d lm RT F (run E g mi_X9_goesOn d lm RT F pm_X9_goesOn n) (35, ((9 : Nat) : Int), ((24 : Nat) : Int), 77, []) L st h := run_s rfl
theorem r_X9_goesOn_77 : run E g mi_X9_goesOn d lm RT F pm_X9_goesOn (n + 1) 77 L st h = exI E d lm RT F (run E g mi_X9_goesOn d lm RT F pm_X9_goesOn n) (1, ((1 : Nat) : Int), 0, 78, []) L st h := run_s rfl
theorem r_X9_goesOn_78 : run E g mi_X9_goesOn d lm RT F pm_X9_goesOn (n + 1) 78 L st h = exI E d lm RT F (run E g mi_X9_goesOn d lm RT F pm_X9_goesOn n) (2, ((0 : Nat) : Int), 0, 79, []) L st h := run_s rfl
theorem r_X9_goesOn_79 : run E g mi_X9_goesOn d lm RT F pm_X9_goesOn (n + 1) 79 L st h = exI E d lm RT F (run E g mi_X9_goesOn d lm RT F pm_X9_goesOn n) (35, ((9 : Nat) : Int), ((12 : Nat) : Int), 82, []) L st h := run_s rfl
theorem r_X9_goesOn_82 : run E g mi_X9_goesOn d lm RT F pm_X9_goesOn (n + 1) 82 L st h = exI E d lm RT F (run E g mi_X9_goesOn d lm RT F pm_X9_goesOn n) (2, ((0 : Nat) : Int), 0, 83, []) L st h := run_s rfl
theorem r_X9_goesOn_83 : run E g mi_X9_goesOn d lm RT F pm_X9_goesOn (n + 1) 83 L st h = exI E d lm RT F (run E g mi_X9_goesOn d lm RT F pm_X9_goesOn n) (35, ((9 : Nat) : Int), ((3 : Nat) : Int), 86, []) L st h := run_s rfl
theorem r_X9_goesOn_86 : run E g mi_X9_goesOn d lm RT F pm_X9_goesOn (n + 1) 86 L st h = exI E d lm RT F (run E g mi_X9_goesOn d lm RT F pm_X9_goesOn n) (1, ((4 : Nat) : Int), 0, 88, []) L st h := run_s rfl
theorem r_X9_goesOn_88 : run E g mi_X9_goesOn d lm RT F pm_X9_goesOn (n + 1) 88 L st h = exI E d lm RT F (run E g mi_X9_goesOn d lm RT F pm_X9_goesOn n) (38, 0, 0, 89, []) L st h := run_s rfl
theorem r_X9_goesOn_89 : run E g mi_X9_goesOn d lm RT F pm_X9_goesOn (n + 1) 89 L st h = exI E d lm RT F (run E g mi_X9_goesOn d lm RT F pm_X9_goesOn n) (8, 0, 0, 90, []) L st h := run_s rfl
theorem r_X9_goesOn_90 : run E g mi_X9_goesOn d lm RT F pm_X9_goesOn (n + 1) 90 L st h = exI E d lm RT F (run E g mi_X9_goesOn d lm RT F pm_X9_goesOn n) (1, ((5 : Nat) : Int), 0, 92, []) L st h := run_s rfl
theorem r_X9_goesOn_92 : run E g mi_X9_goesOn d lm RT F pm_X9_goesOn (n + 1) 92 L st h = exI E d lm RT F (run E g mi_X9_goesOn d lm RT F pm_X9_goesOn n) (8, 0, 0, 93, []) L st h := run_s rfl
theorem r_X9_goesOn_93 : run E g mi_X9_goesOn d lm RT F pm_X9_goesOn (n + 1) 93 L st h = exI E d lm RT F (run E g mi_X9_goesOn d lm RT F pm_X9_goesOn n) (39, 0, 0, 94, []) L st h := run_s rfl
theorem r_X9_goesOn_94 : run E g mi_X9_goesOn d lm RT F pm_X9_goesOn (n + 1) 94 L st h = exI E d lm RT F (run E g mi_X9_goesOn d lm RT F pm_X9_goesOn n) (2, ((0 : Nat) : Int), 0, 95, []) L st h := run_s rfl
theorem r_X9_goesOn_95 : run E g mi_X9_goesOn d lm RT F pm_X9_goesOn (n + 1) 95 L st h = exI E d lm RT F (run E g mi_X9_goesOn d lm RT F pm_X9_goesOn n) (35, ((9 : Nat) : Int), ((25 : Nat) : Int), 98, []) L st h := run_s rfl
theorem r_X9_goesOn_98 : run E g mi_X9_goesOn d lm RT F pm_X9_goesOn (n + 1) 98 L st h = exI E d lm RT F (run E g mi_X9_goesOn d lm RT F pm_X9_goesOn n) (1, ((1 : Nat) : Int), 0, 99, []) L st h := run_s rfl
theorem r_X9_goesOn_99 : run E g mi_X9_goesOn d lm RT F pm_X9_goesOn (n + 1) 99 L st h = exI E d lm RT F (run E g mi_X9_goesOn d lm RT F pm_X9_goesOn n) (29, 0, 0, 100, []) L st h := run_s rfl
theorem r_X9_goesOn_100 : run E g mi_X9_goesOn d lm RT F pm_X9_goesOn (n + 1) 100 L st h = exI E d lm RT F (run E g mi_X9_goesOn d lm RT F pm_X9_goesOn n) (38, 0, 0, 101, []) L st h := run_s rfl
theorem r_X9_goesOn_101 : run E g mi_X9_goesOn d lm RT F pm_X9_goesOn (n + 1) 101 L st h = exI E d lm RT F (run E g mi_X9_goesOn d lm RT F pm_X9_goesOn n) (0, 1, 0, 102, []) L st h := run_s rfl
theorem r_X9_goesOn_102 : run E g mi_X9_goesOn d lm RT F pm_X9_goesOn (n + 1) 102 L st h = exI E d lm RT F (run E g mi_X9_goesOn d lm RT F pm_X9_goesOn n) (8, 0, 0, 103, []) L st h := run_s rfl
theorem r_X9_goesOn_103 : run E g mi_X9_goesOn d lm RT F pm_X9_goesOn (n + 1) 103 L st h = exI E d lm RT F (run E g mi_X9_goesOn d lm RT F pm_X9_goesOn n) (39, 0, 0, 104, []) L st h := run_s rfl
theorem r_X9_goesOn_104 : run E g mi_X9_goesOn d lm RT F pm_X9_goesOn (n + 1) 104 L st h = exI E d lm RT F (run E g mi_X9_goesOn d lm RT F pm_X9_goesOn n) (0, 1, 0, 105, []) L st h := run_s rfl
theorem r_X9_goesOn_105 : run E g mi_X9_goesOn d lm RT F pm_X9_goesOn (n + 1) 105 L st h = exI E d lm RT F (run E g mi_X9_goesOn d lm RT F pm_X9_goesOn n) (48, 1, 0, 0, []) L st h := run_s rfl
theorem e_X9_goesOn (n : Nat) {pc : Nat} (hF : FOk E d F) (hx : run E g mi_X9_goesOn d lm RT F pm_X9_goesOn n pc L st h) : G E g mi_X9_goesOn d lm RT pc L st h := run_sound hF pk_X9_goesOn n pc L st h hx
end
def mi_X9_send : MI := (9, cX9_send, 5, 0, false)
theorem mo_X9_send : miOk mi_X9_send (mt 126) = true := by decide +kernel
def tl_X9_send : List (Nat × PT) := [(0, (1, ((2 : Nat) : Int), 0, 1, [])),
  (1, (45, ((91 : Nat) : Int), ((1 : Nat) : Int), 4, [])),
  (4, (31, 0, ((14 : Nat) : Int), 7, [])),
  (7, (1, ((3 : Nat) : Int), 0, 8, [])),
  (8, (45, ((91 : Nat) : Int), ((1 : Nat) : Int), 11, [])),
  (11, (31, 1, ((16 : Nat) : Int), 14, [])),
  (14, (0, (-1), 0, 15, [])),
  (15, (48, 0, 0, 0, [])),
  (16, (1, ((1 : Nat) : Int), 0, 17, [])),
  (17, (0, 0, 0, 18, [])),
  (18, (0, 2, 0, 19, [])),
  (19, (45, ((90 : Nat) : Int), ((3 : Nat) : Int), 22, [])),
  (22, (31, 1, ((28 : Nat) : Int), 25, [])),
  (25, (0, (-2), 0, 27, [])),
  (27, (48, 0, 0, 0, [])),
  (28, (1, ((2 : Nat) : Int), 0, 29, [])),
  (29, (1, ((3 : Nat) : Int), 0, 30, [])),
  (30, (32, 1, ((36 : Nat) : Int), 33, [])),
  (33, (0, (-3), 0, 35, [])),
  (35, (48, 0, 0, 0, [])),
  (36, (0, 0, 0, 37, [])),
  (37, (4, ((4 : Nat) : Int), 0, 39, [])),
  (39, (1, ((4 : Nat) : Int), 0, 41, [])),
  (41, (0, 12, 0, 43, [])),
  (43, (32, 3, ((62 : Nat) : Int), 46, [])),
  (46, (2, ((0 : Nat) : Int), 0, 47, [])),
  (47, (35, ((9 : Nat) : Int), ((17 : Nat) : Int), 50, [])),
  (50, (1, ((4 : Nat) : Int), 0, 52, [])),
  (52, (38, 1, 0, 53, [])),
  (53, (31, 0, ((62 : Nat) : Int), 56, [])),
  (56, (7, ((4 : Nat) : Int), 1, 59, [])),
  (59, (33, ((39 : Nat) : Int), 0, 0, [])),
  (62, (1, ((4 : Nat) : Int), 0, 64, [])),
  (64, (0, 12, 0, 66, [])),
  (66, (32, 1, ((72 : Nat) : Int), 69, [])),
  (69, (0, (-4), 0, 71, [])),
  (71, (48, 0, 0, 0, [])),
  (72, (2, ((0 : Nat) : Int), 0, 73, [])),
  (73, (35, ((9 : Nat) : Int), ((18 : Nat) : Int), 76, [])),
  (76, (1, ((4 : Nat) : Int), 0, 78, [])),
  (78, (1, ((1 : Nat) : Int), 0, 79, [])),
  (79, (39, 0, 0, 80, [])),
  (80, (2, ((0 : Nat) : Int), 0, 81, [])),
  (81, (35, ((9 : Nat) : Int), ((19 : Nat) : Int), 84, [])),
  (84, (1, ((4 : Nat) : Int), 0, 86, [])),
  (86, (1, ((2 : Nat) : Int), 0, 87, [])),
  (87, (39, 0, 0, 88, [])),
  (88, (2, ((0 : Nat) : Int), 0, 89, [])),
  (89, (35, ((9 : Nat) : Int), ((20 : Nat) : Int), 92, [])),
  (92, (1, ((4 : Nat) : Int), 0, 94, [])),
  (94, (1, ((3 : Nat) : Int), 0, 95, [])),
  (95, (39, 0, 0, 96, [])),
  (96, (2, ((0 : Nat) : Int), 0, 97, [])),
  (97, (35, ((9 : Nat) : Int), ((21 : Nat) : Int), 100, [])),
  (100, (1, ((4 : Nat) : Int), 0, 102, [])),
  (102, (0, 0, 0, 103, [])),
  (103, (39, 1, 0, 104, [])),
  (104, (2, ((0 : Nat) : Int), 0, 105, [])),
  (105, (35, ((9 : Nat) : Int), ((22 : Nat) : Int), 108, [])),
  (108, (1, ((4 : Nat) : Int), 0, 110, [])),
  (110, (0, (-9), 0, 112, [])),
  (112, (39, 0, 0, 113, [])),
  (113, (2, ((0 : Nat) : Int), 0, 114, [])),
  (114, (35, ((9 : Nat) : Int), ((25 : Nat) : Int), 117, [])),
  (117, (1, ((4 : Nat) : Int), 0, 119, [])),
  (119, (0, 0, 0, 120, [])),
  (120, (39, 0, 0, 121, [])),
  (121, (2, ((0 : Nat) : Int), 0, 122, [])),
  (122, (35, ((9 : Nat) : Int), ((26 : Nat) : Int), 125, [])),
  (125, (1, ((4 : Nat) : Int), 0, 127, [])),
  (127, (0, 1, 0, 128, [])),
  (128, (39, 0, 0, 129, [])),
  (129, (2, ((0 : Nat) : Int), 0, 130, [])),
  (130, (35, ((9 : Nat) : Int), ((27 : Nat) : Int), 133, [])),
  (133, (0, 8, 0, 135, [])),
  (135, (1, ((4 : Nat) : Int), 0, 137, [])),
  (137, (10, 0, 0, 138, [])),
  (138, (1, ((2 : Nat) : Int), 0, 139, [])),
  (139, (39, 0, 0, 140, [])),
  (140, (2, ((0 : Nat) : Int), 0, 141, [])),
  (141, (35, ((9 : Nat) : Int), ((28 : Nat) : Int), 144, [])),
  (144, (0, 8, 0, 146, [])),
  (146, (1, ((4 : Nat) : Int), 0, 148, [])),
  (148, (10, 0, 0, 149, [])),
  (149, (2, ((0 : Nat) : Int), 0, 150, [])),
  (150, (35, ((9 : Nat) : Int), ((12 : Nat) : Int), 153, [])),
  (153, (39, 0, 0, 154, [])),
  (154, (2, ((0 : Nat) : Int), 0, 155, [])),
  (155, (35, ((9 : Nat) : Int), ((17 : Nat) : Int), 158, [])),
  (158, (1, ((4 : Nat) : Int), 0, 160, [])),
  (160, (0, 1, 0, 161, [])),
  (161, (39, 1, 0, 162, [])),
  (162, (2, ((0 : Nat) : Int), 0, 163, [])),
  (163, (1, ((4 : Nat) : Int), 0, 165, [])),
  (165, (1, ((2 : Nat) : Int), 0, 166, [])),
  (166, (51, ((125 : Nat) : Int), ((3 : Nat) : Int), 169, [9])),
  (169, (31, 0, ((177 : Nat) : Int), 172, [])),
  (172, (1, ((4 : Nat) : Int), 0, 174, [])),
  (174, (33, ((179 : Nat) : Int), 0, 0, [])),
  (177, (0, (-9), 0, 179, [])),
  (179, (48, 0, 0, 0, []))]
theorem tk_X9_send_0 : tOk mi_X9_send ((tl_X9_send.drop 0).take 45) = true := by decide +kernel
theorem tk_X9_send_1 : tOk mi_X9_send ((tl_X9_send.drop 45).take 45) = true := by decide +kernel
theorem tk_X9_send_2 : tOk mi_X9_send ((tl_X9_send.drop 90).take 45) = true := by decide +kernel
theorem tk_X9_send : tOk mi_X9_send tl_X9_send = true := by
  refine tOk_cut 45 (by decide) (fun q hq => ?_)
  have hl : tl_X9_send.length = 101 := by decide +kernel
  rw [hl] at hq
  rcases (show q = 0 ∨ q = 1 ∨ q = 2 by omega) with rfl | rfl | rfl
  · exact tk_X9_send_0
  · exact tk_X9_send_1
  · exact tk_X9_send_2
def pm_X9_send (pc : Nat) : Option PT := if [39].contains pc then none else tl_X9_send.lookup pc
theorem pk_X9_send : ∀ pc pt, pm_X9_send pc = some pt → okPt mi_X9_send pc pt := fun pc pt h => tOk_pm tk_X9_send h
section
variable {E : ET} {g : GT} {d : Nat} {lm : Nat × Nat} {RT : RTy} {F : FT} {n : Nat} {L : LV} {st : List AV} {h : AH}
theorem r_X9_send_0 : run E g mi_X9_send d lm RT F pm_X9_send (n + 1) 0 L st h = exI E d lm RT F (run E g mi_X9_send d lm RT F pm_X9_send n) (1, ((2 : Nat) : Int), 0, 1, []) L st h := run_s rfl
theorem r_X9_send_1 : run E g mi_X9_send d lm RT F pm_X9_send (n + 1) 1 L st h = exI E d lm RT F (run E g mi_X9_send d lm RT F pm_X9_send n) (45, ((91 : Nat) : Int), ((1 : Nat) : Int), 4, []) L st h := run_s rfl
theorem r_X9_send_4 : run E g mi_X9_send d lm RT F pm_X9_send (n + 1) 4 L st h = exI E d lm RT F (run E g mi_X9_send d lm RT F pm_X9_send n) (31, 0, ((14 : Nat) : Int), 7, []) L st h := run_s rfl
theorem r_X9_send_7 : run E g mi_X9_send d lm RT F pm_X9_send (n + 1) 7 L st h = exI E d lm RT F (run E g mi_X9_send d lm RT F pm_X9_send n) (1, ((3 : Nat) : Int), 0, 8, []) L st h := run_s rfl
theorem r_X9_send_8 : run E g mi_X9_send d lm RT F pm_X9_send (n + 1) 8 L st h = exI E d lm RT F (run E g mi_X9_send d lm RT F pm_X9_send n) (45, ((91 : Nat) : Int), ((1 : Nat) : Int), 11, []) L st h := run_s rfl
theorem r_X9_send_11 : run E g mi_X9_send d lm RT F pm_X9_send (n + 1) 11 L st h = exI E d lm RT F (run E g mi_X9_send d lm RT F pm_X9_send n) (31, 1, ((16 : Nat) : Int), 14, []) L st h := run_s rfl
theorem r_X9_send_14 : run E g mi_X9_send d lm RT F pm_X9_send (n + 1) 14 L st h = exI E d lm RT F (run E g mi_X9_send d lm RT F pm_X9_send n) (0, (-1), 0, 15, []) L st h := run_s rfl
theorem r_X9_send_15 : run E g mi_X9_send d lm RT F pm_X9_send (n + 1) 15 L st h = exI E d lm RT F (run E g mi_X9_send d lm RT F pm_X9_send n) (48, 0, 0, 0, []) L st h := run_s rfl
theorem r_X9_send_16 : run E g mi_X9_send d lm RT F pm_X9_send (n + 1) 16 L st h = exI E d lm RT F (run E g mi_X9_send d lm RT F pm_X9_send n) (1, ((1 : Nat) : Int), 0, 17, []) L st h := run_s rfl
theorem r_X9_send_17 : run E g mi_X9_send d lm RT F pm_X9_send (n + 1) 17 L st h = exI E d lm RT F (run E g mi_X9_send d lm RT F pm_X9_send n) (0, 0, 0, 18, []) L st h := run_s rfl
theorem r_X9_send_18 : run E g mi_X9_send d lm RT F pm_X9_send (n + 1) 18 L st h = exI E d lm RT F (run E g mi_X9_send d lm RT F pm_X9_send n) (0, 2, 0, 19, []) L st h := run_s rfl
theorem r_X9_send_19 : run E g mi_X9_send d lm RT F pm_X9_send (n + 1) 19 L st h = exI E d lm RT F (run E g mi_X9_send d lm RT F pm_X9_send n) (45, ((90 : Nat) : Int), ((3 : Nat) : Int), 22, []) L st h := run_s rfl
theorem r_X9_send_22 : run E g mi_X9_send d lm RT F pm_X9_send (n + 1) 22 L st h = exI E d lm RT F (run E g mi_X9_send d lm RT F pm_X9_send n) (31, 1, ((28 : Nat) : Int), 25, []) L st h := run_s rfl
theorem r_X9_send_25 : run E g mi_X9_send d lm RT F pm_X9_send (n + 1) 25 L st h = exI E d lm RT F (run E g mi_X9_send d lm RT F pm_X9_send n) (0, (-2), 0, 27, []) L st h := run_s rfl
theorem r_X9_send_27 : run E g mi_X9_send d lm RT F pm_X9_send (n + 1) 27 L st h = exI E d lm RT F (run E g mi_X9_send d lm RT F pm_X9_send n) (48, 0, 0, 0, []) L st h := run_s rfl
theorem r_X9_send_28 : run E g mi_X9_send d lm RT F pm_X9_send (n + 1) 28 L st h = exI E d lm RT F (run E g mi_X9_send d lm RT F pm_X9_send n) (1, ((2 : Nat) : Int), 0, 29, []) L st h := run_s rfl
theorem r_X9_send_29 : run E g mi_X9_send d lm RT F pm_X9_send (n + 1) 29 L st h = exI E d lm RT F (run E g mi_X9_send d lm RT F pm_X9_send n) (1, ((3 : Nat) : Int), 0, 30, []) L st h := run_s rfl
theorem r_X9_send_30 : run E g mi_X9_send d lm RT F pm_X9_send (n + 1) 30 L st h = exI E d lm RT F (run E g mi_X9_send d lm RT F pm_X9_send n) (32, 1, ((36 : Nat) : Int), 33, []) L st h := run_s rfl
theorem r_X9_send_33 : run E g mi_X9_send d lm RT F pm_X9_send (n + 1) 33 L st h = exI E d lm RT F (run E g mi_X9_send d lm RT F pm_X9_send n) (0, (-3), 0, 35, []) L st h := run_s rfl
theorem r_X9_send_35 : run E g mi_X9_send d lm RT F pm_X9_send (n + 1) 35 L st h = exI E d lm RT F (run E g mi_X9_send d lm RT F pm_X9_send n) (48, 0, 0, 0, []) L st h := run_s rfl
theorem r_X9_send_36 : run E g mi_X9_send d lm RT F pm_X9_send (n + 1) 36 L st h = exI E d lm RT F (run E g mi_X9_send d lm RT F pm_X9_send n) (0, 0, 0, 37, []) L st h := run_s rfl
theorem r_X9_send_37 : run E g mi_X9_send d lm RT F pm_X9_send (n + 1) 37 L st h = exI E d lm RT F (run E g mi_X9_send d lm RT F pm_X9_send n) (4, ((4 : Nat) : Int), 0, 39, []) L st h := run_s rfl
theorem r_X9_send_39 : run E g mi_X9_send d lm RT F pm_X9_send (n + 1) 39 L st h = G E g mi_X9_send d lm RT 39 L st h := run_c rfl
theorem q_X9_send_39 (n : Nat) (hF : FOk E d F) (hx : exI E d lm RT F (run E g mi_X9_send d lm RT F pm_X9_send n) (1, ((4 : Nat) : Int), 0, 41, []) L st h) : G E g mi_X9_send d lm RT 39 L st h := sstep hF (tOk_spec tk_X9_send (by decide +kernel)) (run_sound hF pk_X9_send n) hx
theorem r_X9_send_41 : run E g mi_X9_send d lm RT F pm_X9_send (n + 1) 41 L st h = exI E d lm RT F (run E g mi_X9_send d lm RT F pm_X9_send n) (0, 12, 0, 43, []) L st h := run_s rfl
theorem r_X9_send_43 : run E g mi_X9_send d lm RT F pm_X9_send (n + 1) 43 L st h = exI E d lm RT F (run E g mi_X9_send d lm RT F pm_X9_send n) (32, 3, ((62 : Nat) : Int), 46, []) L st h := run_s rfl
theorem r_X9_send_46 : run E g mi_X9_send d lm RT F pm_X9_send (n + 1) 46 L st h = exI E d lm RT F (run E g mi_X9_send d lm RT F pm_X9_send n) (2, ((0 : Nat) : Int), 0, 47, []) L st h := run_s rfl
theorem r_X9_send_47 : run E g mi_X9_send d lm RT F pm_X9_send (n + 1) 47 L st h = exI E d lm RT F (run E g mi_X9_send d lm RT F pm_X9_send n) (35, ((9 : Nat) : Int), ((17 : Nat) : Int), 50, []) L st h := run_s rfl
theorem r_X9_send_50 : run E g mi_X9_send d lm RT F pm_X9_send (n + 1) 50 L st h = exI E d lm RT F (run E g mi_X9_send d lm RT F pm_X9_send n) (1, ((4 : Nat) : Int), 0, 52, []) L st h := run_s rfl
theorem r_X9_send_52 : run E g mi_X9_send d lm RT F pm_X9_send (n + 1) 52 L st h = exI E d lm RT F (run E g mi_X9_send d lm RT F pm_X9_send n) (38, 1, 0, 53, []) L st h := run_s rfl
theorem r_X9_send_53 : run E g mi_X9_send d lm RT F pm_X9_send (n + 1) 53 L st h = exI E d lm RT F (run E g mi_X9_send d lm RT F pm_X9_send n) (31, 0, ((62 : Nat) : Int), 56, []) L st h := run_s rfl
theorem r_X9_send_56 : run E g mi_X9_send d lm RT F pm_X9_send (n + 1) 56 L st h = exI E d lm RT F (run E g mi_X9_send d lm RT F pm_X9_send n) (7, ((4 : Nat) : Int), 1, 59, []) L st h := run_s rfl
theorem r_X9_send_59 : run E g mi_X9_send d lm RT F pm_X9_send (n + 1) 59 L st h = exI E d lm RT F (run E g mi_X9_send d lm RT F pm_X9_send n) (33, ((39 : Nat) : Int), 0, 0, []) L st h := run_s rfl
theorem r_X9_send_62 : run E g mi_X9_send d lm RT F pm_X9_send (n + 1) 62 L st h = exI E d lm RT F (run E g mi_X9_send d lm RT F pm_X9_send n) (1, ((4 : Nat) : Int), 0, 64, []) L st h := run_s rfl
theorem r_X9_send_64 : run E g mi_X9_send d lm RT F pm_X9_send (n + 1) 64 L st h = exI E d lm RT F (run E g mi_X9_send d lm RT F pm_X9_send n) (0, 12, 0, 66, []) L st h := run_s rfl
theorem r_X9_send_66 : run E g mi_X9_send d lm RT F pm_X9_send (n + 1) 66 L st h = exI E d lm RT F (run E g mi_X9_send d lm RT F pm_X9_send n) (32, 1, ((72 : Nat) : Int), 69, []) L st h := run_s rfl
theorem r_X9_send_69 : run E g mi_X9_send d lm RT F pm_X9_send (n + 1) 69 L st h = exI E d lm RT F (run E g mi_X9_send d lm RT F pm_X9_send n) (0, (-4), 0, 71, []) L st h := run_s rfl
theorem r_X9_send_71 : run E g mi_X9_send d lm RT F pm_X9_send (n + 1) 71 L st h = exI E d lm RT F (run E g mi_X9_send d lm RT F pm_X9_send n) (48, 0, 0, 0, []) L st h := run_s rfl
theorem r_X9_send_72 : run E g mi_X9_send d lm RT F pm_X9_send (n + 1) 72 L st h = exI E d lm RT F (run E g mi_X9_send d lm RT F pm_X9_send n) (2, ((0 : Nat) : Int), 0, 73, []) L st h := run_s rfl
theorem r_X9_send_73 : run E g mi_X9_send d lm RT F pm_X9_send (n + 1) 73 L st h = exI E d lm RT F (run E g mi_X9_send d lm RT F pm_X9_send n) (35, ((9 : Nat) : Int), ((18 : Nat) : Int), 76, []) L st h := run_s rfl
theorem r_X9_send_76 : run E g mi_X9_send d lm RT F pm_X9_send (n + 1) 76 L st h = exI E d lm RT F (run E g mi_X9_send d lm RT F pm_X9_send n) (1, ((4 : Nat) : Int), 0, 78, []) L st h := run_s rfl
theorem r_X9_send_78 : run E g mi_X9_send d lm RT F pm_X9_send (n + 1) 78 L st h = exI E d lm RT F (run E g mi_X9_send d lm RT F pm_X9_send n) (1, ((1 : Nat) : Int), 0, 79, []) L st h := run_s rfl
theorem r_X9_send_79 : run E g mi_X9_send d lm RT F pm_X9_send (n + 1) 79 L st h = exI E d lm RT F (run E g mi_X9_send d lm RT F pm_X9_send n) (39, 0, 0, 80, []) L st h := run_s rfl
theorem r_X9_send_80 : run E g mi_X9_send d lm RT F pm_X9_send (n + 1) 80 L st h = exI E d lm RT F (run E g mi_X9_send d lm RT F pm_X9_send n) (2, ((0 : Nat) : Int), 0, 81, []) L st h := run_s rfl
theorem r_X9_send_81 : run E g mi_X9_send d lm RT F pm_X9_send (n + 1) 81 L st h = exI E d lm RT F (run E g mi_X9_send d lm RT F pm_X9_send n) (35, ((9 : Nat) : Int), ((19 : Nat) : Int), 84, []) L st h := run_s rfl
theorem r_X9_send_84 : run E g mi_X9_send d lm RT F pm_X9_send (n + 1) 84 L st h = exI E d lm RT F (run E g mi_X9_send d lm RT F pm_X9_send n) (1, ((4 : Nat) : Int), 0, 86, []) L st h := run_s rfl
theorem r_X9_send_86 : run E g mi_X9_send d lm RT F pm_X9_send (n + 1) 86 L st h = exI E d lm RT F (run E g mi_X9_send d lm RT F pm_X9_send n) (1, ((2 : Nat) : Int), 0, 87, []) L st h := run_s rfl
theorem r_X9_send_87 : run E g mi_X9_send d lm RT F pm_X9_send (n + 1) 87 L st h = exI E d lm RT F (run E g mi_X9_send d lm RT F pm_X9_send n) (39, 0, 0, 88, []) L st h := run_s rfl
theorem r_X9_send_88 : run E g mi_X9_send d lm RT F pm_X9_send (n + 1) 88 L st h = exI E d lm RT F (run E g mi_X9_send d lm RT F pm_X9_send n) (2, ((0 : Nat) : Int), 0, 89, []) L st h := run_s rfl
theorem r_X9_send_89 : run E g mi_X9_send d lm RT F pm_X9_send (n + 1) 89 L st h = exI E d lm RT F (run E g mi_X9_send d lm RT F pm_X9_send n) (35, ((9 : Nat) : Int), ((20 : Nat) : Int), 92, []) L st h := run_s rfl
theorem r_X9_send_92 : run E g mi_X9_send d lm RT F pm_X9_send (n + 1) 92 L st h = exI E d lm RT F (run E g mi_X9_send d lm RT F pm_X9_send n) (1, ((4 : Nat) : Int), 0, 94, []) L st h := run_s rfl
theorem r_X9_send_94 : run E g mi_X9_send d lm RT F pm_X9_send (n + 1) 94 L st h = exI E d lm RT F (run E g mi_X9_send d lm RT F pm_X9_send n) (1, ((3 : Nat) : Int), 0, 95, []) L st h := run_s rfl
theorem r_X9_send_95 : run E g mi_X9_send d lm RT F pm_X9_send (n + 1) 95 L st h = exI E d lm RT F (run E g mi_X9_send d lm RT F pm_X9_send n) (39, 0, 0, 96, []) L st h := run_s rfl
theorem r_X9_send_96 : run E g mi_X9_send d lm RT F pm_X9_send (n + 1) 96 L st h = exI E d lm RT F (run E g mi_X9_send d lm RT F pm_X9_send n) (2, ((0 : Nat) : Int), 0, 97, []) L st h := run_s rfl
theorem r_X9_send_97 : run E g mi_X9_send d lm RT F pm_X9_send (n + 1) 97 L st h = exI E d lm RT F (run E g mi_X9_send d lm RT F pm_X9_send n) (35, ((9 : Nat) : Int), ((21 : Nat) : Int), 100, []) L st h := run_s rfl
theorem r_X9_send_100 : run E g mi_X9_send d lm RT F pm_X9_send (n + 1) 100 L st h = exI E d lm RT F (run E g mi_X9_send d lm RT F pm_X9_send n) (1, ((4 : Nat) : Int), 0, 102, []) L st h := run_s rfl
theorem r_X9_send_102 : run E g mi_X9_send d lm RT F pm_X9_send (n + 1) 102 L st h = exI E d lm RT F (run E g mi_X9_send d lm RT F pm_X9_send n) (0, 0, 0, 103, []) L st h := run_s rfl
theorem r_X9_send_103 : run E g mi_X9_send d lm RT F pm_X9_send (n + 1) 103 L st h = exI E d lm RT F (run E g mi_X9_send d lm RT F pm_X9_send n) (39, 1, 0, 104, []) L st h := run_s rfl
theorem r_X9_send_104 : run E g mi_X9_send d lm RT F pm_X9_send (n + 1) 104 L st h = exI E d lm RT F (run E g mi_X9_send d lm RT F pm_X9_send n) (2, ((0 : Nat) : Int), 0, 105, []) L st h := run_s rfl
theorem r_X9_send_105 : run E g mi_X9_send d lm RT F pm_X9_send (n + 1) 105 L st h = exI E d lm RT F (run E g mi_X9_send d lm RT F pm_X9_send n) (35, ((9 : Nat) : Int), ((22 : Nat) : Int), 108, []) L st h := run_s rfl
theorem r_X9_send_108 : run E g mi_X9_send d lm RT F pm_X9_send (n + 1) 108 L st h = exI E d lm RT F (run E g mi_X9_send d lm RT F pm_X9_send n) (1, ((4 : Nat) : Int), 0, 110, []) L st h := run_s rfl
theorem r_X9_send_110 : run E g mi_X9_send d lm RT F pm_X9_send (n + 1) 110 L st h = exI E d lm RT F (run E g mi_X9_send d lm RT F pm_X9_send n) (0, (-9), 0, 112, []) L st h := run_s rfl
theorem r_X9_send_112 : run E g mi_X9_send d lm RT F pm_X9_send (n + 1) 112 L st h = exI E d lm RT F (run E g mi_X9_send d lm RT F pm_X9_send n) (39, 0, 0, 113, []) L st h := run_s rfl
theorem r_X9_send_113 : run E g mi_X9_send d lm RT F pm_X9_send (n + 1) 113 L st h = exI E d lm RT F (run E g mi_X9_send d lm RT F pm_X9_send n) (2, ((0 : Nat) : Int), 0, 114, []) L st h := run_s rfl
theorem r_X9_send_114 : run E g mi_X9_send d lm RT F pm_X9_send (n + 1) 114 L st h = exI E d lm RT F (run E g mi_X9_send d lm RT F pm_X9_send n) (35, ((9 : Nat) : Int), ((25 : Nat) : Int), 117, []) L st h := run_s rfl
theorem r_X9_send_117 : run E g mi_X9_send d lm RT F pm_X9_send (n + 1) 117 L st h = exI E d lm RT F (run E g mi_X9_send d lm RT F pm_X9_send n) (1, ((4 : Nat) : Int), 0, 119, []) L st h := run_s rfl
theorem r_X9_send_119 : run E g mi_X9_send d lm RT F pm_X9_send (n + 1) 119 L st h = exI E d lm RT F (run E g mi_X9_send d lm RT F pm_X9_send n) (0, 0, 0, 120, []) L st h := run_s rfl
theorem r_X9_send_120 : run E g mi_X9_send d lm RT F pm_X9_send (n + 1) 120 L st h = exI E d lm RT F (run E g mi_X9_send d lm RT F pm_X9_send n) (39, 0, 0, 121, []) L st h := run_s rfl
theorem r_X9_send_121 : run E g mi_X9_send d lm RT F pm_X9_send (n + 1) 121 L st h = exI E d lm RT F (run E g mi_X9_send d lm RT F pm_X9_send n) (2, ((0 : Nat) : Int), 0, 122, []) L st h := run_s rfl
theorem r_X9_send_122 : run E g mi_X9_send d lm RT F pm_X9_send (n + 1) 122 L st h = exI E d lm RT F (run E g mi_X9_send d lm RT F pm_X9_send n) (35, ((9 : Nat) : Int), ((26 : Nat) : Int), 125, []) L st h := run_s rfl
theorem r_X9_send_125 : run E g mi_X9_send d lm RT F pm_X9_send (n + 1) 125 L st h = exI E d lm RT F (run E g mi_X9_send d lm RT F pm_X9_send n) (1, ((4 : Nat) : Int), 0, 127, []) L st h := run_s rfl
theorem r_X9_send_127 : run E g mi_X9_send d lm RT F pm_X9_send (n + 1) 127 L st h = exI E d lm RT F (run E g mi_X9_send d lm RT F pm_X9_send n) (0, 1, 0, 128, []) L st h := run_s rfl
theorem r_X9_send_128 : run E g mi_X9_send d lm RT F pm_X9_send (n + 1) 128 L st h = exI E d lm RT F (run E g mi_X9_send d lm RT F pm_X9_send n) (39, 0, 0, 129, []) L st h := run_s rfl
theorem r_X9_send_129 : run E g mi_X9_send d lm RT F pm_X9_send (n + 1) 129 L st h = exI E d lm RT F (run E g mi_X9_send d lm RT F pm_X9_send n) (2, ((0 : Nat) : Int), 0, 130, []) L st h := run_s rfl
theorem r_X9_send_130 : run E g mi_X9_send d lm RT F pm_X9_send (n + 1) 130 L st h = exI E d lm RT F (run E g mi_X9_send d lm RT F pm_X9_send n) (35, ((9 : Nat) : Int), ((27 : Nat) : Int), 133, []) L st h := run_s rfl
theorem r_X9_send_133 : run E g mi_X9_send d lm RT F pm_X9_send (n + 1) 133 L st h = exI E d lm RT F (run E g mi_X9_send d lm RT F pm_X9_send n) (0, 8, 0, 135, []) L st h := run_s rfl
theorem r_X9_send_135 : run E g mi_X9_send d lm RT F pm_X9_send (n + 1) 135 L st h = exI E d lm RT F (run E g mi_X9_send d lm RT F pm_X9_send n) (1, ((4 : Nat) : Int), 0, 137, []) L st h := run_s rfl
theorem r_X9_send_137 : run E g mi_X9_send d lm RT F pm_X9_send (n + 1) 137 L st h = exI E d lm RT F (run E g mi_X9_send d lm RT F pm_X9_send n) (10, 0, 0, 138, []) L st h := run_s rfl
theorem r_X9_send_138 : run E g mi_X9_send d lm RT F pm_X9_send (n + 1) 138 L st h = exI E d lm RT F (run E g mi_X9_send d lm RT F pm_X9_send n) (1, ((2 : Nat) : Int), 0, 139, []) L st h := run_s rfl
theorem r_X9_send_139 : run E g mi_X9_send d lm RT F pm_X9_send (n + 1) 139 L st h = exI E d lm RT F (run E g mi_X9_send d lm RT F pm_X9_send n) (39, 0, 0, 140, []) L st h := run_s rfl
theorem r_X9_send_140 : run E g mi_X9_send d lm RT F pm_X9_send (n + 1) 140 L st h = exI E d lm RT F (run E g mi_X9_send d lm RT F pm_X9_send n) (2, ((0 : Nat) : Int), 0, 141, []) L st h := run_s rfl
theorem r_X9_send_141 : run E g mi_X9_send d lm RT F pm_X9_send (n + 1) 141 L st h = exI E d lm RT F (run E g mi_X9_send d lm RT F pm_X9_send n) (35, ((9 : Nat) : Int), ((28 : Nat) : Int), 144, []) L st h := run_s rfl
theorem r_X9_send_144 : run E g mi_X9_send d lm RT F pm_X9_send (n + 1) 144 L st h = exI E d lm RT F (run E g mi_X9_send d lm RT F pm_X9_send n) (0, 8, 0, 146, []) L st h := run_s rfl
theorem r_X9_send_146 : run E g mi_X9_send d lm RT F pm_X9_send (n + 1) 146 L st h = exI E d lm RT F (run E g mi_X9_send d lm RT F pm_X9_send n) (1, ((4 : Nat) : Int), 0, 148, []) L st h := run_s rfl
theorem r_X9_send_148 : run E g mi_X9_send d lm RT F pm_X9_send (n + 1) 148 L st h = exI E d lm RT F (run E g mi_X9_send d lm RT F pm_X9_send n) (10, 0, 0, 149, []) L st h := run_s rfl
theorem r_X9_send_149 : run E g mi_X9_send d lm RT F pm_X9_send (n + 1) 149 L st h = exI E d lm RT F (run E g mi_X9_send d lm RT F pm_X9_send n) (2, ((0 : Nat) : Int), 0, 150, []) L st h := run_s rfl
theorem r_X9_send_150 : run E g mi_X9_send d lm RT F pm_X9_send (n + 1) 150 L st h = exI E d lm RT F (run E g mi_X9_send d lm RT F pm_X9_send n) (35, ((9 : Nat) : Int), ((12 : Nat) : Int), 153, []) L st h := run_s rfl
theorem r_X9_send_153 : run E g mi_X9_send d lm RT F pm_X9_send (n + 1) 153 L st h = exI E d lm RT F (run E g mi_X9_send d lm RT F pm_X9_send n) (39, 0, 0, 154, []) L st h := run_s rfl
theorem r_X9_send_154 : run E g mi_X9_send d lm RT F pm_X9_send (n + 1) 154 L st h = exI E d lm RT F (run E g mi_X9_send d lm RT F pm_X9_send n) (2, ((0 : Nat) : Int), 0, 155, []) L st h := run_s rfl
theorem r_X9_send_155 : run E g mi_X9_send d lm RT F pm_X9_send (n + 1) 155 L st h = exI E d lm RT F (run E g mi_X9_send d lm RT F pm_X9_send n) (35, ((9 : Nat) : Int), ((17 : Nat) : Int), 158, []) L st h := run_s rfl
theorem r_X9_send_158 : run E g mi_X9_send d lm RT F pm_X9_send (n + 1) 158 L st h = exI E d lm RT F (run E g mi_X9_send d lm RT F pm_X9_send n) (1, ((4 : Nat) : Int), 0, 160, []) L st h := run_s rfl
theorem r_X9_send_160 : run E g mi_X9_send d lm RT F pm_X9_send (n + 1) 160 L st h = exI E d lm RT F (run E g mi_X9_send d lm RT F pm_X9_send n) (0, 1, 0, 161, []) L st h := run_s rfl
theorem r_X9_send_161 : run E g mi_X9_send d lm RT F pm_X9_send (n + 1) 161 L st h = exI E d lm RT F (run E g mi_X9_send d lm RT F pm_X9_send n) (39, 1, 0, 162, []) L st h := run_s rfl
theorem r_X9_send_162 : run E g mi_X9_send d lm RT F pm_X9_send (n + 1) 162 L st h = exI E d lm RT F (run E g mi_X9_send d lm RT F pm_X9_send n) (2, ((0 : Nat) : Int), 0, 163, []) L st h := run_s rfl
theorem r_X9_send_163 : run E g mi_X9_send d lm RT F pm_X9_send (n + 1) 163 L st h = exI E d lm RT F (run E g mi_X9_send d lm RT F pm_X9_send n) (1, ((4 : Nat) : Int), 0, 165, []) L st h := run_s rfl
theorem r_X9_send_165 : run E g mi_X9_send d lm RT F pm_X9_send (n + 1) 165 L st h = exI E d lm RT F (run E g mi_X9_send d lm RT F pm_X9_send n) (1, ((2 : Nat) : Int), 0, 166, []) L st h := run_s rfl
theorem r_X9_send_166 : run E g mi_X9_send d lm RT F pm_X9_send (n + 1) 166 L st h = exI E d lm RT F (run E g mi_X9_send d lm RT F pm_X9_send n) (51, ((125 : Nat) : Int), ((3 : Nat) : Int), 169, [9]) L st h := run_s rfl
theorem r_X9_send_169 : run E g mi_X9_send d lm RT F pm_X9_send (n + 1) 169 L st h = exI E d lm RT F (run E g mi_X9_send d lm RT F pm_X9_send n) (31, 0, ((177 : Nat) : Int), 172, []) L st h := run_s rfl
theorem r_X9_send_172 : run E g mi_X9_send d lm RT F pm_X9_send (n + 1) 172 L st h = exI E d lm RT F (run E g mi_X9_send d lm RT F pm_X9_send n) (1, ((4 : Nat) : Int), 0, 174, []) L st h := run_s rfl
theorem r_X9_send_174 : run E g mi_X9_send d lm RT F pm_X9_send (n + 1) 174 L st h = exI E d lm RT F (run E g mi_X9_send d lm RT F pm_X9_send n) (33, ((179 : Nat) : Int), 0, 0, []) L st h := run_s rfl
theorem r_X9_send_177 : run E g mi_X9_send d lm RT F pm_X9_send (n + 1) 177 L st h = exI E d lm RT F (run E g mi_X9_send d lm RT F pm_X9_send n) (0, (-9), 0, 179, []) L st h := run_s rfl
theorem r_X9_send_179 : run E g mi_X9_send d lm RT F pm_X9_send (n + 1) 179 L st h = exI E d lm RT F (run E g mi_X9_send d lm RT F pm_X9_send n) (48, 0, 0, 0, []) L st h := run_s rfl
theorem e_X9_send (n : Nat) {pc : Nat} (hF : FOk E d F) (hx : run E g mi_X9_send d lm RT F pm_X9_send n pc L st h) : G E g mi_X9_send d lm RT pc L st h := run_sound hF pk_X9_send n pc L st h hx
end
def mi_X9_remembers : MI := (9, cX9_remembers, 4, 4, false)
theorem mo_X9_remembers : miOk mi_X9_remembers (mt 127) = true := by decide +kernel
def tl_X9_remembers : List (Nat × PT) := [(0, (2, ((0 : Nat) : Int), 0, 1, [])),
  (1, (1, ((1 : Nat) : Int), 0, 2, [])),
  (2, (1, ((2 : Nat) : Int), 0, 3, [])),
  (3, (51, ((121 : Nat) : Int), ((3 : Nat) : Int), 6, [9])),
  (6, (4, ((3 : Nat) : Int), 0, 7, [])),
  (7, (1, ((3 : Nat) : Int), 0, 8, [])),
  (8, (0, (-9), 0, 10, [])),
  (10, (32, 0, ((23 : Nat) : Int), 13, [])),
  (13, (2, ((0 : Nat) : Int), 0, 14, [])),
  (14, (35, ((9 : Nat) : Int), ((26 : Nat) : Int), 17, [])),
  (17, (1, ((1 : Nat) : Int), 0, 18, [])),
  (18, (1, ((3 : Nat) : Int), 0, 19, [])),
  (19, (0, 1, 0, 20, [])),
  (20, (8, 0, 0, 21, [])),
  (21, (39, 0, 0, 22, [])),
  (22, (48, 4, 0, 0, [])),
  (23, (2, ((0 : Nat) : Int), 0, 24, [])),
  (24, (35, ((9 : Nat) : Int), ((27 : Nat) : Int), 27, [])),
  (27, (0, 8, 0, 29, [])),
  (29, (1, ((1 : Nat) : Int), 0, 30, [])),
  (30, (10, 0, 0, 31, [])),
  (31, (2, ((0 : Nat) : Int), 0, 32, [])),
  (32, (35, ((9 : Nat) : Int), ((26 : Nat) : Int), 35, [])),
  (35, (1, ((1 : Nat) : Int), 0, 36, [])),
  (36, (38, 0, 0, 37, [])),
  (37, (8, 0, 0, 38, [])),
  (38, (1, ((2 : Nat) : Int), 0, 39, [])),
  (39, (39, 0, 0, 40, [])),
  (40, (2, ((0 : Nat) : Int), 0, 41, [])),
  (41, (35, ((9 : Nat) : Int), ((28 : Nat) : Int), 44, [])),
  (44, (0, 8, 0, 46, [])),
  (46, (1, ((1 : Nat) : Int), 0, 47, [])),
  (47, (10, 0, 0, 48, [])),
  (48, (2, ((0 : Nat) : Int), 0, 49, [])),
  (49, (35, ((9 : Nat) : Int), ((26 : Nat) : Int), 52, [])),
  (52, (1, ((1 : Nat) : Int), 0, 53, [])),
  (53, (38, 0, 0, 54, [])),
  (54, (8, 0, 0, 55, [])),
  (55, (2, ((0 : Nat) : Int), 0, 56, [])),
  (56, (35, ((9 : Nat) : Int), ((12 : Nat) : Int), 59, [])),
  (59, (39, 0, 0, 60, [])),
  (60, (2, ((0 : Nat) : Int), 0, 61, [])),
  (61, (35, ((9 : Nat) : Int), ((26 : Nat) : Int), 64, [])),
  (64, (1, ((1 : Nat) : Int), 0, 65, [])),
  (65, (29, 0, 0, 66, [])),
  (66, (38, 0, 0, 67, [])),
  (67, (0, 1, 0, 68, [])),
  (68, (8, 0, 0, 69, [])),
  (69, (39, 0, 0, 70, [])),
  (70, (48, 4, 0, 0, []))]
theorem tk_X9_remembers_0 : tOk mi_X9_remembers ((tl_X9_remembers.drop 0).take 45) = true := by decide +kernel
theorem tk_X9_remembers_1 : tOk mi_X9_remembers ((tl_X9_remembers.drop 45).take 45) = true := by decide +kernel
theorem tk_X9_remembers : tOk mi_X9_remembers tl_X9_remembers = true := by
  refine tOk_cut 45 (by decide) (fun q hq => ?_)
  have hl : tl_X9_remembers.length = 50 := by decide +kernel
  rw [hl] at hq
  rcases (show q = 0 ∨ q = 1 by omega) with rfl | rfl
  · exact tk_X9_remembers_0
  · exact tk_X9_remembers_1
def pm_X9_remembers (pc : Nat) : Option PT := if [].contains pc then none else tl_X9_remembers.lookup pc
theorem pk_X9_remembers : ∀ pc pt, pm_X9_remembers pc = some pt → okPt mi_X9_remembers pc pt := fun pc pt h => tOk_pm tk_X9_remembers h
section
variable {E : ET} {g : GT} {d : Nat} {lm : Nat × Nat} {RT : RTy} {F : FT} {n : Nat} {L : LV} {st : List AV} {h : AH}
theorem r_X9_remembers_0 : run E g mi_X9_remembers d lm RT F pm_X9_remembers (n + 1) 0 L st h = exI E d lm RT F (run E g mi_X9_remembers d lm RT F pm_X9_remembers n) (2, ((0 : Nat) : Int), 0, 1, []) L st h := run_s rfl
theorem r_X9_remembers_1 : run E g mi_X9_remembers d lm RT F pm_X9_remembers (n + 1) 1 L st h = exI E d lm RT F (run E g mi_X9_remembers d lm RT F pm_X9_remembers n) (1, ((1 : Nat) : Int), 0, 2, []) L st h := run_s rfl
theorem r_X9_remembers_2 : run E g mi_X9_remembers d lm RT F pm_X9_remembers (n + 1) 2 L st h = exI E d lm RT F (run E g mi_X9_remembers d lm RT F pm_X9_remembers n) (1, ((2 : Nat) : Int), 0, 3, []) L st h := run_s rfl
theorem r_X9_remembers_3 : run E g mi_X9_remembers d lm RT F pm_X9_remembers (n + 1) 3 L st h = exI E d lm RT F (run E g mi_X9_remembers d lm RT F pm_X9_remembers n) (51, ((121 : Nat) : Int), ((3 : Nat) : Int), 6, [9]) L st h := run_s rfl
theorem r_X9_remembers_6 : run E g mi_X9_remembers d lm RT F pm_X9_remembers (n + 1) 6 L st h = exI E d lm RT F (run E g mi_X9_remembers d lm RT F pm_X9_remembers n) (4, ((3 : Nat) : Int), 0, 7, []) L st h := run_s rfl
theorem r_X9_remembers_7 : run E g mi_X9_remembers d lm RT F pm_X9_remembers (n + 1) 7 L st h = exI E d lm RT F (run E g mi_X9_remembers d lm RT F pm_X9_remembers n) (1, ((3 : Nat) : Int), 0, 8, []) L st h := run_s rfl
theorem r_X9_remembers_8 : run E g mi_X9_remembers d lm RT F pm_X9_remembers (n + 1) 8 L st h = exI E d lm RT F (run E g mi_X9_remembers d lm RT F pm_X9_remembers n) (0, (-9), 0, 10, []) L st h := run_s rfl
theorem r_X9_remembers_10 : run E g mi_X9_remembers d lm RT F pm_X9_remembers (n + 1) 10 L st h = exI E d lm RT F (run E g mi_X9_remembers d lm RT F pm_X9_remembers n) (32, 0, ((23 : Nat) : Int), 13, []) L st h := run_s rfl
theorem r_X9_remembers_13 : run E g mi_X9_remembers d lm RT F pm_X9_remembers (n + 1) 13 L st h = exI E d lm RT F (run E g mi_X9_remembers d lm RT F pm_X9_remembers n) (2, ((0 : Nat) : Int), 0, 14, []) L st h := run_s rfl
theorem r_X9_remembers_14 : run E g mi_X9_remembers d lm RT F pm_X9_remembers (n + 1) 14 L st h = exI E d lm RT F (run E g mi_X9_remembers d lm RT F pm_X9_remembers n) (35, ((9 : Nat) : Int), ((26 : Nat) : Int), 17, []) L st h := run_s rfl
theorem r_X9_remembers_17 : run E g mi_X9_remembers d lm RT F pm_X9_remembers (n + 1) 17 L st h = exI E d lm RT F (run E g mi_X9_remembers d lm RT F pm_X9_remembers n) (1, ((1 : Nat) : Int), 0, 18, []) L st h := run_s rfl
theorem r_X9_remembers_18 : run E g mi_X9_remembers d lm RT F pm_X9_remembers (n + 1) 18 L st h = exI E d lm RT F (run E g mi_X9_remembers d lm RT F pm_X9_remembers n) (1, ((3 : Nat) : Int), 0, 19, []) L st h := run_s rfl
theorem r_X9_remembers_19 : run E g mi_X9_remembers d lm RT F pm_X9_remembers (n + 1) 19 L st h = exI E d lm RT F (run E g mi_X9_remembers d lm RT F pm_X9_remembers n) (0, 1, 0, 20, []) L st h := run_s rfl
theorem r_X9_remembers_20 : run E g mi_X9_remembers d lm RT F pm_X9_remembers (n + 1) 20 L st h = exI E d lm RT F (run E g mi_X9_remembers d lm RT F pm_X9_remembers n) (8, 0, 0, 21, []) L st h := run_s rfl
theorem r_X9_remembers_21 : run E g mi_X9_remembers d lm RT F pm_X9_remembers (n + 1) 21 L st h = exI E d lm RT F (run E g mi_X9_remembers d lm RT F pm_X9_remembers n) (39, 0, 0, 22, []) L st h := run_s rfl
theorem r_X9_remembers_22 : run E g mi_X9_remembers d lm RT F pm_X9_remembers (n + 1) 22 L st h = exI E d lm RT F (run E g mi_X9_remembers d lm RT F pm_X9_remembers n) (48, 4, 0, 0, []) L st h := run_s rfl
theorem r_X9_remembers_23 : run E g mi_X9_remembers d lm RT F pm_X9_remembers (n + 1) 23 L st h = exI E d lm RT F (run E g mi_X9_remembers d lm RT F pm_X9_remembers n) (2, ((0 : Nat) : Int), 0, 24, []) L st h := run_s rfl
theorem r_X9_remembers_24 : run E g mi_X9_remembers d lm RT F pm_X9_remembers (n + 1) 24 L st h = exI E d lm RT F (run E g mi_X9_remembers d lm RT F pm_X9_remembers n) (35, ((9 : Nat) : Int), ((27 : Nat) : Int), 27, []) L st h := run_s rfl
theorem r_X9_remembers_27 : run E g mi_X9_remembers d lm RT F pm_X9_remembers (n + 1) 27 L st h = exI E d lm RT F (run E g mi_X9_remembers d lm RT F pm_X9_remembers n) (0, 8, 0, 29, []) L st h := run_s rfl
theorem r_X9_remembers_29 : run E g mi_X9_remembers d lm RT F pm_X9_remembers (n + 1) 29 L st h = exI E d lm RT F (run E g mi_X9_remembers d lm RT F pm_X9_remembers n) (1, ((1 : Nat) : Int), 0, 30, []) L st h := run_s rfl
theorem r_X9_remembers_30 : run E g mi_X9_remembers d lm RT F pm_X9_remembers (n + 1) 30 L st h = exI E d lm RT F (run E g mi_X9_remembers d lm RT F pm_X9_remembers n) (10, 0, 0, 31, []) L st h := run_s rfl
theorem r_X9_remembers_31 : run E g mi_X9_remembers d lm RT F pm_X9_remembers (n + 1) 31 L st h = exI E d lm RT F (run E g mi_X9_remembers d lm RT F pm_X9_remembers n) (2, ((0 : Nat) : Int), 0, 32, []) L st h := run_s rfl
theorem r_X9_remembers_32 : run E g mi_X9_remembers d lm RT F pm_X9_remembers (n + 1) 32 L st h = exI E d lm RT F (run E g mi_X9_remembers d lm RT F pm_X9_remembers n) (35, ((9 : Nat) : Int), ((26 : Nat) : Int), 35, []) L st h := run_s rfl
theorem r_X9_remembers_35 : run E g mi_X9_remembers d lm RT F pm_X9_remembers (n + 1) 35 L st h = exI E d lm RT F (run E g mi_X9_remembers d lm RT F pm_X9_remembers n) (1, ((1 : Nat) : Int), 0, 36, []) L st h := run_s rfl
theorem r_X9_remembers_36 : run E g mi_X9_remembers d lm RT F pm_X9_remembers (n + 1) 36 L st h = exI E d lm RT F (run E g mi_X9_remembers d lm RT F pm_X9_remembers n) (38, 0, 0, 37, []) L st h := run_s rfl
theorem r_X9_remembers_37 : run E g mi_X9_remembers d lm RT F pm_X9_remembers (n + 1) 37 L st h = exI E d lm RT F (run E g mi_X9_remembers d lm RT F pm_X9_remembers n) (8, 0, 0, 38, []) L st h := run_s rfl
theorem r_X9_remembers_38 : run E g mi_X9_remembers d lm RT F pm_X9_remembers (n + 1) 38 L st h = exI E d lm RT F (run E g mi_X9_remembers d lm RT F pm_X9_remembers n) (1, ((2 : Nat) : Int), 0, 39, []) L st h := run_s rfl
theorem r_X9_remembers_39 : run E g mi_X9_remembers d lm RT F pm_X9_remembers (n + 1) 39 L st h = exI E d lm RT F (run E g mi_X9_remembers d lm RT F pm_X9_remembers n) (39, 0, 0, 40, []) L st h := run_s rfl
theorem r_X9_remembers_40 : run E g mi_X9_remembers d lm RT F pm_X9_remembers (n + 1) 40 L st h = exI E d lm RT F (run E g mi_X9_remembers d lm RT F pm_X9_remembers n) (2, ((0 : Nat) : Int), 0, 41, []) L st h := run_s rfl
theorem r_X9_remembers_41 : run E g mi_X9_remembers d lm RT F pm_X9_remembers (n + 1) 41 L st h = exI E d lm RT F (run E g mi_X9_remembers d lm RT F pm_X9_remembers n) (35, ((9 : Nat) : Int), ((28 : Nat) : Int), 44, []) L st h := run_s rfl
theorem r_X9_remembers_44 : run E g mi_X9_remembers d lm RT F pm_X9_remembers (n + 1) 44 L st h = exI E d lm RT F (run E g mi_X9_remembers d lm RT F pm_X9_remembers n) (0, 8, 0, 46, []) L st h := run_s rfl
theorem r_X9_remembers_46 : run E g mi_X9_remembers d lm RT F pm_X9_remembers (n + 1) 46 L st h = exI E d lm RT F (run E g mi_X9_remembers d lm RT F pm_X9_remembers n) (1, ((1 : Nat) : Int), 0, 47, []) L st h := run_s rfl
theorem r_X9_remembers_47 : run E g mi_X9_remembers d lm RT F pm_X9_remembers (n + 1) 47 L st h = exI E d lm RT F (run E g mi_X9_remembers d lm RT F pm_X9_remembers n) (10, 0, 0, 48, []) L st h := run_s rfl
theorem r_X9_remembers_48 : run E g mi_X9_remembers d lm RT F pm_X9_remembers (n + 1) 48 L st h = exI E d lm RT F (run E g mi_X9_remembers d lm RT F pm_X9_remembers n) (2, ((0 : Nat) : Int), 0, 49, []) L st h := run_s rfl
theorem r_X9_remembers_49 : run E g mi_X9_remembers d lm RT F pm_X9_remembers (n + 1) 49 L st h = exI E d lm RT F (run E g mi_X9_remembers d lm RT F pm_X9_remembers n) (35, ((9 : Nat) : Int), ((26 : Nat) : Int), 52, []) L st h := run_s rfl
theorem r_X9_remembers_52 : run E g mi_X9_remembers d lm RT F pm_X9_remembers (n + 1) 52 L st h = exI E d lm RT F (run E g mi_X9_remembers d lm RT F pm_X9_remembers n) (1, ((1 : Nat) : Int), 0, 53, []) L st h := run_s rfl
theorem r_X9_remembers_53 : run E g mi_X9_remembers d lm RT F pm_X9_remembers (n + 1) 53 L st h = exI E d lm RT F (run E g mi_X9_remembers d lm RT F pm_X9_remembers n) (38, 0, 0, 54, []) L st h := run_s rfl
theorem r_X9_remembers_54 : run E g mi_X9_remembers d lm RT F pm_X9_remembers (n + 1) 54 L st h = exI E d lm RT F (run E g mi_X9_remembers d lm RT F pm_X9_remembers n) (8, 0, 0, 55, []) L st h := run_s rfl
theorem r_X9_remembers_55 : run E g mi_X9_remembers d lm RT F pm_X9_remembers (n + 1) 55 L st h = exI E d lm RT F (run E g mi_X9_remembers d lm RT F pm_X9_remembers n) (2, ((0 : Nat) : Int), 0, 56, []) L st h := run_s rfl
theorem r_X9_remembers_56 : run E g mi_X9_remembers d lm RT F pm_X9_remembers (n + 1) 56 L st h = exI E d lm RT F (run E g mi_X9_remembers d lm RT F pm_X9_remembers n) (35, ((9 : Nat) : Int), ((12 : Nat) : Int), 59, []) L st h := run_s rfl
theorem r_X9_remembers_59 : run E g mi_X9_remembers d lm RT F pm_X9_remembers (n + 1) 59 L st h = exI E d lm RT F (run E g mi_X9_remembers d lm RT F pm_X9_remembers n) (39, 0, 0, 60, []) L st h := run_s rfl
theorem r_X9_remembers_60 : run E g mi_X9_remembers d lm RT F pm_X9_remembers (n + 1) 60 L st h = exI E d lm RT F (run E g mi_X9_remembers d lm RT F pm_X9_remembers n) (2, ((0 : Nat) : Int), 0, 61, []) L st h := run_s rfl
theorem r_X9_remembers_61 : run E g mi_X9_remembers d lm RT F pm_X9_remembers (n + 1) 61 L st h = exI E d lm RT F (run E g mi_X9_remembers d lm RT F pm_X9_remembers n) (35, ((9 : Nat) : Int), ((26 : Nat) : Int), 64, []) L st h := run_s rfl
theorem r_X9_remembers_64 : run E g mi_X9_remembers d lm RT F pm_X9_remembers (n + 1) 64 L st h = exI E d lm RT F (run E g mi_X9_remembers d lm RT F pm_X9_remembers n) (1, ((1 : Nat) : Int), 0, 65, []) L st h := run_s rfl
theorem r_X9_remembers_65 : run E g mi_X9_remembers d lm RT F pm_X9_remembers (n + 1) 65 L st h = exI E d lm RT F (run E g mi_X9_remembers d lm RT F pm_X9_remembers n) (29, 0, 0, 66, []) L st h := run_s rfl
theorem r_X9_remembers_66 : run E g mi_X9_remembers d lm RT F pm_X9_remembers (n + 1) 66 L st h = exI E d lm RT F (run E g mi_X9_remembers d lm RT F pm_X9_remembers n) (38, 0, 0, 67, []) L st h := run_s rfl
theorem r_X9_remembers_67 : run E g mi_X9_remembers d lm RT F pm_X9_remembers (n + 1) 67 L st h = exI E d lm RT F (run E g mi_X9_remembers d lm RT F pm_X9_remembers n) (0, 1, 0, 68, []) L st h := run_s rfl
theorem r_X9_remembers_68 : run E g mi_X9_remembers d lm RT F pm_X9_remembers (n + 1) 68 L st h = exI E d lm RT F (run E g mi_X9_remembers d lm RT F pm_X9_remembers n) (8, 0, 0, 69, []) L st h := run_s rfl
theorem r_X9_remembers_69 : run E g mi_X9_remembers d lm RT F pm_X9_remembers (n + 1) 69 L st h = exI E d lm RT F (run E g mi_X9_remembers d lm RT F pm_X9_remembers n) (39, 0, 0, 70, []) L st h := run_s rfl
theorem r_X9_remembers_70 : run E g mi_X9_remembers d lm RT F pm_X9_remembers (n + 1) 70 L st h = exI E d lm RT F (run E g mi_X9_remembers d lm RT F pm_X9_remembers n) (48, 4, 0, 0, []) L st h := run_s rfl
theorem e_X9_remembers (n : Nat) {pc : Nat} (hF : FOk E d F) (hx : run E g mi_X9_remembers d lm RT F pm_X9_remembers n pc L st h) : G E g mi_X9_remembers d lm RT pc L st h := run_sound hF pk_X9_remembers n pc L st h hx
end
def mi_X9_goesBack : MI := (9, cX9_goesBack, 5, 4, false)
theorem mo_X9_goesBack : miOk mi_X9_goesBack (mt 128) = true := by decide +kernel
def tl_X9_goesBack : List (Nat × PT) := [(0, (2, ((0 : Nat) : Int), 0, 1, [])),
  (1, (35, ((9 : Nat) : Int), ((27 : Nat) : Int), 4, [])),
  (4, (0, 8, 0, 6, [])),
  (6, (1, ((1 : Nat) : Int), 0, 7, [])),
  (7, (10, 0, 0, 8, [])),
  (8, (2, ((0 : Nat) : Int), 0, 9, [])),
  (9, (35, ((9 : Nat) : Int), ((29 : Nat) : Int), 12, [])),
  (12, (1, ((1 : Nat) : Int), 0, 13, [])),
  (13, (38, 0, 0, 14, [])),
  (14, (8, 0, 0, 15, [])),
  (15, (38, 0, 0, 16, [])),
  (16, (4, ((2 : Nat) : Int), 0, 17, [])),
  (17, (2, ((0 : Nat) : Int), 0, 18, [])),
  (18, (35, ((9 : Nat) : Int), ((27 : Nat) : Int), 21, [])),
  (21, (0, 8, 0, 23, [])),
  (23, (1, ((1 : Nat) : Int), 0, 24, [])),
  (24, (10, 0, 0, 25, [])),
  (25, (2, ((0 : Nat) : Int), 0, 26, [])),
  (26, (35, ((9 : Nat) : Int), ((29 : Nat) : Int), 29, [])),
  (29, (1, ((1 : Nat) : Int), 0, 30, [])),
  (30, (38, 0, 0, 31, [])),
  (31, (8, 0, 0, 32, [])),
  (32, (0, 1, 0, 33, [])),
  (33, (9, 0, 0, 34, [])),
  (34, (38, 0, 0, 35, [])),
  (35, (4, ((3 : Nat) : Int), 0, 36, [])),
  (36, (2, ((0 : Nat) : Int), 0, 37, [])),
  (37, (35, ((9 : Nat) : Int), ((4 : Nat) : Int), 40, [])),
  (40, (0, 8, 0, 42, [])),
  (42, (1, ((2 : Nat) : Int), 0, 43, [])),
  (43, (10, 0, 0, 44, [])),
  (44, (1, ((3 : Nat) : Int), 0, 45, [])),
  (45, (8, 0, 0, 46, [])),
  (46, (38, 0, 0, 47, [])),
  (47, (4, ((4 : Nat) : Int), 0, 49, [])),
  (49, (1, ((4 : Nat) : Int), 0, 51, [])),
  (51, (0, (-9), 0, 53, [])),
  (53, (32, 1, ((62 : Nat) : Int), 56, [])),
  (56, (2, ((0 : Nat) : Int), 0, 57, [])),
  (57, (1, ((1 : Nat) : Int), 0, 58, [])),
  (58, (51, ((120 : Nat) : Int), ((2 : Nat) : Int), 61, [9])),
  (61, (48, 4, 0, 0, [])),
  (62, (2, ((0 : Nat) : Int), 0, 63, [])),
  (63, (35, ((9 : Nat) : Int), ((22 : Nat) : Int), 66, [])),
  (66, (1, ((1 : Nat) : Int), 0, 67, [])),
  (67, (1, ((4 : Nat) : Int), 0, 69, [])),
  (69, (39, 0, 0, 70, [])),
  (70, (2, ((0 : Nat) : Int), 0, 71, [])),
  (71, (35, ((9 : Nat) : Int), ((23 : Nat) : Int), 74, [])),
  (74, (1, ((1 : Nat) : Int), 0, 75, [])),
  (75, (1, ((3 : Nat) : Int), 0, 76, [])),
  (76, (39, 0, 0, 77, [])),
  (77, (2, ((0 : Nat) : Int), 0, 78, [])),
  (78, (35, ((9 : Nat) : Int), ((24 : Nat) : Int), 81, [])),
  (81, (1, ((1 : Nat) : Int), 0, 82, [])),
  (82, (2, ((0 : Nat) : Int), 0, 83, [])),
  (83, (35, ((9 : Nat) : Int), ((12 : Nat) : Int), 86, [])),
  (86, (0, 1, 0, 87, [])),
  (87, (8, 0, 0, 88, [])),
  (88, (39, 0, 0, 89, [])),
  (89, (48, 4, 0, 0, []))]
theorem tk_X9_goesBack_0 : tOk mi_X9_goesBack ((tl_X9_goesBack.drop 0).take 45) = true := by decide +kernel
theorem tk_X9_goesBack_1 : tOk mi_X9_goesBack ((tl_X9_goesBack.drop 45).take 45) = true := by decide +kernel
theorem tk_X9_goesBack : tOk mi_X9_goesBack tl_X9_goesBack = true := by
  refine tOk_cut 45 (by decide) (fun q hq => ?_)
  have hl : tl_X9_goesBack.length = 61 := by decide +kernel
  rw [hl] at hq
  rcases (show q = 0 ∨ q = 1 by omega) with rfl | rfl
  · exact tk_X9_goesBack_0
  · exact tk_X9_goesBack_1
def pm_X9_goesBack (pc : Nat) : Option PT := if [].contains pc then none else tl_X9_goesBack.lookup pc
theorem pk_X9_goesBack : ∀ pc pt, pm_X9_goesBack pc = some pt → okPt mi_X9_goesBack pc pt := fun pc pt h => tOk_pm tk_X9_goesBack h
section
variable {E : ET} {g : GT} {d : Nat} {lm : Nat × Nat} {RT : RTy} {F : FT} {n : Nat} {L : LV} {st : List AV} {h : AH}
theorem r_X9_goesBack_0 : run E g mi_X9_goesBack d lm RT F pm_X9_goesBack (n + 1) 0 L st h = exI E d lm RT F (run E g mi_X9_goesBack d lm RT F pm_X9_goesBack n) (2, ((0 : Nat) : Int), 0, 1, []) L st h := run_s rfl
theorem r_X9_goesBack_1 : run E g mi_X9_goesBack d lm RT F pm_X9_goesBack (n + 1) 1 L st h = exI E d lm RT F (run E g mi_X9_goesBack d lm RT F pm_X9_goesBack n) (35, ((9 : Nat) : Int), ((27 : Nat) : Int), 4, []) L st h := run_s rfl
theorem r_X9_goesBack_4 : run E g mi_X9_goesBack d lm RT F pm_X9_goesBack (n + 1) 4 L st h = exI E d lm RT F (run E g mi_X9_goesBack d lm RT F pm_X9_goesBack n) (0, 8, 0, 6, []) L st h := run_s rfl
theorem r_X9_goesBack_6 : run E g mi_X9_goesBack d lm RT F pm_X9_goesBack (n + 1) 6 L st h = exI E d lm RT F (run E g mi_X9_goesBack d lm RT F pm_X9_goesBack n) (1, ((1 : Nat) : Int), 0, 7, []) L st h := run_s rfl
theorem r_X9_goesBack_7 : run E g mi_X9_goesBack d lm RT F pm_X9_goesBack (n + 1) 7 L st h = exI E d lm RT F (run E g mi_X9_goesBack d lm RT F pm_X9_goesBack n) (10, 0, 0, 8, []) L st h := run_s rfl
theorem r_X9_goesBack_8 : run E g mi_X9_goesBack d lm RT F pm_X9_goesBack (n + 1) 8 L st h = exI E d lm RT F (run E g mi_X9_goesBack d lm RT F pm_X9_goesBack n) (2, ((0 : Nat) : Int), 0, 9, []) L st h := run_s rfl
theorem r_X9_goesBack_9 : run E g mi_X9_goesBack d lm RT F pm_X9_goesBack (n + 1) 9 L st h = exI E d lm RT F (run E g mi_X9_goesBack d lm RT F pm_X9_goesBack n) (35, ((9 : Nat) : Int), ((29 : Nat) : Int), 12, []) L st h := run_s rfl
theorem r_X9_goesBack_12 : run E g mi_X9_goesBack d lm RT F pm_X9_goesBack (n + 1) 12 L st h = exI E d lm RT F (run E g mi_X9_goesBack d lm RT F pm_X9_goesBack n) (1, ((1 : Nat) : Int), 0, 13, []) L st h := run_s rfl
theorem r_X9_goesBack_13 : run E g mi_X9_goesBack d lm RT F pm_X9_goesBack (n + 1) 13 L st h = exI E d lm RT F (run E g mi_X9_goesBack d lm RT F pm_X9_goesBack n) (38, 0, 0, 14, []) L st h := run_s rfl
theorem r_X9_goesBack_14 : run E g mi_X9_goesBack d lm RT F pm_X9_goesBack (n + 1) 14 L st h = exI E d lm RT F (run E g mi_X9_goesBack d lm RT F pm_X9_goesBack n) (8, 0, 0, 15, []) L st h := run_s rfl
theorem r_X9_goesBack_15 : run E g mi_X9_goesBack d lm RT F pm_X9_goesBack (n + 1) 15 L st h = exI E d lm RT F (run E g mi_X9_goesBack d lm RT F pm_X9_goesBack n) (38, 0, 0, 16, []) L st h := run_s rfl
theorem r_X9_goesBack_16 : run E g mi_X9_goesBack d lm RT F pm_X9_goesBack (n + 1) 16 L st h = exI E d lm RT F (run E g mi_X9_goesBack d lm RT F pm_X9_goesBack n) (4, ((2 : Nat) : Int), 0, 17, []) L st h := run_s rfl
theorem r_X9_goesBack_17 : run E g mi_X9_goesBack d lm RT F pm_X9_goesBack (n + 1) 17 L st h = exI E d lm RT F (run E g mi_X9_goesBack d lm RT F pm_X9_goesBack n) (2, ((0 : Nat) : Int), 0, 18, []) L st h := run_s rfl
theorem r_X9_goesBack_18 : run E g mi_X9_goesBack d lm RT F pm_X9_goesBack (n + 1) 18 L st h = exI E d lm RT F (run E g mi_X9_goesBack d lm RT F pm_X9_goesBack n) (35, ((9 : Nat) : Int), ((27 : Nat) : Int), 21, []) L st h := run_s rfl
theorem r_X9_goesBack_21 : run E g mi_X9_goesBack d lm RT F pm_X9_goesBack (n + 1) 21 L st h = exI E d lm RT F (run E g mi_X9_goesBack d lm RT F pm_X9_goesBack n) (0, 8, 0, 23, []) L st h := run_s rfl
theorem r_X9_goesBack_23 : run E g mi_X9_goesBack d lm RT F pm_X9_goesBack (n + 1) 23 L st h = exI E d lm RT F (run E g mi_X9_goesBack d lm RT F pm_X9_goesBack n) (1, ((1 : Nat) : Int), 0, 24, []) L st h := run_s rfl
theorem r_X9_goesBack_24 : run E g mi_X9_goesBack d lm RT F pm_X9_goesBack (n + 1) 24 L st h = exI E d lm RT F (run E g mi_X9_goesBack d lm RT F pm_X9_goesBack n) (10, 0, 0, 25, []) L st h := run_s rfl
theorem r_X9_goesBack_25 : run E g mi_X9_goesBack d lm RT F pm_X9_goesBack (n + 1) 25 L st h = exI E d lm RT F (run E g mi_X9_goesBack d lm RT F pm_X9_goesBack n) (2, ((0 : Nat) : Int), 0, 26, []) L st h := run_s rfl
theorem r_X9_goesBack_26 : run E g mi_X9_goesBack d lm RT F pm_X9_goesBack (n + 1) 26 L st h = exI E d lm RT F (run E g mi_X9_goesBack d lm RT F pm_X9_goesBack n) (35, ((9 : Nat) : Int), ((29 : Nat) : Int), 29, []) L st h := run_s rfl
theorem r_X9_goesBack_29 : run E g mi_X9_goesBack d lm RT F pm_X9_goesBack (n + 1) 29 L st h = exI E d lm RT F (run E g mi_X9_goesBack d lm RT F pm_X9_goesBack n) (1, ((1 : Nat) : Int), 0, 30, []) L st h := run_s rfl
theorem r_X9_goesBack_30 : run E g mi_X9_goesBack d lm RT F pm_X9_goesBack (n + 1) 30 L st h = exI E d lm RT F (run E g mi_X9_goesBack d lm RT F pm_X9_goesBack n) (38, 0, 0, 31, []) L st h := run_s rfl
theorem r_X9_goesBack_31 : run E g mi_X9_goesBack d lm RT F pm_X9_goesBack (n + 1) 31 L st h = exI E d lm RT F (run E g mi_X9_goesBack d lm RT F pm_X9_goesBack n) (8, 0, 0, 32, []) L st h := run_s rfl
theorem r_X9_goesBack_32 : run E g mi_X9_goesBack d lm RT F pm_X9_goesBack (n + 1) 32 L st h = exI E d lm RT F (run E g mi_X9_goesBack d lm RT F pm_X9_goesBack n) (0, 1, 0, 33, []) L st h := run_s rfl
theorem r_X9_goesBack_33 : run E g mi_X9_goesBack d lm RT F pm_X9_goesBack (n + 1) 33 L st h = exI E d lm RT F (run E g mi_X9_goesBack d lm RT F pm_X9_goesBack n) (9, 0, 0, 34, []) L st h := run_s rfl
theorem r_X9_goesBack_34 : run E g mi_X9_goesBack d lm RT F pm_X9_goesBack (n + 1) 34 L st h = exI E d lm RT F (run E g mi_X9_goesBack d lm RT F pm_X9_goesBack n) (38, 0, 0, 35, []) L st h := run_s rfl
theorem r_X9_goesBack_35 : run E g mi_X9_goesBack d lm RT F pm_X9_goesBack (n + 1) 35 L st h = exI E d lm RT F (run E g mi_X9_goesBack d lm RT F pm_X9_goesBack n) (4, ((3 : Nat) : Int), 0, 36, []) L st h := run_s rfl
theorem r_X9_goesBack_36 : run E g mi_X9_goesBack d lm RT F pm_X9_goesBack (n + 1) 36 L st h = exI E d lm RT F (run E g mi_X9_goesBack d lm RT F pm_X9_goesBack n) (2, ((0 : Nat) : Int), 0, 37, []) L st h := run_s rfl
theorem r_X9_goesBack_37 : run E g mi_X9_goesBack d lm RT F pm_X9_goesBack (n + 1) 37 L st h = exI E d lm RT F (run E g mi_X9_goesBack d lm RT F pm_X9_goesBack n) (35, ((9 : Nat) : Int), ((4 : Nat) : Int), 40, []) L st h := run_s rfl
theorem r_X9_goesBack_40 : run E g mi_X9_goesBack d lm RT F pm_X9_goesBack (n + 1) 40 L st h = exI E d lm RT F (run E g mi_X9_goesBack d lm RT F pm_X9_goesBack n) (0, 8, 0, 42, []) L st h := run_s rfl
theorem r_X9_goesBack_42 : run E g mi_X9_goesBack d lm RT F pm_X9_goesBack (n + 1) 42 L st h = exI E d lm RT F (run E g mi_X9_goesBack d lm RT F pm_X9_goesBack n) (1, ((2 : Nat) : Int), 0, 43, []) L st h := run_s rfl
theorem r_X9_goesBack_43 : run E g mi_X9_goesBack d lm RT F pm_X9_goesBack (n + 1) 43 L st h = exI E d lm RT F (run E g mi_X9_goesBack d lm RT F pm_X9_goesBack n) (10, 0, 0, 44, []) L st h := run_s rfl
theorem r_X9_goesBack_44 : run E g mi_X9_goesBack d lm RT F pm_X9_goesBack (n + 1) 44 L st h = exI E d lm RT F (run E g mi_X9_goesBack d lm RT F pm_X9_goesBack n) (1, ((3 : Nat) : Int), 0, 45, []) L st h := run_s rfl
theorem r_X9_goesBack_45 : run E g mi_X9_goesBack d lm RT F pm_X9_goesBack (n + 1) 45 L st h = exI E d lm RT F (run E g mi_X9_goesBack d lm RT F pm_X9_goesBack n) (8, 0, 0, 46, []) L st h := run_s rfl
theorem r_X9_goesBack_46 : run E g mi_X9_goesBack d lm RT F pm_X9_goesBack (n + 1) 46 L st h = exI E d lm RT F (run E g mi_X9_goesBack d lm RT F pm_X9_goesBack n) (38, 0, 0, 47, []) L st h := run_s rfl
theorem r_X9_goesBack_47 : run E g mi_X9_goesBack d lm RT F pm_X9_goesBack (n + 1) 47 L st h = exI E d lm RT F (run E g mi_X9_goesBack d lm RT F pm_X9_goesBack n) (4, ((4 : Nat) : Int), 0, 49, []) L st h := run_s rfl
theorem r_X9_goesBack_49 : run E g mi_X9_goesBack d lm RT F pm_X9_goesBack (n + 1) 49 L st h = exI E d lm RT F (run E g mi_X9_goesBack d lm RT F pm_X9_goesBack n) (1, ((4 : Nat) : Int), 0, 51, []) L st h := run_s rfl
theorem r_X9_goesBack_51 : run E g mi_X9_goesBack d lm RT F pm_X9_goesBack (n + 1) 51 L st h = exI E d lm RT F (run E g mi_X9_goesBack d lm RT F pm_X9_goesBack n) (0, (-9), 0, 53, []) L st h := run_s rfl
theorem r_X9_goesBack_53 : run E g mi_X9_goesBack d lm RT F pm_X9_goesBack (n + 1) 53 L st h = exI E d lm RT F (run E g mi_X9_goesBack d lm RT F pm_X9_goesBack n) (32, 1, ((62 : Nat) : Int), 56, []) L st h := run_s rfl
theorem r_X9_goesBack_56 : run E g mi_X9_goesBack d lm RT F pm_X9_goesBack (n + 1) 56 L st h = exI E d lm RT F (run E g mi_X9_goesBack d lm RT F pm_X9_goesBack n) (2, ((0 : Nat) : Int), 0, 57, []) L st h := run_s rfl
theorem r_X9_goesBack_57 : run E g mi_X9_goesBack d lm RT F pm_X9_goesBack (n + 1) 57 L st h = exI E d lm RT F (run E g mi_X9_goesBack d lm RT F pm_X9_goesBack n) (1, ((1 : Nat) : Int), 0, 58, []) L st h := run_s rfl
theorem r_X9_goesBack_58 : run E g mi_X9_goesBack d lm RT F pm_X9_goesBack (n + 1) 58 L st h = exI E d lm RT F (run E g mi_X9_goesBack d lm RT F pm_X9_goesBack n) (51, ((120 : Nat) : Int), ((2 : Nat) : Int), 61, [9]) L st h := run_s rfl
theorem r_X9_goesBack_61 : run E g mi_X9_goesBack d lm RT F pm_X9_goesBack (n + 1) 61 L st h = exI E d lm RT F (run E g mi_X9_goesBack d lm RT F pm_X9_goesBack n) (48, 4, 0, 0, []) L st h := run_s rfl
theorem r_X9_goesBack_62 : run E g mi_X9_goesBack d lm RT F pm_X9_goesBack (n + 1) 62 L st h = exI E d lm RT F (run E g mi_X9_goesBack d lm RT F pm_X9_goesBack n) (2, ((0 : Nat) : Int), 0, 63, []) L st h := run_s rfl
theorem r_X9_goesBack_63 : run E g mi_X9_goesBack d lm RT F pm_X9_goesBack (n + 1) 63 L st h = exI E d lm RT F (run E g mi_X9_goesBack d lm RT F pm_X9_goesBack n) (35, ((9 : Nat) : Int), ((22 : Nat) : Int), 66, []) L st h := run_s rfl
theorem r_X9_goesBack_66 : run E g mi_X9_goesBack d lm RT F pm_X9_goesBack (n + 1) 66 L st h = exI E d lm RT F (run E g mi_X9_goesBack d lm RT F pm_X9_goesBack n) (1, ((1 : Nat) : Int), 0, 67, []) L st h := run_s rfl
theorem r_X9_goesBack_67 : run E g mi_X9_goesBack d lm RT F pm_X9_goesBack (n + 1) 67 L st h = exI E d lm RT F (run E g mi_X9_goesBack d lm RT F pm_X9_goesBack n) (1, ((4 : Nat) : Int), 0, 69, []) L st h := run_s rfl
theorem r_X9_goesBack_69 : run E g mi_X9_goesBack d lm RT F pm_X9_goesBack (n + 1) 69 L st h = exI E d lm RT F (run E g mi_X9_goesBack d lm RT F pm_X9_goesBack n) (39, 0, 0, 70, []) L st h := run_s rfl
theorem r_X9_goesBack_70 : run E g mi_X9_goesBack d lm RT F pm_X9_goesBack (n + 1) 70 L st h = exI E d lm RT F (run E g mi_X9_goesBack d lm RT F pm_X9_goesBack n) (2, ((0 : Nat) : Int), 0, 71, []) L st h := run_s rfl
theorem r_X9_goesBack_71 : run E g mi_X9_goesBack d lm RT F pm_X9_goesBack (n + 1) 71 L st h = exI E d lm RT F (run E g mi_X9_goesBack d lm RT F pm_X9_goesBack n) (35, ((9 : Nat) : Int), ((23 : Nat) : Int), 74, []) L st h := run_s rfl
theorem r_X9_goesBack_74 : run E g mi_X9_goesBack d lm RT F pm_X9_goesBack (n + 1) 74 L st h = exI E d lm RT F (run E g mi_X9_goesBack d lm RT F pm_X9_goesBack n) (1, ((1 : Nat) : Int), 0, 75, []) L st h := run_s rfl
theorem r_X9_goesBack_75 : run E g mi_X9_goesBack d lm RT F pm_X9_goesBack (n + 1) 75 L st h = exI E d lm RT F (run E g mi_X9_goesBack d lm RT F pm_X9_goesBack n) (1, ((3 : Nat) : Int), 0, 76, []) L st h := run_s rfl
theorem r_X9_goesBack_76 : run E g mi_X9_goesBack d lm RT F pm_X9_goesBack (n + 1) 76 L st h = exI E d lm RT F (run E g mi_X9_goesBack d lm RT F pm_X9_goesBack n) (39, 0, 0, 77, []) L st h := run_s rfl
theorem r_X9_goesBack_77 : run E g mi_X9_goesBack d lm RT F pm_X9_goesBack (n + 1) 77 L st h = exI E d lm RT F (run E g mi_X9_goesBack d lm RT F pm_X9_goesBack n) (2, ((0 : Nat) : Int), 0, 78, []) L st h := run_s rfl
theorem r_X9_goesBack_78 : run E g mi_X9_goesBack d lm RT F pm_X9_goesBack (n + 1) 78 L st h = exI E d lm RT F (run E g mi_X9_goesBack d lm RT F pm_X9_goesBack n) (35, ((9 : Nat) : Int), ((24 : Nat) : Int), 81, []) L st h := run_s rfl
theorem r_X9_goesBack_81 : run E g mi_X9_goesBack d lm RT F pm_X9_goesBack (n + 1) 81 L st h = exI E d lm RT F (run E g mi_X9_goesBack d lm RT F pm_X9_goesBack n) (1, ((1 : Nat) : Int), 0, 82, []) L st h := run_s rfl
theorem r_X9_goesBack_82 : run E g mi_X9_goesBack d lm RT F pm_X9_goesBack (n + 1) 82 L st h = exI E d lm RT F (run E g mi_X9_goesBack d lm RT F pm_X9_goesBack n) (2, ((0 : Nat) : Int), 0, 83, []) L st h := run_s rfl
theorem r_X9_goesBack_83 : run E g mi_X9_goesBack d lm RT F pm_X9_goesBack (n + 1) 83 L st h = exI E d lm RT F (run E g mi_X9_goesBack d lm RT F pm_X9_goesBack n) (35, ((9 : Nat) : Int), ((12 : Nat) : Int), 86, []) L st h := run_s rfl
theorem r_X9_goesBack_86 : run E g mi_X9_goesBack d lm RT F pm_X9_goesBack (n + 1) 86 L st h = exI E d lm RT F (run E g mi_X9_goesBack d lm RT F pm_X9_goesBack n) (0, 1, 0, 87, []) L st h := run_s rfl
theorem r_X9_goesBack_87 : run E g mi_X9_goesBack d lm RT F pm_X9_goesBack (n + 1) 87 L st h = exI E d lm RT F (run E g mi_X9_goesBack d lm RT F pm_X9_goesBack n) (8, 0, 0, 88, []) L st h := run_s rfl
theorem r_X9_goesBack_88 : run E g mi_X9_goesBack d lm RT F pm_X9_goesBack (n + 1) 88 L st h = exI E d lm RT F (run E g mi_X9_goesBack d lm RT F pm_X9_goesBack n) (39, 0, 0, 89, []) L st h := run_s rfl
theorem r_X9_goesBack_89 : run E g mi_X9_goesBack d lm RT F pm_X9_goesBack (n + 1) 89 L st h = exI E d lm RT F (run E g mi_X9_goesBack d lm RT F pm_X9_goesBack n) (48, 4, 0, 0, []) L st h := run_s rfl
theorem e_X9_goesBack (n : Nat) {pc : Nat} (hF : FOk E d F) (hx : run E g mi_X9_goesBack d lm RT F pm_X9_goesBack n pc L st h) : G E g mi_X9_goesBack d lm RT pc L st h := run_sound hF pk_X9_goesBack n pc L st h hx
end
def mi_X9_note : MI := (9, cX9_note, 4, 4, false)
theorem mo_X9_note : miOk mi_X9_note (mt 129) = true := by decide +kernel
def tl_X9_note : List (Nat × PT) := [(0, (2, ((0 : Nat) : Int), 0, 1, [])),
  (1, (35, ((9 : Nat) : Int), ((30 : Nat) : Int), 4, [])),
  (4, (1, ((1 : Nat) : Int), 0, 5, [])),
  (5, (38, 0, 0, 6, [])),
  (6, (0, 8, 0, 8, [])),
  (8, (32, 1, ((59 : Nat) : Int), 11, [])),
  (11, (0, 1, 0, 12, [])),
  (12, (4, ((3 : Nat) : Int), 0, 13, [])),
  (13, (1, ((3 : Nat) : Int), 0, 14, [])),
  (14, (0, 8, 0, 16, [])),
  (16, (32, 3, ((49 : Nat) : Int), 19, [])),
  (19, (2, ((0 : Nat) : Int), 0, 20, [])),
  (20, (35, ((9 : Nat) : Int), ((31 : Nat) : Int), 23, [])),
  (23, (0, 8, 0, 25, [])),
  (25, (1, ((1 : Nat) : Int), 0, 26, [])),
  (26, (10, 0, 0, 27, [])),
  (27, (1, ((3 : Nat) : Int), 0, 28, [])),
  (28, (8, 0, 0, 29, [])),
  (29, (0, 1, 0, 30, [])),
  (30, (9, 0, 0, 31, [])),
  (31, (2, ((0 : Nat) : Int), 0, 32, [])),
  (32, (35, ((9 : Nat) : Int), ((31 : Nat) : Int), 35, [])),
  (35, (0, 8, 0, 37, [])),
  (37, (1, ((1 : Nat) : Int), 0, 38, [])),
  (38, (10, 0, 0, 39, [])),
  (39, (1, ((3 : Nat) : Int), 0, 40, [])),
  (40, (8, 0, 0, 41, [])),
  (41, (38, 0, 0, 42, [])),
  (42, (39, 0, 0, 43, [])),
  (43, (7, ((3 : Nat) : Int), 1, 46, [])),
  (46, (33, ((13 : Nat) : Int), 0, 0, [])),
  (49, (2, ((0 : Nat) : Int), 0, 50, [])),
  (50, (35, ((9 : Nat) : Int), ((30 : Nat) : Int), 53, [])),
  (53, (1, ((1 : Nat) : Int), 0, 54, [])),
  (54, (29, 0, 0, 55, [])),
  (55, (38, 0, 0, 56, [])),
  (56, (0, 1, 0, 57, [])),
  (57, (9, 0, 0, 58, [])),
  (58, (39, 0, 0, 59, [])),
  (59, (2, ((0 : Nat) : Int), 0, 60, [])),
  (60, (35, ((9 : Nat) : Int), ((31 : Nat) : Int), 63, [])),
  (63, (0, 8, 0, 65, [])),
  (65, (1, ((1 : Nat) : Int), 0, 66, [])),
  (66, (10, 0, 0, 67, [])),
  (67, (2, ((0 : Nat) : Int), 0, 68, [])),
  (68, (35, ((9 : Nat) : Int), ((30 : Nat) : Int), 71, [])),
  (71, (1, ((1 : Nat) : Int), 0, 72, [])),
  (72, (38, 0, 0, 73, [])),
  (73, (8, 0, 0, 74, [])),
  (74, (1, ((2 : Nat) : Int), 0, 75, [])),
  (75, (39, 0, 0, 76, [])),
  (76, (2, ((0 : Nat) : Int), 0, 77, [])),
  (77, (35, ((9 : Nat) : Int), ((30 : Nat) : Int), 80, [])),
  (80, (1, ((1 : Nat) : Int), 0, 81, [])),
  (81, (29, 0, 0, 82, [])),
  (82, (38, 0, 0, 83, [])),
  (83, (0, 1, 0, 84, [])),
  (84, (8, 0, 0, 85, [])),
  (85, (39, 0, 0, 86, [])),
  (86, (48, 4, 0, 0, []))]
theorem tk_X9_note_0 : tOk mi_X9_note ((tl_X9_note.drop 0).take 45) = true := by decide +kernel
theorem tk_X9_note_1 : tOk mi_X9_note ((tl_X9_note.drop 45).take 45) = true := by decide +kernel
theorem tk_X9_note : tOk mi_X9_note tl_X9_note = true := by
  refine tOk_cut 45 (by decide) (fun q hq => ?_)
  have hl : tl_X9_note.length = 60 := by decide +kernel
  rw [hl] at hq
  rcases (show q = 0 ∨ q = 1 by omega) with rfl | rfl
  · exact tk_X9_note_0
  · exact tk_X9_note_1
def pm_X9_note (pc : Nat) : Option PT := if [13].contains pc then none else tl_X9_note.lookup pc
theorem pk_X9_note : ∀ pc pt, pm_X9_note pc = some pt → okPt mi_X9_note pc pt := fun pc pt h => tOk_pm tk_X9_note h
section
variable {E : ET} {g : GT} {d : Nat} {lm : Nat × Nat} {RT : RTy} {F : FT} {n : Nat} {L : LV} {st : List AV} {h : AH}
theorem r_X9_note_0 : run E g mi_X9_note d lm RT F pm_X9_note (n + 1) 0 L st h = exI E d lm RT F (run E g mi_X9_note d lm RT F pm_X9_note n) (2, ((0 : Nat) : Int), 0, 1, []) L st h := run_s rfl
theorem r_X9_note_1 : run E g mi_X9_note d lm RT F pm_X9_note (n + 1) 1 L st h = exI E d lm RT F (run E g mi_X9_note d lm RT F pm_X9_note n) (35, ((9 : Nat) : Int), ((30 : Nat) : Int), 4, []) L st h := run_s rfl
theorem r_X9_note_4 : run E g mi_X9_note d lm RT F pm_X9_note (n + 1) 4 L st h = exI E d lm RT F (run E g mi_X9_note d lm RT F pm_X9_note n) (1, ((1 : Nat) : Int), 0, 5, []) L st h := run_s rfl
theorem r_X9_note_5 : run E g mi_X9_note d lm RT F pm_X9_note (n + 1) 5 L st h = exI E d lm RT F (run E g mi_X9_note d lm RT F pm_X9_note n) (38, 0, 0, 6, []) L st h := run_s rfl
theorem r_X9_note_6 : run E g mi_X9_note d lm RT F pm_X9_note (n + 1) 6 L st h = exI E d lm RT F (run E g mi_X9_note d lm RT F pm_X9_note n) (0, 8, 0, 8, []) L st h := run_s rfl
theorem r_X9_note_8 : run E g mi_X9_note d lm RT F pm_X9_note (n + 1) 8 L st h = exI E d lm RT F (run E g mi_X9_note d lm RT F pm_X9_note n) (32, 1, ((59 : Nat) : Int), 11, []) L st h := run_s rfl
theorem r_X9_note_11 : run E g mi_X9_note d lm RT F pm_X9_note (n + 1) 11 L st h = exI E d lm RT F (run E g mi_X9_note d lm RT F pm_X9_note n) (0, 1, 0, 12, []) L st h := run_s rfl
theorem r_X9_note_12 : run E g mi_X9_note d lm RT F pm_X9_note (n + 1) 12 L st h = exI E d lm RT F (run E g mi_X9_note d lm RT F pm_X9_note n) (4, ((3 : Nat) : Int), 0, 13, []) L st h := run_s rfl
theorem r_X9_note_13 : run E g mi_X9_note d lm RT F pm_X9_note (n + 1) 13 L st h = G E g mi_X9_note d lm RT 13 L st h := run_c rfl
theorem q_X9_note_13 (n : Nat) (hF : FOk E d F) (hx : exI E d lm RT F (run E g mi_X9_note d lm RT F pm_X9_note n) (1, ((3 : Nat) : Int), 0, 14, []) L st h) : G E g mi_X9_note d lm RT 13 L st h := sstep hF (tOk_spec tk_X9_note (by decide +kernel)) (run_sound hF pk_X9_note n) hx
theorem r_X9_note_14 : run E g mi_X9_note d lm RT F pm_X9_note (n + 1) 14 L st h = exI E d lm RT F (run E g mi_X9_note d lm RT F pm_X9_note n) (0, 8, 0, 16, []) L st h := run_s rfl
theorem r_X9_note_16 : run E g mi_X9_note d lm RT F pm_X9_note (n + 1) 16 L st h = exI E d lm RT F (run E g mi_X9_note d lm RT F pm_X9_note n) (32, 3, ((49 : Nat) : Int), 19, []) L st h := run_s rfl
theorem r_X9_note_19 : run E g mi_X9_note d lm RT F pm_X9_note (n + 1) 19 L st h = exI E d lm RT F (run E g mi_X9_note d lm RT F pm_X9_note n) (2, ((0 : Nat) : Int), 0, 20, []) L st h := run_s rfl
theorem r_X9_note_20 : run E g mi_X9_note d lm RT F pm_X9_note (n + 1) 20 L st h = exI E d lm RT F (run E g mi_X9_note d lm RT F pm_X9_note n) (35, ((9 : Nat) : Int), ((31 : Nat) : Int), 23, []) L st h := run_s rfl
theorem r_X9_note_23 : run E g mi_X9_note d lm RT F pm_X9_note (n + 1) 23 L st h = exI E d lm RT F (run E g mi_X9_note d lm RT F pm_X9_note n) (0, 8, 0, 25, []) L st h := run_s rfl
theorem r_X9_note_25 : run E g mi_X9_note d lm RT F pm_X9_note (n + 1) 25 L st h = exI E d lm RT F (run E g mi_X9_note d lm RT F pm_X9_note n) (1, ((1 : Nat) : Int), 0, 26, []) L st h := run_s rfl
theorem r_X9_note_26 : run E g mi_X9_note d lm RT F pm_X9_note (n + 1) 26 L st h = exI E d lm RT F (run E g mi_X9_note d lm RT F pm_X9_note n) (10, 0, 0, 27, []) L st h := run_s rfl
theorem r_X9_note_27 : run E g mi_X9_note d lm RT F pm_X9_note (n + 1) 27 L st h = exI E d lm RT F (run E g mi_X9_note d lm RT F pm_X9_note n) (1, ((3 : Nat) : Int), 0, 28, []) L st h := run_s rfl
theorem r_X9_note_28 : run E g mi_X9_note d lm RT F pm_X9_note (n + 1) 28 L st h = exI E d lm RT F (run E g mi_X9_note d lm RT F pm_X9_note n) (8, 0, 0, 29, []) L st h := run_s rfl
theorem r_X9_note_29 : run E g mi_X9_note d lm RT F pm_X9_note (n + 1) 29 L st h = exI E d lm RT F (run E g mi_X9_note d lm RT F pm_X9_note n) (0, 1, 0, 30, []) L st h := run_s rfl
theorem r_X9_note_30 : run E g mi_X9_note d lm RT F pm_X9_note (n + 1) 30 L st h = exI E d lm RT F (run E g mi_X9_note d lm RT F pm_X9_note n) (9, 0, 0, 31, []) L st h := run_s rfl
theorem r_X9_note_31 : run E g mi_X9_note d lm RT F pm_X9_note (n + 1) 31 L st h = exI E d lm RT F (run E g mi_X9_note d lm RT F pm_X9_note n) (2, ((0 : Nat) : Int), 0, 32, []) L st h := run_s rfl
theorem r_X9_note_32 : run E g mi_X9_note d lm RT F pm_X9_note (n + 1) 32 L st h = exI E d lm RT F (run E g mi_X9_note d lm RT F pm_X9_note n) (35, ((9 : Nat) : Int), ((31 : Nat) : Int), 35, []) L st h := run_s rfl
theorem r_X9_note_35 : run E g mi_X9_note d lm RT F pm_X9_note (n + 1) 35 L st h = exI E d lm RT F (run E g mi_X9_note d lm RT F pm_X9_note n) (0, 8, 0, 37, []) L st h := run_s rfl
theorem r_X9_note_37 : run E g mi_X9_note d lm RT F pm_X9_note (n + 1) 37 L st h = exI E d lm RT F (run E g mi_X9_note d lm RT F pm_X9_note n) (1, ((1 : Nat) : Int), 0, 38, []) L st h := run_s rfl
theorem r_X9_note_38 : run E g mi_X9_note d lm RT F pm_X9_note (n + 1) 38 L st h = exI E d lm RT F (run E g mi_X9_note d lm RT F pm_X9_note n) (10, 0, 0, 39, []) L st h := run_s rfl
theorem r_X9_note_39 : run E g mi_X9_note d lm RT F pm_X9_note (n + 1) 39 L st h = exI E d lm RT F (run E g mi_X9_note d lm RT F pm_X9_note n) (1, ((3 : Nat) : Int), 0, 40, []) L st h := run_s rfl
theorem r_X9_note_40 : run E g mi_X9_note d lm RT F pm_X9_note (n + 1) 40 L st h = exI E d lm RT F (run E g mi_X9_note d lm RT F pm_X9_note n) (8, 0, 0, 41, []) L st h := run_s rfl
theorem r_X9_note_41 : run E g mi_X9_note d lm RT F pm_X9_note (n + 1) 41 L st h = exI E d lm RT F (run E g mi_X9_note d lm RT F pm_X9_note n) (38, 0, 0, 42, []) L st h := run_s rfl
theorem r_X9_note_42 : run E g mi_X9_note d lm RT F pm_X9_note (n + 1) 42 L st h = exI E d lm RT F (run E g mi_X9_note d lm RT F pm_X9_note n) (39, 0, 0, 43, []) L st h := run_s rfl
theorem r_X9_note_43 : run E g mi_X9_note d lm RT F pm_X9_note (n + 1) 43 L st h = exI E d lm RT F (run E g mi_X9_note d lm RT F pm_X9_note n) (7, ((3 : Nat) : Int), 1, 46, []) L st h := run_s rfl
theorem r_X9_note_46 : run E g mi_X9_note d lm RT F pm_X9_note (n + 1) 46 L st h = exI E d lm RT F (run E g mi_X9_note d lm RT F pm_X9_note n) (33, ((13 : Nat) : Int), 0, 0, []) L st h := run_s rfl
theorem r_X9_note_49 : run E g mi_X9_note d lm RT F pm_X9_note (n + 1) 49 L st h = exI E d lm RT F (run E g mi_X9_note d lm RT F pm_X9_note n) (2, ((0 : Nat) : Int), 0, 50, []) L st h := run_s rfl
theorem r_X9_note_50 : run E g mi_X9_note d lm RT F pm_X9_note (n + 1) 50 L st h = exI E d lm RT F (run E g mi_X9_note d lm RT F pm_X9_note n) (35, ((9 : Nat) : Int), ((30 : Nat) : Int), 53, []) L st h := run_s rfl
theorem r_X9_note_53 : run E g mi_X9_note d lm RT F pm_X9_note (n + 1) 53 L st h = exI E d lm RT F (run E g mi_X9_note d lm RT F pm_X9_note n) (1, ((1 : Nat) : Int), 0, 54, []) L st h := run_s rfl
theorem r_X9_note_54 : run E g mi_X9_note d lm RT F pm_X9_note (n + 1) 54 L st h = exI E d lm RT F (run E g mi_X9_note d lm RT F pm_X9_note n) (29, 0, 0, 55, []) L st h := run_s rfl
theorem r_X9_note_55 : run E g mi_X9_note d lm RT F pm_X9_note (n + 1) 55 L st h = exI E d lm RT F (run E g mi_X9_note d lm RT F pm_X9_note n) (38, 0, 0, 56, []) L st h := run_s rfl
theorem r_X9_note_56 : run E g mi_X9_note d lm RT F pm_X9_note (n + 1) 56 L st h = exI E d lm RT F (run E g mi_X9_note d lm RT F pm_X9_note n) (0, 1, 0, 57, []) L st h := run_s rfl
theorem r_X9_note_57 : run E g mi_X9_note d lm RT F pm_X9_note (n + 1) 57 L st h = exI E d lm RT F (run E g mi_X9_note d lm RT F pm_X9_note n) (9, 0, 0, 58, []) L st h := run_s rfl
theorem r_X9_note_58 : run E g mi_X9_note d lm RT F pm_X9_note (n + 1) 58 L st h = exI E d lm RT F (run E g mi_X9_note d lm RT F pm_X9_note n) (39, 0, 0, 59, []) L st h := run_s rfl
theorem r_X9_note_59 : run E g mi_X9_note d lm RT F pm_X9_note (n + 1) 59 L st h = exI E d lm RT F (run E g mi_X9_note d lm RT F pm_X9_note n) (2, ((0 : Nat) : Int), 0, 60, []) L st h := run_s rfl
theorem r_X9_note_60 : run E g mi_X9_note d lm RT F pm_X9_note (n + 1) 60 L st h = exI E d lm RT F (run E g mi_X9_note d lm RT F pm_X9_note n) (35, ((9 : Nat) : Int), ((31 : Nat) : Int), 63, []) L st h := run_s rfl
theorem r_X9_note_63 : run E g mi_X9_note d lm RT F pm_X9_note (n + 1) 63 L st h = exI E d lm RT F (run E g mi_X9_note d lm RT F pm_X9_note n) (0, 8, 0, 65, []) L st h := run_s rfl
theorem r_X9_note_65 : run E g mi_X9_note d lm RT F pm_X9_note (n + 1) 65 L st h = exI E d lm RT F (run E g mi_X9_note d lm RT F pm_X9_note n) (1, ((1 : Nat) : Int), 0, 66, []) L st h := run_s rfl
theorem r_X9_note_66 : run E g mi_X9_note d lm RT F pm_X9_note (n + 1) 66 L st h = exI E d lm RT F (run E g mi_X9_note d lm RT F pm_X9_note n) (10, 0, 0, 67, []) L st h := run_s rfl
theorem r_X9_note_67 : run E g mi_X9_note d lm RT F pm_X9_note (n + 1) 67 L st h = exI E d lm RT F (run E g mi_X9_note d lm RT F pm_X9_note n) (2, ((0 : Nat) : Int), 0, 68, []) L st h := run_s rfl
theorem r_X9_note_68 : run E g mi_X9_note d lm RT F pm_X9_note (n + 1) 68 L st h = exI E d lm RT F (run E g mi_X9_note d lm RT F pm_X9_note n) (35, ((9 : Nat) : Int), ((30 : Nat) : Int), 71, []) L st h := run_s rfl
theorem r_X9_note_71 : run E g mi_X9_note d lm RT F pm_X9_note (n + 1) 71 L st h = exI E d lm RT F (run E g mi_X9_note d lm RT F pm_X9_note n) (1, ((1 : Nat) : Int), 0, 72, []) L st h := run_s rfl
theorem r_X9_note_72 : run E g mi_X9_note d lm RT F pm_X9_note (n + 1) 72 L st h = exI E d lm RT F (run E g mi_X9_note d lm RT F pm_X9_note n) (38, 0, 0, 73, []) L st h := run_s rfl
theorem r_X9_note_73 : run E g mi_X9_note d lm RT F pm_X9_note (n + 1) 73 L st h = exI E d lm RT F (run E g mi_X9_note d lm RT F pm_X9_note n) (8, 0, 0, 74, []) L st h := run_s rfl
theorem r_X9_note_74 : run E g mi_X9_note d lm RT F pm_X9_note (n + 1) 74 L st h = exI E d lm RT F (run E g mi_X9_note d lm RT F pm_X9_note n) (1, ((2 : Nat) : Int), 0, 75, []) L st h := run_s rfl
theorem r_X9_note_75 : run E g mi_X9_note d lm RT F pm_X9_note (n + 1) 75 L st h = exI E d lm RT F (run E g mi_X9_note d lm RT F pm_X9_note n) (39, 0, 0, 76, []) L st h := run_s rfl
theorem r_X9_note_76 : run E g mi_X9_note d lm RT F pm_X9_note (n + 1) 76 L st h = exI E d lm RT F (run E g mi_X9_note d lm RT F pm_X9_note n) (2, ((0 : Nat) : Int), 0, 77, []) L st h := run_s rfl
theorem r_X9_note_77 : run E g mi_X9_note d lm RT F pm_X9_note (n + 1) 77 L st h = exI E d lm RT F (run E g mi_X9_note d lm RT F pm_X9_note n) (35, ((9 : Nat) : Int), ((30 : Nat) : Int), 80, []) L st h := run_s rfl
theorem r_X9_note_80 : run E g mi_X9_note d lm RT F pm_X9_note (n + 1) 80 L st h = exI E d lm RT F (run E g mi_X9_note d lm RT F pm_X9_note n) (1, ((1 : Nat) : Int), 0, 81, []) L st h := run_s rfl
theorem r_X9_note_81 : run E g mi_X9_note d lm RT F pm_X9_note (n + 1) 81 L st h = exI E d lm RT F (run E g mi_X9_note d lm RT F pm_X9_note n) (29, 0, 0, 82, []) L st h := run_s rfl
theorem r_X9_note_82 : run E g mi_X9_note d lm RT F pm_X9_note (n + 1) 82 L st h = exI E d lm RT F (run E g mi_X9_note d lm RT F pm_X9_note n) (38, 0, 0, 83, []) L st h := run_s rfl
theorem r_X9_note_83 : run E g mi_X9_note d lm RT F pm_X9_note (n + 1) 83 L st h = exI E d lm RT F (run E g mi_X9_note d lm RT F pm_X9_note n) (0, 1, 0, 84, []) L st h := run_s rfl
theorem r_X9_note_84 : run E g mi_X9_note d lm RT F pm_X9_note (n + 1) 84 L st h = exI E d lm RT F (run E g mi_X9_note d lm RT F pm_X9_note n) (8, 0, 0, 85, []) L st h := run_s rfl
theorem r_X9_note_85 : run E g mi_X9_note d lm RT F pm_X9_note (n + 1) 85 L st h = exI E d lm RT F (run E g mi_X9_note d lm RT F pm_X9_note n) (39, 0, 0, 86, []) L st h := run_s rfl
theorem r_X9_note_86 : run E g mi_X9_note d lm RT F pm_X9_note (n + 1) 86 L st h = exI E d lm RT F (run E g mi_X9_note d lm RT F pm_X9_note n) (48, 4, 0, 0, []) L st h := run_s rfl
theorem e_X9_note (n : Nat) {pc : Nat} (hF : FOk E d F) (hx : run E g mi_X9_note d lm RT F pm_X9_note n pc L st h) : G E g mi_X9_note d lm RT pc L st h := run_sound hF pk_X9_note n pc L st h hx
end
def mi_X9_bestNote : MI := (9, cX9_bestNote, 4, 0, false)
theorem mo_X9_bestNote : miOk mi_X9_bestNote (mt 130) = true := by decide +kernel
def tl_X9_bestNote : List (Nat × PT) := [(0, (0, (-9), 0, 2, [])),
  (2, (4, ((2 : Nat) : Int), 0, 3, [])),
  (3, (0, 0, 0, 4, [])),
  (4, (4, ((3 : Nat) : Int), 0, 5, [])),
  (5, (1, ((3 : Nat) : Int), 0, 6, [])),
  (6, (2, ((0 : Nat) : Int), 0, 7, [])),
  (7, (35, ((9 : Nat) : Int), ((30 : Nat) : Int), 10, [])),
  (10, (1, ((1 : Nat) : Int), 0, 11, [])),
  (11, (38, 0, 0, 12, [])),
  (12, (32, 3, ((58 : Nat) : Int), 15, [])),
  (15, (1, ((2 : Nat) : Int), 0, 16, [])),
  (16, (0, (-9), 0, 18, [])),
  (18, (32, 0, ((36 : Nat) : Int), 21, [])),
  (21, (2, ((0 : Nat) : Int), 0, 22, [])),
  (22, (35, ((9 : Nat) : Int), ((31 : Nat) : Int), 25, [])),
  (25, (0, 8, 0, 27, [])),
  (27, (1, ((1 : Nat) : Int), 0, 28, [])),
  (28, (10, 0, 0, 29, [])),
  (29, (1, ((3 : Nat) : Int), 0, 30, [])),
  (30, (8, 0, 0, 31, [])),
  (31, (38, 0, 0, 32, [])),
  (32, (1, ((2 : Nat) : Int), 0, 33, [])),
  (33, (32, 3, ((50 : Nat) : Int), 36, [])),
  (36, (2, ((0 : Nat) : Int), 0, 37, [])),
  (37, (35, ((9 : Nat) : Int), ((31 : Nat) : Int), 40, [])),
  (40, (0, 8, 0, 42, [])),
  (42, (1, ((1 : Nat) : Int), 0, 43, [])),
  (43, (10, 0, 0, 44, [])),
  (44, (1, ((3 : Nat) : Int), 0, 45, [])),
  (45, (8, 0, 0, 46, [])),
  (46, (38, 0, 0, 47, [])),
  (47, (33, ((51 : Nat) : Int), 0, 0, [])),
  (50, (1, ((2 : Nat) : Int), 0, 51, [])),
  (51, (4, ((2 : Nat) : Int), 0, 52, [])),
  (52, (7, ((3 : Nat) : Int), 1, 55, [])),
  (55, (33, ((5 : Nat) : Int), 0, 0, [])),
  (58, (1, ((2 : Nat) : Int), 0, 59, [])),
  (59, (48, 0, 0, 0, []))]
theorem tk_X9_bestNote : tOk mi_X9_bestNote tl_X9_bestNote = true := by decide +kernel
def pm_X9_bestNote (pc : Nat) : Option PT := if [5].contains pc then none else tl_X9_bestNote.lookup pc
theorem pk_X9_bestNote : ∀ pc pt, pm_X9_bestNote pc = some pt → okPt mi_X9_bestNote pc pt := fun pc pt h => tOk_pm tk_X9_bestNote h
section
variable {E : ET} {g : GT} {d : Nat} {lm : Nat × Nat} {RT : RTy} {F : FT} {n : Nat} {L : LV} {st : List AV} {h : AH}
theorem r_X9_bestNote_0 : run E g mi_X9_bestNote d lm RT F pm_X9_bestNote (n + 1) 0 L st h = exI E d lm RT F (run E g mi_X9_bestNote d lm RT F pm_X9_bestNote n) (0, (-9), 0, 2, []) L st h := run_s rfl
theorem r_X9_bestNote_2 : run E g mi_X9_bestNote d lm RT F pm_X9_bestNote (n + 1) 2 L st h = exI E d lm RT F (run E g mi_X9_bestNote d lm RT F pm_X9_bestNote n) (4, ((2 : Nat) : Int), 0, 3, []) L st h := run_s rfl
theorem r_X9_bestNote_3 : run E g mi_X9_bestNote d lm RT F pm_X9_bestNote (n + 1) 3 L st h = exI E d lm RT F (run E g mi_X9_bestNote d lm RT F pm_X9_bestNote n) (0, 0, 0, 4, []) L st h := run_s rfl
theorem r_X9_bestNote_4 : run E g mi_X9_bestNote d lm RT F pm_X9_bestNote (n + 1) 4 L st h = exI E d lm RT F (run E g mi_X9_bestNote d lm RT F pm_X9_bestNote n) (4, ((3 : Nat) : Int), 0, 5, []) L st h := run_s rfl
theorem r_X9_bestNote_5 : run E g mi_X9_bestNote d lm RT F pm_X9_bestNote (n + 1) 5 L st h = G E g mi_X9_bestNote d lm RT 5 L st h := run_c rfl
theorem q_X9_bestNote_5 (n : Nat) (hF : FOk E d F) (hx : exI E d lm RT F (run E g mi_X9_bestNote d lm RT F pm_X9_bestNote n) (1, ((3 : Nat) : Int), 0, 6, []) L st h) : G E g mi_X9_bestNote d lm RT 5 L st h := sstep hF (tOk_spec tk_X9_bestNote (by decide +kernel)) (run_sound hF pk_X9_bestNote n) hx
theorem r_X9_bestNote_6 : run E g mi_X9_bestNote d lm RT F pm_X9_bestNote (n + 1) 6 L st h = exI E d lm RT F (run E g mi_X9_bestNote d lm RT F pm_X9_bestNote n) (2, ((0 : Nat) : Int), 0, 7, []) L st h := run_s rfl
theorem r_X9_bestNote_7 : run E g mi_X9_bestNote d lm RT F pm_X9_bestNote (n + 1) 7 L st h = exI E d lm RT F (run E g mi_X9_bestNote d lm RT F pm_X9_bestNote n) (35, ((9 : Nat) : Int), ((30 : Nat) : Int), 10, []) L st h := run_s rfl
theorem r_X9_bestNote_10 : run E g mi_X9_bestNote d lm RT F pm_X9_bestNote (n + 1) 10 L st h = exI E d lm RT F (run E g mi_X9_bestNote d lm RT F pm_X9_bestNote n) (1, ((1 : Nat) : Int), 0, 11, []) L st h := run_s rfl
theorem r_X9_bestNote_11 : run E g mi_X9_bestNote d lm RT F pm_X9_bestNote (n + 1) 11 L st h = exI E d lm RT F (run E g mi_X9_bestNote d lm RT F pm_X9_bestNote n) (38, 0, 0, 12, []) L st h := run_s rfl
theorem r_X9_bestNote_12 : run E g mi_X9_bestNote d lm RT F pm_X9_bestNote (n + 1) 12 L st h = exI E d lm RT F (run E g mi_X9_bestNote d lm RT F pm_X9_bestNote n) (32, 3, ((58 : Nat) : Int), 15, []) L st h := run_s rfl
theorem r_X9_bestNote_15 : run E g mi_X9_bestNote d lm RT F pm_X9_bestNote (n + 1) 15 L st h = exI E d lm RT F (run E g mi_X9_bestNote d lm RT F pm_X9_bestNote n) (1, ((2 : Nat) : Int), 0, 16, []) L st h := run_s rfl
theorem r_X9_bestNote_16 : run E g mi_X9_bestNote d lm RT F pm_X9_bestNote (n + 1) 16 L st h = exI E d lm RT F (run E g mi_X9_bestNote d lm RT F pm_X9_bestNote n) (0, (-9), 0, 18, []) L st h := run_s rfl
theorem r_X9_bestNote_18 : run E g mi_X9_bestNote d lm RT F pm_X9_bestNote (n + 1) 18 L st h = exI E d lm RT F (run E g mi_X9_bestNote d lm RT F pm_X9_bestNote n) (32, 0, ((36 : Nat) : Int), 21, []) L st h := run_s rfl
theorem r_X9_bestNote_21 : run E g mi_X9_bestNote d lm RT F pm_X9_bestNote (n + 1) 21 L st h = exI E d lm RT F (run E g mi_X9_bestNote d lm RT F pm_X9_bestNote n) (2, ((0 : Nat) : Int), 0, 22, []) L st h := run_s rfl
theorem r_X9_bestNote_22 : run E g mi_X9_bestNote d lm RT F pm_X9_bestNote (n + 1) 22 L st h = exI E d lm RT F (run E g mi_X9_bestNote d lm RT F pm_X9_bestNote n) (35, ((9 : Nat) : Int), ((31 : Nat) : Int), 25, []) L st h := run_s rfl
theorem r_X9_bestNote_25 : run E g mi_X9_bestNote d lm RT F pm_X9_bestNote (n + 1) 25 L st h = exI E d lm RT F (run E g mi_X9_bestNote d lm RT F pm_X9_bestNote n) (0, 8, 0, 27, []) L st h := run_s rfl
theorem r_X9_bestNote_27 : run E g mi_X9_bestNote d lm RT F pm_X9_bestNote (n + 1) 27 L st h = exI E d lm RT F (run E g mi_X9_bestNote d lm RT F pm_X9_bestNote n) (1, ((1 : Nat) : Int), 0, 28, []) L st h := run_s rfl
theorem r_X9_bestNote_28 : run E g mi_X9_bestNote d lm RT F pm_X9_bestNote (n + 1) 28 L st h = exI E d lm RT F (run E g mi_X9_bestNote d lm RT F pm_X9_bestNote n) (10, 0, 0, 29, []) L st h := run_s rfl
theorem r_X9_bestNote_29 : run E g mi_X9_bestNote d lm RT F pm_X9_bestNote (n + 1) 29 L st h = exI E d lm RT F (run E g mi_X9_bestNote d lm RT F pm_X9_bestNote n) (1, ((3 : Nat) : Int), 0, 30, []) L st h := run_s rfl
theorem r_X9_bestNote_30 : run E g mi_X9_bestNote d lm RT F pm_X9_bestNote (n + 1) 30 L st h = exI E d lm RT F (run E g mi_X9_bestNote d lm RT F pm_X9_bestNote n) (8, 0, 0, 31, []) L st h := run_s rfl
theorem r_X9_bestNote_31 : run E g mi_X9_bestNote d lm RT F pm_X9_bestNote (n + 1) 31 L st h = exI E d lm RT F (run E g mi_X9_bestNote d lm RT F pm_X9_bestNote n) (38, 0, 0, 32, []) L st h := run_s rfl
theorem r_X9_bestNote_32 : run E g mi_X9_bestNote d lm RT F pm_X9_bestNote (n + 1) 32 L st h = exI E d lm RT F (run E g mi_X9_bestNote d lm RT F pm_X9_bestNote n) (1, ((2 : Nat) : Int), 0, 33, []) L st h := run_s rfl
theorem r_X9_bestNote_33 : run E g mi_X9_bestNote d lm RT F pm_X9_bestNote (n + 1) 33 L st h = exI E d lm RT F (run E g mi_X9_bestNote d lm RT F pm_X9_bestNote n) (32, 3, ((50 : Nat) : Int), 36, []) L st h := run_s rfl
theorem r_X9_bestNote_36 : run E g mi_X9_bestNote d lm RT F pm_X9_bestNote (n + 1) 36 L st h = exI E d lm RT F (run E g mi_X9_bestNote d lm RT F pm_X9_bestNote n) (2, ((0 : Nat) : Int), 0, 37, []) L st h := run_s rfl
theorem r_X9_bestNote_37 : run E g mi_X9_bestNote d lm RT F pm_X9_bestNote (n + 1) 37 L st h = exI E d lm RT F (run E g mi_X9_bestNote d lm RT F pm_X9_bestNote n) (35, ((9 : Nat) : Int), ((31 : Nat) : Int), 40, []) L st h := run_s rfl
theorem r_X9_bestNote_40 : run E g mi_X9_bestNote d lm RT F pm_X9_bestNote (n + 1) 40 L st h = exI E d lm RT F (run E g mi_X9_bestNote d lm RT F pm_X9_bestNote n) (0, 8, 0, 42, []) L st h := run_s rfl
theorem r_X9_bestNote_42 : run E g mi_X9_bestNote d lm RT F pm_X9_bestNote (n + 1) 42 L st h = exI E d lm RT F (run E g mi_X9_bestNote d lm RT F pm_X9_bestNote n) (1, ((1 : Nat) : Int), 0, 43, []) L st h := run_s rfl
theorem r_X9_bestNote_43 : run E g mi_X9_bestNote d lm RT F pm_X9_bestNote (n + 1) 43 L st h = exI E d lm RT F (run E g mi_X9_bestNote d lm RT F pm_X9_bestNote n) (10, 0, 0, 44, []) L st h := run_s rfl
theorem r_X9_bestNote_44 : run E g mi_X9_bestNote d lm RT F pm_X9_bestNote (n + 1) 44 L st h = exI E d lm RT F (run E g mi_X9_bestNote d lm RT F pm_X9_bestNote n) (1, ((3 : Nat) : Int), 0, 45, []) L st h := run_s rfl
theorem r_X9_bestNote_45 : run E g mi_X9_bestNote d lm RT F pm_X9_bestNote (n + 1) 45 L st h = exI E d lm RT F (run E g mi_X9_bestNote d lm RT F pm_X9_bestNote n) (8, 0, 0, 46, []) L st h := run_s rfl
theorem r_X9_bestNote_46 : run E g mi_X9_bestNote d lm RT F pm_X9_bestNote (n + 1) 46 L st h = exI E d lm RT F (run E g mi_X9_bestNote d lm RT F pm_X9_bestNote n) (38, 0, 0, 47, []) L st h := run_s rfl
theorem r_X9_bestNote_47 : run E g mi_X9_bestNote d lm RT F pm_X9_bestNote (n + 1) 47 L st h = exI E d lm RT F (run E g mi_X9_bestNote d lm RT F pm_X9_bestNote n) (33, ((51 : Nat) : Int), 0, 0, []) L st h := run_s rfl
theorem r_X9_bestNote_50 : run E g mi_X9_bestNote d lm RT F pm_X9_bestNote (n + 1) 50 L st h = exI E d lm RT F (run E g mi_X9_bestNote d lm RT F pm_X9_bestNote n) (1, ((2 : Nat) : Int), 0, 51, []) L st h := run_s rfl
theorem r_X9_bestNote_51 : run E g mi_X9_bestNote d lm RT F pm_X9_bestNote (n + 1) 51 L st h = exI E d lm RT F (run E g mi_X9_bestNote d lm RT F pm_X9_bestNote n) (4, ((2 : Nat) : Int), 0, 52, []) L st h := run_s rfl
theorem r_X9_bestNote_52 : run E g mi_X9_bestNote d lm RT F pm_X9_bestNote (n + 1) 52 L st h = exI E d lm RT F (run E g mi_X9_bestNote d lm RT F pm_X9_bestNote n) (7, ((3 : Nat) : Int), 1, 55, []) L st h := run_s rfl
theorem r_X9_bestNote_55 : run E g mi_X9_bestNote d lm RT F pm_X9_bestNote (n + 1) 55 L st h = exI E d lm RT F (run E g mi_X9_bestNote d lm RT F pm_X9_bestNote n) (33, ((5 : Nat) : Int), 0, 0, []) L st h := run_s rfl
theorem r_X9_bestNote_58 : run E g mi_X9_bestNote d lm RT F pm_X9_bestNote (n + 1) 58 L st h = exI E d lm RT F (run E g mi_X9_bestNote d lm RT F pm_X9_bestNote n) (1, ((2 : Nat) : Int), 0, 59, []) L st h := run_s rfl
theorem r_X9_bestNote_59 : run E g mi_X9_bestNote d lm RT F pm_X9_bestNote (n + 1) 59 L st h = exI E d lm RT F (run E g mi_X9_bestNote d lm RT F pm_X9_bestNote n) (48, 0, 0, 0, []) L st h := run_s rfl
theorem e_X9_bestNote (n : Nat) {pc : Nat} (hF : FOk E d F) (hx : run E g mi_X9_bestNote d lm RT F pm_X9_bestNote n pc L st h) : G E g mi_X9_bestNote d lm RT pc L st h := run_sound hF pk_X9_bestNote n pc L st h hx
end
def mi_X9_comesBack : MI := (9, cX9_comesBack, 8, 1, false)
theorem mo_X9_comesBack : miOk mi_X9_comesBack (mt 131) = true := by decide +kernel
def tl_X9_comesBack : List (Nat × PT) := [(0, (0, 8, 0, 2, [])),
  (2, (1, ((1 : Nat) : Int), 0, 3, [])),
  (3, (10, 0, 0, 4, [])),
  (4, (2, ((0 : Nat) : Int), 0, 5, [])),
  (5, (35, ((9 : Nat) : Int), ((26 : Nat) : Int), 8, [])),
  (8, (1, ((1 : Nat) : Int), 0, 9, [])),
  (9, (38, 0, 0, 10, [])),
  (10, (8, 0, 0, 11, [])),
  (11, (0, 1, 0, 12, [])),
  (12, (9, 0, 0, 13, [])),
  (13, (4, ((2 : Nat) : Int), 0, 14, [])),
  (14, (2, ((0 : Nat) : Int), 0, 15, [])),
  (15, (35, ((9 : Nat) : Int), ((27 : Nat) : Int), 18, [])),
  (18, (0, 8, 0, 20, [])),
  (20, (1, ((1 : Nat) : Int), 0, 21, [])),
  (21, (10, 0, 0, 22, [])),
  (22, (2, ((0 : Nat) : Int), 0, 23, [])),
  (23, (35, ((9 : Nat) : Int), ((29 : Nat) : Int), 26, [])),
  (26, (1, ((1 : Nat) : Int), 0, 27, [])),
  (27, (38, 0, 0, 28, [])),
  (28, (8, 0, 0, 29, [])),
  (29, (38, 0, 0, 30, [])),
  (30, (4, ((3 : Nat) : Int), 0, 31, [])),
  (31, (2, ((0 : Nat) : Int), 0, 32, [])),
  (32, (35, ((9 : Nat) : Int), ((29 : Nat) : Int), 35, [])),
  (35, (1, ((1 : Nat) : Int), 0, 36, [])),
  (36, (29, 0, 0, 37, [])),
  (37, (38, 0, 0, 38, [])),
  (38, (0, 1, 0, 39, [])),
  (39, (9, 0, 0, 40, [])),
  (40, (39, 0, 0, 41, [])),
  (41, (2, ((0 : Nat) : Int), 0, 42, [])),
  (42, (35, ((9 : Nat) : Int), ((23 : Nat) : Int), 45, [])),
  (45, (1, ((1 : Nat) : Int), 0, 46, [])),
  (46, (38, 0, 0, 47, [])),
  (47, (4, ((4 : Nat) : Int), 0, 49, [])),
  (49, (2, ((0 : Nat) : Int), 0, 50, [])),
  (50, (35, ((9 : Nat) : Int), ((28 : Nat) : Int), 53, [])),
  (53, (1, ((2 : Nat) : Int), 0, 54, [])),
  (54, (38, 0, 0, 55, [])),
  (55, (2, ((0 : Nat) : Int), 0, 56, [])),
  (56, (35, ((9 : Nat) : Int), ((28 : Nat) : Int), 59, [])),
  (59, (0, 8, 0, 61, [])),
  (61, (1, ((1 : Nat) : Int), 0, 62, [])),
  (62, (10, 0, 0, 63, [])),
  (63, (2, ((0 : Nat) : Int), 0, 64, [])),
  (64, (35, ((9 : Nat) : Int), ((29 : Nat) : Int), 67, [])),
  (67, (1, ((1 : Nat) : Int), 0, 68, [])),
  (68, (38, 0, 0, 69, [])),
  (69, (8, 0, 0, 70, [])),
  (70, (38, 0, 0, 71, [])),
  (71, (9, 0, 0, 72, [])),
  (72, (4, ((5 : Nat) : Int), 0, 74, [])),
  (74, (0, 8, 0, 76, [])),
  (76, (1, ((4 : Nat) : Int), 0, 78, [])),
  (78, (10, 0, 0, 79, [])),
  (79, (2, ((0 : Nat) : Int), 0, 80, [])),
  (80, (35, ((9 : Nat) : Int), ((20 : Nat) : Int), 83, [])),
  (83, (1, ((1 : Nat) : Int), 0, 84, [])),
  (84, (38, 0, 0, 85, [])),
  (85, (8, 0, 0, 86, [])),
  (86, (4, ((6 : Nat) : Int), 0, 88, [])),
  (88, (2, ((0 : Nat) : Int), 0, 89, [])),
  (89, (1, ((6 : Nat) : Int), 0, 91, [])),
  (91, (1, ((5 : Nat) : Int), 0, 93, [])),
  (93, (51, ((129 : Nat) : Int), ((3 : Nat) : Int), 96, [9])),
  (96, (2, ((0 : Nat) : Int), 0, 97, [])),
  (97, (35, ((9 : Nat) : Int), ((7 : Nat) : Int), 100, [])),
  (100, (2, ((0 : Nat) : Int), 0, 101, [])),
  (101, (1, ((6 : Nat) : Int), 0, 103, [])),
  (103, (51, ((130 : Nat) : Int), ((2 : Nat) : Int), 106, [9])),
  (106, (10, 0, 0, 107, [])),
  (107, (1, ((5 : Nat) : Int), 0, 109, [])),
  (109, (11, 0, 0, 110, [])),
  (110, (4, ((7 : Nat) : Int), 0, 112, [])),
  (112, (1, ((7 : Nat) : Int), 0, 114, [])),
  (114, (2, ((0 : Nat) : Int), 0, 115, [])),
  (115, (35, ((9 : Nat) : Int), ((18 : Nat) : Int), 118, [])),
  (118, (1, ((1 : Nat) : Int), 0, 119, [])),
  (119, (38, 0, 0, 120, [])),
  (120, (0, 2, 0, 121, [])),
  (121, (32, 1, ((135 : Nat) : Int), 124, [])),
  (124, (0, 1000, 0, 127, [])),
  (127, (1, ((7 : Nat) : Int), 0, 129, [])),
  (129, (9, 0, 0, 130, [])),
  (130, (0, 4, 0, 131, [])),
  (131, (11, 0, 0, 132, [])),
  (132, (33, ((136 : Nat) : Int), 0, 0, [])),
  (135, (0, 0, 0, 136, [])),
  (136, (8, 0, 0, 137, [])),
  (137, (4, ((7 : Nat) : Int), 0, 139, [])),
  (139, (2, ((0 : Nat) : Int), 0, 140, [])),
  (140, (1, ((4 : Nat) : Int), 0, 142, [])),
  (142, (2, ((0 : Nat) : Int), 0, 143, [])),
  (143, (35, ((9 : Nat) : Int), ((20 : Nat) : Int), 146, [])),
  (146, (1, ((1 : Nat) : Int), 0, 147, [])),
  (147, (38, 0, 0, 148, [])),
  (148, (1, ((3 : Nat) : Int), 0, 149, [])),
  (149, (1, ((7 : Nat) : Int), 0, 151, [])),
  (151, (51, ((113 : Nat) : Int), ((5 : Nat) : Int), 154, [9])),
  (154, (2, ((0 : Nat) : Int), 0, 155, [])),
  (155, (35, ((9 : Nat) : Int), ((29 : Nat) : Int), 158, [])),
  (158, (1, ((1 : Nat) : Int), 0, 159, [])),
  (159, (38, 0, 0, 160, [])),
  (160, (31, 1, ((193 : Nat) : Int), 163, [])),
  (163, (2, ((0 : Nat) : Int), 0, 164, [])),
  (164, (35, ((9 : Nat) : Int), ((17 : Nat) : Int), 167, [])),
  (167, (1, ((1 : Nat) : Int), 0, 168, [])),
  (168, (0, 0, 0, 169, [])),
  (169, (39, 1, 0, 170, [])),
  (170, (2, ((0 : Nat) : Int), 0, 171, [])),
  (171, (28, 0, 0, 172, [])),
  (172, (35, ((9 : Nat) : Int), ((14 : Nat) : Int), 175, [])),
  (175, (0, 1, 0, 176, [])),
  (176, (8, 0, 0, 177, [])),
  (177, (36, ((9 : Nat) : Int), ((14 : Nat) : Int), 180, [0])),
  (180, (2, ((0 : Nat) : Int), 0, 181, [])),
  (181, (28, 0, 0, 182, [])),
  (182, (35, ((9 : Nat) : Int), ((16 : Nat) : Int), 185, [])),
  (185, (1, ((5 : Nat) : Int), 0, 187, [])),
  (187, (8, 0, 0, 188, [])),
  (188, (36, ((9 : Nat) : Int), ((16 : Nat) : Int), 191, [0])),
  (191, (0, 1, 0, 192, [])),
  (192, (48, 1, 0, 0, [])),
  (193, (2, ((0 : Nat) : Int), 0, 194, [])),
  (194, (1, ((1 : Nat) : Int), 0, 195, [])),
  (195, (51, ((128 : Nat) : Int), ((2 : Nat) : Int), 198, [9])),
  (198, (0, 0, 0, 199, [])),
  (199, (48, 1, 0, 0, []))]
theorem tk_X9_comesBack_0 : tOk mi_X9_comesBack ((tl_X9_comesBack.drop 0).take 45) = true := by decide +kernel
theorem tk_X9_comesBack_1 : tOk mi_X9_comesBack ((tl_X9_comesBack.drop 45).take 45) = true := by decide +kernel
theorem tk_X9_comesBack_2 : tOk mi_X9_comesBack ((tl_X9_comesBack.drop 90).take 45) = true := by decide +kernel
theorem tk_X9_comesBack : tOk mi_X9_comesBack tl_X9_comesBack = true := by
  refine tOk_cut 45 (by decide) (fun q hq => ?_)
  have hl : tl_X9_comesBack.length = 129 := by decide +kernel
  rw [hl] at hq
  rcases (show q = 0 ∨ q = 1 ∨ q = 2 by omega) with rfl | rfl | rfl
  · exact tk_X9_comesBack_0
  · exact tk_X9_comesBack_1
  · exact tk_X9_comesBack_2
def pm_X9_comesBack (pc : Nat) : Option PT := if [].contains pc then none else tl_X9_comesBack.lookup pc
theorem pk_X9_comesBack : ∀ pc pt, pm_X9_comesBack pc = some pt → okPt mi_X9_comesBack pc pt := fun pc pt h => tOk_pm tk_X9_comesBack h
section
variable {E : ET} {g : GT} {d : Nat} {lm : Nat × Nat} {RT : RTy} {F : FT} {n : Nat} {L : LV} {st : List AV} {h : AH}
theorem r_X9_comesBack_0 : run E g mi_X9_comesBack d lm RT F pm_X9_comesBack (n + 1) 0 L st h = exI E d lm RT F (run E g mi_X9_comesBack d lm RT F pm_X9_comesBack n) (0, 8, 0, 2, []) L st h := run_s rfl
theorem r_X9_comesBack_2 : run E g mi_X9_comesBack d lm RT F pm_X9_comesBack (n + 1) 2 L st h = exI E d lm RT F (run E g mi_X9_comesBack d lm RT F pm_X9_comesBack n) (1, ((1 : Nat) : Int), 0, 3, []) L st h := run_s rfl
theorem r_X9_comesBack_3 : run E g mi_X9_comesBack d lm RT F pm_X9_comesBack (n + 1) 3 L st h = exI E d lm RT F (run E g mi_X9_comesBack d lm RT F pm_X9_comesBack n) (10, 0, 0, 4, []) L st h := run_s rfl
theorem r_X9_comesBack_4 : run E g mi_X9_comesBack d lm RT F pm_X9_comesBack (n + 1) 4 L st h = exI E d lm RT F (run E g mi_X9_comesBack d lm RT F pm_X9_comesBack n) (2, ((0 : Nat) : Int), 0, 5, []) L st h := run_s rfl
theorem r_X9_comesBack_5 : run E g mi_X9_comesBack d lm RT F pm_X9_comesBack (n + 1) 5 L st h = exI E d lm RT F (run E g mi_X9_comesBack d lm RT F pm_X9_comesBack n) (35, ((9 : Nat) : Int), ((26 : Nat) : Int), 8, []) L st h := run_s rfl
theorem r_X9_comesBack_8 : run E g mi_X9_comesBack d lm RT F pm_X9_comesBack (n + 1) 8 L st h = exI E d lm RT F (run E g mi_X9_comesBack d lm RT F pm_X9_comesBack n) (1, ((1 : Nat) : Int), 0, 9, []) L st h := run_s rfl
theorem r_X9_comesBack_9 : run E g mi_X9_comesBack d lm RT F pm_X9_comesBack (n + 1) 9 L st h = exI E d lm RT F (run E g mi_X9_comesBack d lm RT F pm_X9_comesBack n) (38, 0, 0, 10, []) L st h := run_s rfl
theorem r_X9_comesBack_10 : run E g mi_X9_comesBack d lm RT F pm_X9_comesBack (n + 1) 10 L st h = exI E d lm RT F (run E g mi_X9_comesBack d lm RT F pm_X9_comesBack n) (8, 0, 0, 11, []) L st h := run_s rfl
theorem r_X9_comesBack_11 : run E g mi_X9_comesBack d lm RT F pm_X9_comesBack (n + 1) 11 L st h = exI E d lm RT F (run E g mi_X9_comesBack d lm RT F pm_X9_comesBack n) (0, 1, 0, 12, []) L st h := run_s rfl
theorem r_X9_comesBack_12 : run E g mi_X9_comesBack d lm RT F pm_X9_comesBack (n + 1) 12 L st h = exI E d lm RT F (run E g mi_X9_comesBack d lm RT F pm_X9_comesBack n) (9, 0, 0, 13, []) L st h := run_s rfl
theorem r_X9_comesBack_13 : run E g mi_X9_comesBack d lm RT F pm_X9_comesBack (n + 1) 13 L st h = exI E d lm RT F (run E g mi_X9_comesBack d lm RT F pm_X9_comesBack n) (4, ((2 : Nat) : Int), 0, 14, []) L st h := run_s rfl
theorem r_X9_comesBack_14 : run E g mi_X9_comesBack d lm RT F pm_X9_comesBack (n + 1) 14 L st h = exI E d lm RT F (run E g mi_X9_comesBack d lm RT F pm_X9_comesBack n) (2, ((0 : Nat) : Int), 0, 15, []) L st h := run_s rfl
theorem r_X9_comesBack_15 : run E g mi_X9_comesBack d lm RT F pm_X9_comesBack (n + 1) 15 L st h = exI E d lm RT F (run E g mi_X9_comesBack d lm RT F pm_X9_comesBack n) (35, ((9 : Nat) : Int), ((27 : Nat) : Int), 18, []) L st h := run_s rfl
theorem r_X9_comesBack_18 : run E g mi_X9_comesBack d lm RT F pm_X9_comesBack (n + 1) 18 L st h = exI E d lm RT F (run E g mi_X9_comesBack d lm RT F pm_X9_comesBack n) (0, 8, 0, 20, []) L st h := run_s rfl
theorem r_X9_comesBack_20 : run E g mi_X9_comesBack d lm RT F pm_X9_comesBack (n + 1) 20 L st h = exI E d lm RT F (run E g mi_X9_comesBack d lm RT F pm_X9_comesBack n) (1, ((1 : Nat) : Int), 0, 21, []) L st h := run_s rfl
theorem r_X9_comesBack_21 : run E g mi_X9_comesBack d lm RT F pm_X9_comesBack (n + 1) 21 L st h = exI E d lm RT F (run E g mi_X9_comesBack d lm RT F pm_X9_comesBack n) (10, 0, 0, 22, []) L st h := run_s rfl
theorem r_X9_comesBack_22 : run E g mi_X9_comesBack d lm RT F pm_X9_comesBack (n + 1) 22 L st h = exI E d lm RT F (run E g mi_X9_comesBack d lm RT F pm_X9_comesBack n) (2, ((0 : Nat) : Int), 0, 23, []) L st h := run_s rfl
theorem r_X9_comesBack_23 : run E g mi_X9_comesBack d lm RT F pm_X9_comesBack (n + 1) 23 L st h = exI E d lm RT F (run E g mi_X9_comesBack d lm RT F pm_X9_comesBack n) (35, ((9 : Nat) : Int), ((29 : Nat) : Int), 26, []) L st h := run_s rfl
theorem r_X9_comesBack_26 : run E g mi_X9_comesBack d lm RT F pm_X9_comesBack (n + 1) 26 L st h = exI E d lm RT F (run E g mi_X9_comesBack d lm RT F pm_X9_comesBack n) (1, ((1 : Nat) : Int), 0, 27, []) L st h := run_s rfl
theorem r_X9_comesBack_27 : run E g mi_X9_comesBack d lm RT F pm_X9_comesBack (n + 1) 27 L st h = exI E d lm RT F (run E g mi_X9_comesBack d lm RT F pm_X9_comesBack n) (38, 0, 0, 28, []) L st h := run_s rfl
theorem r_X9_comesBack_28 : run E g mi_X9_comesBack d lm RT F pm_X9_comesBack (n + 1) 28 L st h = exI E d lm RT F (run E g mi_X9_comesBack d lm RT F pm_X9_comesBack n) (8, 0, 0, 29, []) L st h := run_s rfl
theorem r_X9_comesBack_29 : run E g mi_X9_comesBack d lm RT F pm_X9_comesBack (n + 1) 29 L st h = exI E d lm RT F (run E g mi_X9_comesBack d lm RT F pm_X9_comesBack n) (38, 0, 0, 30, []) L st h := run_s rfl
theorem r_X9_comesBack_30 : run E g mi_X9_comesBack d lm RT F pm_X9_comesBack (n + 1) 30 L st h = exI E d lm RT F (run E g mi_X9_comesBack d lm RT F pm_X9_comesBack n) (4, ((3 : Nat) : Int), 0, 31, []) L st h := run_s rfl
theorem r_X9_comesBack_31 : run E g mi_X9_comesBack d lm RT F pm_X9_comesBack (n + 1) 31 L st h = exI E d lm RT F (run E g mi_X9_comesBack d lm RT F pm_X9_comesBack n) (2, ((0 : Nat) : Int), 0, 32, []) L st h := run_s rfl
theorem r_X9_comesBack_32 : run E g mi_X9_comesBack d lm RT F pm_X9_comesBack (n + 1) 32 L st h = exI E d lm RT F (run E g mi_X9_comesBack d lm RT F pm_X9_comesBack n) (35, ((9 : Nat) : Int), ((29 : Nat) : Int), 35, []) L st h := run_s rfl
theorem r_X9_comesBack_35 : run E g mi_X9_comesBack d lm RT F pm_X9_comesBack (n + 1) 35 L st h = exI E d lm RT F (run E g mi_X9_comesBack d lm RT F pm_X9_comesBack n) (1, ((1 : Nat) : Int), 0, 36, []) L st h := run_s rfl
theorem r_X9_comesBack_36 : run E g mi_X9_comesBack d lm RT F pm_X9_comesBack (n + 1) 36 L st h = exI E d lm RT F (run E g mi_X9_comesBack d lm RT F pm_X9_comesBack n) (29, 0, 0, 37, []) L st h := run_s rfl
theorem r_X9_comesBack_37 : run E g mi_X9_comesBack d lm RT F pm_X9_comesBack (n + 1) 37 L st h = exI E d lm RT F (run E g mi_X9_comesBack d lm RT F pm_X9_comesBack n) (38, 0, 0, 38, []) L st h := run_s rfl
theorem r_X9_comesBack_38 : run E g mi_X9_comesBack d lm RT F pm_X9_comesBack (n + 1) 38 L st h = exI E d lm RT F (run E g mi_X9_comesBack d lm RT F pm_X9_comesBack n) (0, 1, 0, 39, []) L st h := run_s rfl
theorem r_X9_comesBack_39 : run E g mi_X9_comesBack d lm RT F pm_X9_comesBack (n + 1) 39 L st h = exI E d lm RT F (run E g mi_X9_comesBack d lm RT F pm_X9_comesBack n) (9, 0, 0, 40, []) L st h := run_s rfl
theorem r_X9_comesBack_40 : run E g mi_X9_comesBack d lm RT F pm_X9_comesBack (n + 1) 40 L st h = exI E d lm RT F (run E g mi_X9_comesBack d lm RT F pm_X9_comesBack n) (39, 0, 0, 41, []) L st h := run_s rfl
theorem r_X9_comesBack_41 : run E g mi_X9_comesBack d lm RT F pm_X9_comesBack (n + 1) 41 L st h = exI E d lm RT F (run E g mi_X9_comesBack d lm RT F pm_X9_comesBack n) (2, ((0 : Nat) : Int), 0, 42, []) L st h := run_s rfl
theorem r_X9_comesBack_42 : run E g mi_X9_comesBack d lm RT F pm_X9_comesBack (n + 1) 42 L st h = exI E d lm RT F (run E g mi_X9_comesBack d lm RT F pm_X9_comesBack n) (35, ((9 : Nat) : Int), ((23 : Nat) : Int), 45, []) L st h := run_s rfl
theorem r_X9_comesBack_45 : run E g mi_X9_comesBack d lm RT F pm_X9_comesBack (n + 1) 45 L st h = exI E d lm RT F (run E g mi_X9_comesBack d lm RT F pm_X9_comesBack n) (1, ((1 : Nat) : Int), 0, 46, []) L st h := run_s rfl
theorem r_X9_comesBack_46 : run E g mi_X9_comesBack d lm RT F pm_X9_comesBack (n + 1) 46 L st h = exI E d lm RT F (run E g mi_X9_comesBack d lm RT F pm_X9_comesBack n) (38, 0, 0, 47, []) L st h := run_s rfl
theorem r_X9_comesBack_47 : run E g mi_X9_comesBack d lm RT F pm_X9_comesBack (n + 1) 47 L st h = exI E d lm RT F (run E g mi_X9_comesBack d lm RT F pm_X9_comesBack n) (4, ((4 : Nat) : Int), 0, 49, []) L st h := run_s rfl
theorem r_X9_comesBack_49 : run E g mi_X9_comesBack d lm RT F pm_X9_comesBack (n + 1) 49 L st h = exI E d lm RT F (run E g mi_X9_comesBack d lm RT F pm_X9_comesBack n) (2, ((0 : Nat) : Int), 0, 50, []) L st h := run_s rfl
theorem r_X9_comesBack_50 : run E g mi_X9_comesBack d lm RT F pm_X9_comesBack (n + 1) 50 L st h = exI E d lm RT F (run E g mi_X9_comesBack d lm RT F pm_X9_comesBack n) (35, ((9 : Nat) : Int), ((28 : Nat) : Int), 53, []) L st h := run_s rfl
theorem r_X9_comesBack_53 : run E g mi_X9_comesBack d lm RT F pm_X9_comesBack (n + 1) 53 L st h = exI E d lm RT F (run E g mi_X9_comesBack d lm RT F pm_X9_comesBack n) (1, ((2 : Nat) : Int), 0, 54, []) L st h := run_s rfl
theorem r_X9_comesBack_54 : run E g mi_X9_comesBack d lm RT F pm_X9_comesBack (n + 1) 54 L st h = exI E d lm RT F (run E g mi_X9_comesBack d lm RT F pm_X9_comesBack n) (38, 0, 0, 55, []) L st h := run_s rfl
theorem r_X9_comesBack_55 : run E g mi_X9_comesBack d lm RT F pm_X9_comesBack (n + 1) 55 L st h = exI E d lm RT F (run E g mi_X9_comesBack d lm RT F pm_X9_comesBack n) (2, ((0 : Nat) : Int), 0, 56, []) L st h := run_s rfl
theorem r_X9_comesBack_56 : run E g mi_X9_comesBack d lm RT F pm_X9_comesBack (n + 1) 56 L st h = exI E d lm RT F (run E g mi_X9_comesBack d lm RT F pm_X9_comesBack n) (35, ((9 : Nat) : Int), ((28 : Nat) : Int), 59, []) L st h := run_s rfl
theorem r_X9_comesBack_59 : run E g mi_X9_comesBack d lm RT F pm_X9_comesBack (n + 1) 59 L st h = exI E d lm RT F (run E g mi_X9_comesBack d lm RT F pm_X9_comesBack n) (0, 8, 0, 61, []) L st h := run_s rfl
theorem r_X9_comesBack_61 : run E g mi_X9_comesBack d lm RT F pm_X9_comesBack (n + 1) 61 L st h = exI E d lm RT F (run E g mi_X9_comesBack d lm RT F pm_X9_comesBack n) (1, ((1 : Nat) : Int), 0, 62, []) L st h := run_s rfl
theorem r_X9_comesBack_62 : run E g mi_X9_comesBack d lm RT F pm_X9_comesBack (n + 1) 62 L st h = exI E d lm RT F (run E g mi_X9_comesBack d lm RT F pm_X9_comesBack n) (10, 0, 0, 63, []) L st h := run_s rfl
theorem r_X9_comesBack_63 : run E g mi_X9_comesBack d lm RT F pm_X9_comesBack (n + 1) 63 L st h = exI E d lm RT F (run E g mi_X9_comesBack d lm RT F pm_X9_comesBack n) (2, ((0 : Nat) : Int), 0, 64, []) L st h := run_s rfl
theorem r_X9_comesBack_64 : run E g mi_X9_comesBack d lm RT F pm_X9_comesBack (n + 1) 64 L st h = exI E d lm RT F (run E g mi_X9_comesBack d lm RT F pm_X9_comesBack n) (35, ((9 : Nat) : Int), ((29 : Nat) : Int), 67, []) L st h := run_s rfl
theorem r_X9_comesBack_67 : run E g mi_X9_comesBack d lm RT F pm_X9_comesBack (n + 1) 67 L st h = exI E d lm RT F (run E g mi_X9_comesBack d lm RT F pm_X9_comesBack n) (1, ((1 : Nat) : Int), 0, 68, []) L st h := run_s rfl
theorem r_X9_comesBack_68 : run E g mi_X9_comesBack d lm RT F pm_X9_comesBack (n + 1) 68 L st h = exI E d lm RT F (run E g mi_X9_comesBack d lm RT F pm_X9_comesBack n) (38, 0, 0, 69, []) L st h := run_s rfl
theorem r_X9_comesBack_69 : run E g mi_X9_comesBack d lm RT F pm_X9_comesBack (n + 1) 69 L st h = exI E d lm RT F (run E g mi_X9_comesBack d lm RT F pm_X9_comesBack n) (8, 0, 0, 70, []) L st h := run_s rfl
theorem r_X9_comesBack_70 : run E g mi_X9_comesBack d lm RT F pm_X9_comesBack (n + 1) 70 L st h = exI E d lm RT F (run E g mi_X9_comesBack d lm RT F pm_X9_comesBack n) (38, 0, 0, 71, []) L st h := run_s rfl
theorem r_X9_comesBack_71 : run E g mi_X9_comesBack d lm RT F pm_X9_comesBack (n + 1) 71 L st h = exI E d lm RT F (run E g mi_X9_comesBack d lm RT F pm_X9_comesBack n) (9, 0, 0, 72, []) L st h := run_s rfl
theorem r_X9_comesBack_72 : run E g mi_X9_comesBack d lm RT F pm_X9_comesBack (n + 1) 72 L st h = exI E d lm RT F (run E g mi_X9_comesBack d lm RT F pm_X9_comesBack n) (4, ((5 : Nat) : Int), 0, 74, []) L st h := run_s rfl
theorem r_X9_comesBack_74 : run E g mi_X9_comesBack d lm RT F pm_X9_comesBack (n + 1) 74 L st h = exI E d lm RT F (run E g mi_X9_comesBack d lm RT F pm_X9_comesBack n) (0, 8, 0, 76, []) L st h := run_s rfl
theorem r_X9_comesBack_76 : run E g mi_X9_comesBack d lm RT F pm_X9_comesBack (n + 1) 76 L st h = exI E d lm RT F (run E g mi_X9_comesBack d lm RT F pm_X9_comesBack n) (1, ((4 : Nat) : Int), 0, 78, []) L st h := run_s rfl
theorem r_X9_comesBack_78 : run E g mi_X9_comesBack d lm RT F pm_X9_comesBack (n + 1) 78 L st h = exI E d lm RT F (run E g mi_X9_comesBack d lm RT F pm_X9_comesBack n) (10, 0, 0, 79, []) L st h := run_s rfl
theorem r_X9_comesBack_79 : run E g mi_X9_comesBack d lm RT F pm_X9_comesBack (n + 1) 79 L st h = exI E d lm RT F (run E g mi_X9_comesBack d lm RT F pm_X9_comesBack n) (2, ((0 : Nat) : Int), 0, 80, []) L st h := run_s rfl
theorem r_X9_comesBack_80 : run E g mi_X9_comesBack d lm RT F pm_X9_comesBack (n + 1) 80 L st h = exI E d lm RT F (run E g mi_X9_comesBack d lm RT F pm_X9_comesBack n) (35, ((9 : Nat) : Int), ((20 : Nat) : Int), 83, []) L st h := run_s rfl
theorem r_X9_comesBack_83 : run E g mi_X9_comesBack d lm RT F pm_X9_comesBack (n + 1) 83 L st h = exI E d lm RT F (run E g mi_X9_comesBack d lm RT F pm_X9_comesBack n) (1, ((1 : Nat) : Int), 0, 84, []) L st h := run_s rfl
theorem r_X9_comesBack_84 : run E g mi_X9_comesBack d lm RT F pm_X9_comesBack (n + 1) 84 L st h = exI E d lm RT F (run E g mi_X9_comesBack d lm RT F pm_X9_comesBack n) (38, 0, 0, 85, []) L st h := run_s rfl
theorem r_X9_comesBack_85 : run E g mi_X9_comesBack d lm RT F pm_X9_comesBack (n + 1) 85 L st h = exI E d lm RT F (run E g mi_X9_comesBack d lm RT F pm_X9_comesBack n) (8, 0, 0, 86, []) L st h := run_s rfl
theorem r_X9_comesBack_86 : run E g mi_X9_comesBack d lm RT F pm_X9_comesBack (n + 1) 86 L st h = exI E d lm RT F (run E g mi_X9_comesBack d lm RT F pm_X9_comesBack n) (4, ((6 : Nat) : Int), 0, 88, []) L st h := run_s rfl
theorem r_X9_comesBack_88 : run E g mi_X9_comesBack d lm RT F pm_X9_comesBack (n + 1) 88 L st h = exI E d lm RT F (run E g mi_X9_comesBack d lm RT F pm_X9_comesBack n) (2, ((0 : Nat) : Int), 0, 89, []) L st h := run_s rfl
theorem r_X9_comesBack_89 : run E g mi_X9_comesBack d lm RT F pm_X9_comesBack (n + 1) 89 L st h = exI E d lm RT F (run E g mi_X9_comesBack d lm RT F pm_X9_comesBack n) (1, ((6 : Nat) : Int), 0, 91, []) L st h := run_s rfl
theorem r_X9_comesBack_91 : run E g mi_X9_comesBack d lm RT F pm_X9_comesBack (n + 1) 91 L st h = exI E d lm RT F (run E g mi_X9_comesBack d lm RT F pm_X9_comesBack n) (1, ((5 : Nat) : Int), 0, 93, []) L st h := run_s rfl
theorem r_X9_comesBack_93 : run E g mi_X9_comesBack d lm RT F pm_X9_comesBack (n + 1) 93 L st h = exI E d lm RT F (run E g mi_X9_comesBack d lm RT F pm_X9_comesBack n) (51, ((129 : Nat) : Int), ((3 : Nat) : Int), 96, [9]) L st h := run_s rfl
theorem r_X9_comesBack_96 : run E g mi_X9_comesBack d lm RT F pm_X9_comesBack (n + 1) 96 L st h = exI E d lm RT F (run E g mi_X9_comesBack d lm RT F pm_X9_comesBack n) (2, ((0 : Nat) : Int), 0, 97, []) L st h := run_s rfl
theorem r_X9_comesBack_97 : run E g mi_X9_comesBack d lm RT F pm_X9_comesBack (n + 1) 97 L st h = exI E d lm RT F (run E g mi_X9_comesBack d lm RT F pm_X9_comesBack n) (35, ((9 : Nat) : Int), ((7 : Nat) : Int), 100, []) L st h := run_s rfl
theorem r_X9_comesBack_100 : run E g mi_X9_comesBack d lm RT F pm_X9_comesBack (n + 1) 100 L st h = exI E d lm RT F (run E g mi_X9_comesBack d lm RT F pm_X9_comesBack n) (2, ((0 : Nat) : Int), 0, 101, []) L st h := run_s rfl
theorem r_X9_comesBack_101 : run E g mi_X9_comesBack d lm RT F pm_X9_comesBack (n + 1) 101 L st h = exI E d lm RT F (run E g mi_X9_comesBack d lm RT F pm_X9_comesBack n) (1, ((6 : Nat) : Int), 0, 103, []) L st h := run_s rfl
theorem r_X9_comesBack_103 : run E g mi_X9_comesBack d lm RT F pm_X9_comesBack (n + 1) 103 L st h = exI E d lm RT F (run E g mi_X9_comesBack d lm RT F pm_X9_comesBack n) (51, ((130 : Nat) : Int), ((2 : Nat) : Int), 106, [9]) L st h := run_s rfl
theorem r_X9_comesBack_106 : run E g mi_X9_comesBack d lm RT F pm_X9_comesBack (n + 1) 106 L st h = exI E d lm RT F (run E g mi_X9_comesBack d lm RT F pm_X9_comesBack n) (10, 0, 0, 107, []) L st h := run_s rfl
theorem r_X9_comesBack_107 : run E g mi_X9_comesBack d lm RT F pm_X9_comesBack (n + 1) 107 L st h = exI E d lm RT F (run E g mi_X9_comesBack d lm RT F pm_X9_comesBack n) (1, ((5 : Nat) : Int), 0, 109, []) L st h := run_s rfl
theorem r_X9_comesBack_109 : run E g mi_X9_comesBack d lm RT F pm_X9_comesBack (n + 1) 109 L st h = exI E d lm RT F (run E g mi_X9_comesBack d lm RT F pm_X9_comesBack n) (11, 0, 0, 110, []) L st h := run_s rfl
theorem r_X9_comesBack_110 : run E g mi_X9_comesBack d lm RT F pm_X9_comesBack (n + 1) 110 L st h = exI E d lm RT F (run E g mi_X9_comesBack d lm RT F pm_X9_comesBack n) (4, ((7 : Nat) : Int), 0, 112, []) L st h := run_s rfl
theorem r_X9_comesBack_112 : run E g mi_X9_comesBack d lm RT F pm_X9_comesBack (n + 1) 112 L st h = exI E d lm RT F (run E g mi_X9_comesBack d lm RT F pm_X9_comesBack n) (1, ((7 : Nat) : Int), 0, 114, []) L st h := run_s rfl
theorem r_X9_comesBack_114 : run E g mi_X9_comesBack d lm RT F pm_X9_comesBack (n + 1) 114 L st h = exI E d lm RT F (run E g mi_X9_comesBack d lm RT F pm_X9_comesBack n) (2, ((0 : Nat) : Int), 0, 115, []) L st h := run_s rfl
theorem r_X9_comesBack_115 : run E g mi_X9_comesBack d lm RT F pm_X9_comesBack (n + 1) 115 L st h = exI E d lm RT F (run E g mi_X9_comesBack d lm RT F pm_X9_comesBack n) (35, ((9 : Nat) : Int), ((18 : Nat) : Int), 118, []) L st h := run_s rfl
theorem r_X9_comesBack_118 : run E g mi_X9_comesBack d lm RT F pm_X9_comesBack (n + 1) 118 L st h = exI E d lm RT F (run E g mi_X9_comesBack d lm RT F pm_X9_comesBack n) (1, ((1 : Nat) : Int), 0, 119, []) L st h := run_s rfl
theorem r_X9_comesBack_119 : run E g mi_X9_comesBack d lm RT F pm_X9_comesBack (n + 1) 119 L st h = exI E d lm RT F (run E g mi_X9_comesBack d lm RT F pm_X9_comesBack n) (38, 0, 0, 120, []) L st h := run_s rfl
theorem r_X9_comesBack_120 : run E g mi_X9_comesBack d lm RT F pm_X9_comesBack (n + 1) 120 L st h = exI E d lm RT F (run E g mi_X9_comesBack d lm RT F pm_X9_comesBack n) (0, 2, 0, 121, []) L st h := run_s rfl
theorem r_X9_comesBack_121 : run E g mi_X9_comesBack d lm RT F pm_X9_comesBack (n + 1) 121 L st h = exI E d lm RT F (run E g mi_X9_comesBack d lm RT F pm_X9_comesBack n) (32, 1, ((135 : Nat) : Int), 124, []) L st h := run_s rfl
theorem r_X9_comesBack_124 : run E g mi_X9_comesBack d lm RT F pm_X9_comesBack (n + 1) 124 L st h = exI E d lm RT F (run E g mi_X9_comesBack d lm RT F pm_X9_comesBack n) (0, 1000, 0, 127, []) L st h := run_s rfl
theorem r_X9_comesBack_127 : run E g mi_X9_comesBack d lm RT F pm_X9_comesBack (n + 1) 127 L st h = exI E d lm RT F (run E g mi_X9_comesBack d lm RT F pm_X9_comesBack n) (1, ((7 : Nat) : Int), 0, 129, []) L st h := run_s rfl
theorem r_X9_comesBack_129 : run E g mi_X9_comesBack d lm RT F pm_X9_comesBack (n + 1) 129 L st h = exI E d lm RT F (run E g mi_X9_comesBack d lm RT F pm_X9_comesBack n) (9, 0, 0, 130, []) L st h := run_s rfl
theorem r_X9_comesBack_130 : run E g mi_X9_comesBack d lm RT F pm_X9_comesBack (n + 1) 130 L st h = exI E d lm RT F (run E g mi_X9_comesBack d lm RT F pm_X9_comesBack n) (0, 4, 0, 131, []) L st h := run_s rfl
theorem r_X9_comesBack_131 : run E g mi_X9_comesBack d lm RT F pm_X9_comesBack (n + 1) 131 L st h = exI E d lm RT F (run E g mi_X9_comesBack d lm RT F pm_X9_comesBack n) (11, 0, 0, 132, []) L st h := run_s rfl
theorem r_X9_comesBack_132 : run E g mi_X9_comesBack d lm RT F pm_X9_comesBack (n + 1) 132 L st h = exI E d lm RT F (run E g mi_X9_comesBack d lm RT F pm_X9_comesBack n) (33, ((136 : Nat) : Int), 0, 0, []) L st h := run_s rfl
theorem r_X9_comesBack_135 : run E g mi_X9_comesBack d lm RT F pm_X9_comesBack (n + 1) 135 L st h = exI E d lm RT F (run E g mi_X9_comesBack d lm RT F pm_X9_comesBack n) (0, 0, 0, 136, []) L st h := run_s rfl
theorem r_X9_comesBack_136 : run E g mi_X9_comesBack d lm RT F pm_X9_comesBack (n + 1) 136 L st h = exI E d lm RT F (run E g mi_X9_comesBack d lm RT F pm_X9_comesBack n) (8, 0, 0, 137, []) L st h := run_s rfl
theorem r_X9_comesBack_137 : run E g mi_X9_comesBack d lm RT F pm_X9_comesBack (n + 1) 137 L st h = exI E d lm RT F (run E g mi_X9_comesBack d lm RT F pm_X9_comesBack n) (4, ((7 : Nat) : Int), 0, 139, []) L st h := run_s rfl
theorem r_X9_comesBack_139 : run E g mi_X9_comesBack d lm RT F pm_X9_comesBack (n + 1) 139 L st h = exI E d lm RT F (run E g mi_X9_comesBack d lm RT F pm_X9_comesBack n) (2, ((0 : Nat) : Int), 0, 140, []) L st h := run_s rfl
theorem r_X9_comesBack_140 : run E g mi_X9_comesBack d lm RT F pm_X9_comesBack (n + 1) 140 L st h = exI E d lm RT F (run E g mi_X9_comesBack d lm RT F pm_X9_comesBack n) (1, ((4 : Nat) : Int), 0, 142, []) L st h := run_s rfl
theorem r_X9_comesBack_142 : run E g mi_X9_comesBack d lm RT F pm_X9_comesBack (n + 1) 142 L st h = exI E d lm RT F (run E g mi_X9_comesBack d lm RT F pm_X9_comesBack n) (2, ((0 : Nat) : Int), 0, 143, []) L st h := run_s rfl
theorem r_X9_comesBack_143 : run E g mi_X9_comesBack d lm RT F pm_X9_comesBack (n + 1) 143 L st h = exI E d lm RT F (run E g mi_X9_comesBack d lm RT F pm_X9_comesBack n) (35, ((9 : Nat) : Int), ((20 : Nat) : Int), 146, []) L st h := run_s rfl
theorem r_X9_comesBack_146 : run E g mi_X9_comesBack d lm RT F pm_X9_comesBack (n + 1) 146 L st h = exI E d lm RT F (run E g mi_X9_comesBack d lm RT F pm_X9_comesBack n) (1, ((1 : Nat) : Int), 0, 147, []) L st h := run_s rfl
theorem r_X9_comesBack_147 : run E g mi_X9_comesBack d lm RT F pm_X9_comesBack (n + 1) 147 L st h = exI E d lm RT F (run E g mi_X9_comesBack d lm RT F pm_X9_comesBack n) (38, 0, 0, 148, []) L st h := run_s rfl
theorem r_X9_comesBack_148 : run E g mi_X9_comesBack d lm RT F pm_X9_comesBack (n + 1) 148 L st h = exI E d lm RT F (run E g mi_X9_comesBack d lm RT F pm_X9_comesBack n) (1, ((3 : Nat) : Int), 0, 149, []) L st h := run_s rfl
theorem r_X9_comesBack_149 : run E g mi_X9_comesBack d lm RT F pm_X9_comesBack (n + 1) 149 L st h = exI E d lm RT F (run E g mi_X9_comesBack d lm RT F pm_X9_comesBack n) (1, ((7 : Nat) : Int), 0, 151, []) L st h := run_s rfl
theorem r_X9_comesBack_151 : run E g mi_X9_comesBack d lm RT F pm_X9_comesBack (n + 1) 151 L st h = exI E d lm RT F (run E g mi_X9_comesBack d lm RT F pm_X9_comesBack n) (51, ((113 : Nat) : Int), ((5 : Nat) : Int), 154, [9]) L st h := run_s rfl
theorem r_X9_comesBack_154 : run E g mi_X9_comesBack d lm RT F pm_X9_comesBack (n + 1) 154 L st h = exI E d lm RT F (run E g mi_X9_comesBack d lm RT F pm_X9_comesBack n) (2, ((0 : Nat) : Int), 0, 155, []) L st h := run_s rfl
theorem r_X9_comesBack_155 : run E g mi_X9_comesBack d lm RT F pm_X9_comesBack (n + 1) 155 L st h = exI E d lm RT F (run E g mi_X9_comesBack d lm RT F pm_X9_comesBack n) (35, ((9 : Nat) : Int), ((29 : Nat) : Int), 158, []) L st h := run_s rfl
theorem r_X9_comesBack_158 : run E g mi_X9_comesBack d lm RT F pm_X9_comesBack (n + 1) 158 L st h = exI E d lm RT F (run E g mi_X9_comesBack d lm RT F pm_X9_comesBack n) (1, ((1 : Nat) : Int), 0, 159, []) L st h := run_s rfl
theorem r_X9_comesBack_159 : run E g mi_X9_comesBack d lm RT F pm_X9_comesBack (n + 1) 159 L st h = exI E d lm RT F (run E g mi_X9_comesBack d lm RT F pm_X9_comesBack n) (38, 0, 0, 160, []) L st h := run_s rfl
theorem r_X9_comesBack_160 : run E g mi_X9_comesBack d lm RT F pm_X9_comesBack (n + 1) 160 L st h = exI E d lm RT F (run E g mi_X9_comesBack d lm RT F pm_X9_comesBack n) (31, 1, ((193 : Nat) : Int), 163, []) L st h := run_s rfl
theorem r_X9_comesBack_163 : run E g mi_X9_comesBack d lm RT F pm_X9_comesBack (n + 1) 163 L st h = exI E d lm RT F (run E g mi_X9_comesBack d lm RT F pm_X9_comesBack n) (2, ((0 : Nat) : Int), 0, 164, []) L st h := run_s rfl
theorem r_X9_comesBack_164 : run E g mi_X9_comesBack d lm RT F pm_X9_comesBack (n + 1) 164 L st h = exI E d lm RT F (run E g mi_X9_comesBack d lm RT F pm_X9_comesBack n) (35, ((9 : Nat) : Int), ((17 : Nat) : Int), 167, []) L st h := run_s rfl
theorem r_X9_comesBack_167 : run E g mi_X9_comesBack d lm RT F pm_X9_comesBack (n + 1) 167 L st h = exI E d lm RT F (run E g mi_X9_comesBack d lm RT F pm_X9_comesBack n) (1, ((1 : Nat) : Int), 0, 168, []) L st h := run_s rfl
theorem r_X9_comesBack_168 : run E g mi_X9_comesBack d lm RT F pm_X9_comesBack (n + 1) 168 L st h = exI E d lm RT F (run E g mi_X9_comesBack d lm RT F pm_X9_comesBack n) (0, 0, 0, 169, []) L st h := run_s rfl
theorem r_X9_comesBack_169 : run E g mi_X9_comesBack d lm RT F pm_X9_comesBack (n + 1) 169 L st h = exI E d lm RT F (run E g mi_X9_comesBack d lm RT F pm_X9_comesBack n) (39, 1, 0, 170, []) L st h := run_s rfl
theorem r_X9_comesBack_170 : run E g mi_X9_comesBack d lm RT F pm_X9_comesBack (n + 1) 170 L st h = exI E d lm RT F (run E g mi_X9_comesBack d lm RT F pm_X9_comesBack n) (2, ((0 : Nat) : Int), 0, 171, []) L st h := run_s rfl
theorem r_X9_comesBack_171 : run E g mi_X9_comesBack d lm RT F pm_X9_comesBack (n + 1) 171 L st h = exI E d lm RT F (run E g mi_X9_comesBack d lm RT F pm_X9_comesBack n) (28, 0, 0, 172, []) L st h := run_s rfl
theorem r_X9_comesBack_172 : run E g mi_X9_comesBack d lm RT F pm_X9_comesBack (n + 1) 172 L st h = exI E d lm RT F (run E g mi_X9_comesBack d lm RT F pm_X9_comesBack n) (35, ((9 : Nat) : Int), ((14 : Nat) : Int), 175, []) L st h := run_s rfl
theorem r_X9_comesBack_175 : run E g mi_X9_comesBack d lm RT F pm_X9_comesBack (n + 1) 175 L st h = exI E d lm RT F (run E g mi_X9_comesBack d lm RT F pm_X9_comesBack n) (0, 1, 0, 176, []) L st h := run_s rfl
theorem r_X9_comesBack_176 : run E g mi_X9_comesBack d lm RT F pm_X9_comesBack (n + 1) 176 L st h = exI E d lm RT F (run E g mi_X9_comesBack d lm RT F pm_X9_comesBack n) (8, 0, 0, 177, []) L st h := run_s rfl
theorem r_X9_comesBack_177 : run E g mi_X9_comesBack d lm RT F pm_X9_comesBack (n + 1) 177 L st h = exI E d lm RT F (run E g mi_X9_comesBack d lm RT F pm_X9_comesBack n) (36, ((9 : Nat) : Int), ((14 : Nat) : Int), 180, [0]) L st h := run_s rfl
theorem r_X9_comesBack_180 : run E g mi_X9_comesBack d lm RT F pm_X9_comesBack (n + 1) 180 L st h = exI E d lm RT F (run E g mi_X9_comesBack d lm RT F pm_X9_comesBack n) (2, ((0 : Nat) : Int), 0, 181, []) L st h := run_s rfl
theorem r_X9_comesBack_181 : run E g mi_X9_comesBack d lm RT F pm_X9_comesBack (n + 1) 181 L st h = exI E d lm RT F (run E g mi_X9_comesBack d lm RT F pm_X9_comesBack n) (28, 0, 0, 182, []) L st h := run_s rfl
theorem r_X9_comesBack_182 : run E g mi_X9_comesBack d lm RT F pm_X9_comesBack (n + 1) 182 L st h = exI E d lm RT F (run E g mi_X9_comesBack d lm RT F pm_X9_comesBack n) (35, ((9 : Nat) : Int), ((16 : Nat) : Int), 185, []) L st h := run_s rfl
theorem r_X9_comesBack_185 : run E g mi_X9_comesBack d lm RT F pm_X9_comesBack (n + 1) 185 L st h = exI E d lm RT F (run E g mi_X9_comesBack d lm RT F pm_X9_comesBack n) (1, ((5 : Nat) : Int), 0, 187, []) L st h := run_s rfl
theorem r_X9_comesBack_187 : run E g mi_X9_comesBack d lm RT F pm_X9_comesBack (n + 1) 187 L st h = exI E d lm RT F (run E g mi_X9_comesBack d lm RT F pm_X9_comesBack n) (8, 0, 0, 188, []) L st h := run_s rfl
theorem r_X9_comesBack_188 : run E g mi_X9_comesBack d lm RT F pm_X9_comesBack (n + 1) 188 L st h = exI E d lm RT F (run E g mi_X9_comesBack d lm RT F pm_X9_comesBack n) (36, ((9 : Nat) : Int), ((16 : Nat) : Int), 191, [0]) L st h := run_s rfl
theorem r_X9_comesBack_191 : run E g mi_X9_comesBack d lm RT F pm_X9_comesBack (n + 1) 191 L st h = exI E d lm RT F (run E g mi_X9_comesBack d lm RT F pm_X9_comesBack n) (0, 1, 0, 192, []) L st h := run_s rfl
theorem r_X9_comesBack_192 : run E g mi_X9_comesBack d lm RT F pm_X9_comesBack (n + 1) 192 L st h = exI E d lm RT F (run E g mi_X9_comesBack d lm RT F pm_X9_comesBack n) (48, 1, 0, 0, []) L st h := run_s rfl
theorem r_X9_comesBack_193 : run E g mi_X9_comesBack d lm RT F pm_X9_comesBack (n + 1) 193 L st h = exI E d lm RT F (run E g mi_X9_comesBack d lm RT F pm_X9_comesBack n) (2, ((0 : Nat) : Int), 0, 194, []) L st h := run_s rfl
theorem r_X9_comesBack_194 : run E g mi_X9_comesBack d lm RT F pm_X9_comesBack (n + 1) 194 L st h = exI E d lm RT F (run E g mi_X9_comesBack d lm RT F pm_X9_comesBack n) (1, ((1 : Nat) : Int), 0, 195, []) L st h := run_s rfl
theorem r_X9_comesBack_195 : run E g mi_X9_comesBack d lm RT F pm_X9_comesBack (n + 1) 195 L st h = exI E d lm RT F (run E g mi_X9_comesBack d lm RT F pm_X9_comesBack n) (51, ((128 : Nat) : Int), ((2 : Nat) : Int), 198, [9]) L st h := run_s rfl
theorem r_X9_comesBack_198 : run E g mi_X9_comesBack d lm RT F pm_X9_comesBack (n + 1) 198 L st h = exI E d lm RT F (run E g mi_X9_comesBack d lm RT F pm_X9_comesBack n) (0, 0, 0, 199, []) L st h := run_s rfl
theorem r_X9_comesBack_199 : run E g mi_X9_comesBack d lm RT F pm_X9_comesBack (n + 1) 199 L st h = exI E d lm RT F (run E g mi_X9_comesBack d lm RT F pm_X9_comesBack n) (48, 1, 0, 0, []) L st h := run_s rfl
theorem e_X9_comesBack (n : Nat) {pc : Nat} (hF : FOk E d F) (hx : run E g mi_X9_comesBack d lm RT F pm_X9_comesBack n pc L st h) : G E g mi_X9_comesBack d lm RT pc L st h := run_sound hF pk_X9_comesBack n pc L st h hx
end
def mi_X9_comesOut : MI := (9, cX9_comesOut, 3, 4, false)
theorem mo_X9_comesOut : miOk mi_X9_comesOut (mt 132) = true := by decide +kernel
def tl_X9_comesOut : List (Nat × PT) := [(0, (2, ((0 : Nat) : Int), 0, 1, [])),
  (1, (35, ((9 : Nat) : Int), ((23 : Nat) : Int), 4, [])),
  (4, (1, ((1 : Nat) : Int), 0, 5, [])),
  (5, (38, 0, 0, 6, [])),
  (6, (4, ((2 : Nat) : Int), 0, 7, [])),
  (7, (2, ((0 : Nat) : Int), 0, 8, [])),
  (8, (35, ((9 : Nat) : Int), ((22 : Nat) : Int), 11, [])),
  (11, (1, ((1 : Nat) : Int), 0, 12, [])),
  (12, (0, (-9), 0, 14, [])),
  (14, (39, 0, 0, 15, [])),
  (15, (2, ((0 : Nat) : Int), 0, 16, [])),
  (16, (1, ((1 : Nat) : Int), 0, 17, [])),
  (17, (1, ((2 : Nat) : Int), 0, 18, [])),
  (18, (51, ((127 : Nat) : Int), ((3 : Nat) : Int), 21, [9])),
  (21, (1, ((2 : Nat) : Int), 0, 22, [])),
  (22, (2, ((0 : Nat) : Int), 0, 23, [])),
  (23, (35, ((9 : Nat) : Int), ((20 : Nat) : Int), 26, [])),
  (26, (1, ((1 : Nat) : Int), 0, 27, [])),
  (27, (38, 0, 0, 28, [])),
  (28, (32, 0, ((39 : Nat) : Int), 31, [])),
  (31, (2, ((0 : Nat) : Int), 0, 32, [])),
  (32, (1, ((1 : Nat) : Int), 0, 33, [])),
  (33, (1, ((2 : Nat) : Int), 0, 34, [])),
  (34, (51, ((125 : Nat) : Int), ((3 : Nat) : Int), 37, [9])),
  (37, (30, 0, 0, 38, [])),
  (38, (48, 4, 0, 0, [])),
  (39, (2, ((0 : Nat) : Int), 0, 40, [])),
  (40, (35, ((9 : Nat) : Int), ((21 : Nat) : Int), 43, [])),
  (43, (1, ((1 : Nat) : Int), 0, 44, [])),
  (44, (0, 1, 0, 45, [])),
  (45, (39, 1, 0, 46, [])),
  (46, (2, ((0 : Nat) : Int), 0, 47, [])),
  (47, (35, ((9 : Nat) : Int), ((29 : Nat) : Int), 50, [])),
  (50, (1, ((1 : Nat) : Int), 0, 51, [])),
  (51, (2, ((0 : Nat) : Int), 0, 52, [])),
  (52, (35, ((9 : Nat) : Int), ((26 : Nat) : Int), 55, [])),
  (55, (1, ((1 : Nat) : Int), 0, 56, [])),
  (56, (38, 0, 0, 57, [])),
  (57, (0, 1, 0, 58, [])),
  (58, (9, 0, 0, 59, [])),
  (59, (39, 0, 0, 60, [])),
  (60, (2, ((0 : Nat) : Int), 0, 61, [])),
  (61, (1, ((1 : Nat) : Int), 0, 62, [])),
  (62, (51, ((128 : Nat) : Int), ((2 : Nat) : Int), 65, [9])),
  (65, (48, 4, 0, 0, []))]
theorem tk_X9_comesOut : tOk mi_X9_comesOut tl_X9_comesOut = true := by decide +kernel
def pm_X9_comesOut (pc : Nat) : Option PT := if [].contains pc then none else tl_X9_comesOut.lookup pc
theorem pk_X9_comesOut : ∀ pc pt, pm_X9_comesOut pc = some pt → okPt mi_X9_comesOut pc pt := fun pc pt h => tOk_pm tk_X9_comesOut h
section
variable {E : ET} {g : GT} {d : Nat} {lm : Nat × Nat} {RT : RTy} {F : FT} {n : Nat} {L : LV} {st : List AV} {h : AH}
theorem r_X9_comesOut_0 : run E g mi_X9_comesOut d lm RT F pm_X9_comesOut (n + 1) 0 L st h = exI E d lm RT F (run E g mi_X9_comesOut d lm RT F pm_X9_comesOut n) (2, ((0 : Nat) : Int), 0, 1, []) L st h := run_s rfl
theorem r_X9_comesOut_1 : run E g mi_X9_comesOut d lm RT F pm_X9_comesOut (n + 1) 1 L st h = exI E d lm RT F (run E g mi_X9_comesOut d lm RT F pm_X9_comesOut n) (35, ((9 : Nat) : Int), ((23 : Nat) : Int), 4, []) L st h := run_s rfl
theorem r_X9_comesOut_4 : run E g mi_X9_comesOut d lm RT F pm_X9_comesOut (n + 1) 4 L st h = exI E d lm RT F (run E g mi_X9_comesOut d lm RT F pm_X9_comesOut n) (1, ((1 : Nat) : Int), 0, 5, []) L st h := run_s rfl
theorem r_X9_comesOut_5 : run E g mi_X9_comesOut d lm RT F pm_X9_comesOut (n + 1) 5 L st h = exI E d lm RT F (run E g mi_X9_comesOut d lm RT F pm_X9_comesOut n) (38, 0, 0, 6, []) L st h := run_s rfl
theorem r_X9_comesOut_6 : run E g mi_X9_comesOut d lm RT F pm_X9_comesOut (n + 1) 6 L st h = exI E d lm RT F (run E g mi_X9_comesOut d lm RT F pm_X9_comesOut n) (4, ((2 : Nat) : Int), 0, 7, []) L st h := run_s rfl
theorem r_X9_comesOut_7 : run E g mi_X9_comesOut d lm RT F pm_X9_comesOut (n + 1) 7 L st h = exI E d lm RT F (run E g mi_X9_comesOut d lm RT F pm_X9_comesOut n) (2, ((0 : Nat) : Int), 0, 8, []) L st h := run_s rfl
theorem r_X9_comesOut_8 : run E g mi_X9_comesOut d lm RT F pm_X9_comesOut (n + 1) 8 L st h = exI E d lm RT F (run E g mi_X9_comesOut d lm RT F pm_X9_comesOut n) (35, ((9 : Nat) : Int), ((22 : Nat) : Int), 11, []) L st h := run_s rfl
theorem r_X9_comesOut_11 : run E g mi_X9_comesOut d lm RT F pm_X9_comesOut (n + 1) 11 L st h = exI E d lm RT F (run E g mi_X9_comesOut d lm RT F pm_X9_comesOut n) (1, ((1 : Nat) : Int), 0, 12, []) L st h := run_s rfl
theorem r_X9_comesOut_12 : run E g mi_X9_comesOut d lm RT F pm_X9_comesOut (n + 1) 12 L st h = exI E d lm RT F (run E g mi_X9_comesOut d lm RT F pm_X9_comesOut n) (0, (-9), 0, 14, []) L st h := run_s rfl
theorem r_X9_comesOut_14 : run E g mi_X9_comesOut d lm RT F pm_X9_comesOut (n + 1) 14 L st h = exI E d lm RT F (run E g mi_X9_comesOut d lm RT F pm_X9_comesOut n) (39, 0, 0, 15, []) L st h := run_s rfl
theorem r_X9_comesOut_15 : run E g mi_X9_comesOut d lm RT F pm_X9_comesOut (n + 1) 15 L st h = exI E d lm RT F (run E g mi_X9_comesOut d lm RT F pm_X9_comesOut n) (2, ((0 : Nat) : Int), 0, 16, []) L st h := run_s rfl
theorem r_X9_comesOut_16 : run E g mi_X9_comesOut d lm RT F pm_X9_comesOut (n + 1) 16 L st h = exI E d lm RT F (run E g mi_X9_comesOut d lm RT F pm_X9_comesOut n) (1, ((1 : Nat) : Int), 0, 17, []) L st h := run_s rfl
theorem r_X9_comesOut_17 : run E g mi_X9_comesOut d lm RT F pm_X9_comesOut (n + 1) 17 L st h = exI E d lm RT F (run E g mi_X9_comesOut d lm RT F pm_X9_comesOut n) (1, ((2 : Nat) : Int), 0, 18, []) L st h := run_s rfl
theorem r_X9_comesOut_18 : run E g mi_X9_comesOut d lm RT F pm_X9_comesOut (n + 1) 18 L st h = exI E d lm RT F (run E g mi_X9_comesOut d lm RT F pm_X9_comesOut n) (51, ((127 : Nat) : Int), ((3 : Nat) : Int), 21, [9]) L st h := run_s rfl
theorem r_X9_comesOut_21 : run E g mi_X9_comesOut d lm RT F pm_X9_comesOut (n + 1) 21 L st h = exI E d lm RT F (run E g mi_X9_comesOut d lm RT F pm_X9_comesOut n) (1, ((2 : Nat) : Int), 0, 22, []) L st h := run_s rfl
theorem r_X9_comesOut_22 : run E g mi_X9_comesOut d lm RT F pm_X9_comesOut (n + 1) 22 L st h = exI E d lm RT F (run E g mi_X9_comesOut d lm RT F pm_X9_comesOut n) (2, ((0 : Nat) : Int), 0, 23, []) L st h := run_s rfl
theorem r_X9_comesOut_23 : run E g mi_X9_comesOut d lm RT F pm_X9_comesOut (n + 1) 23 L st h = exI E d lm RT F (run E g mi_X9_comesOut d lm RT F pm_X9_comesOut n) (35, ((9 : Nat) : Int), ((20 : Nat) : Int), 26, []) L st h := run_s rfl
theorem r_X9_comesOut_26 : run E g mi_X9_comesOut d lm RT F pm_X9_comesOut (n + 1) 26 L st h = exI E d lm RT F (run E g mi_X9_comesOut d lm RT F pm_X9_comesOut n) (1, ((1 : Nat) : Int), 0, 27, []) L st h := run_s rfl
theorem r_X9_comesOut_27 : run E g mi_X9_comesOut d lm RT F pm_X9_comesOut (n + 1) 27 L st h = exI E d lm RT F (run E g mi_X9_comesOut d lm RT F pm_X9_comesOut n) (38, 0, 0, 28, []) L st h := run_s rfl
theorem r_X9_comesOut_28 : run E g mi_X9_comesOut d lm RT F pm_X9_comesOut (n + 1) 28 L st h = exI E d lm RT F (run E g mi_X9_comesOut d lm RT F pm_X9_comesOut n) (32, 0, ((39 : Nat) : Int), 31, []) L st h := run_s rfl
theorem r_X9_comesOut_31 : run E g mi_X9_comesOut d lm RT F pm_X9_comesOut (n + 1) 31 L st h = exI E d lm RT F (run E g mi_X9_comesOut d lm RT F pm_X9_comesOut n) (2, ((0 : Nat) : Int), 0, 32, []) L st h := run_s rfl
theorem r_X9_comesOut_32 : run E g mi_X9_comesOut d lm RT F pm_X9_comesOut (n + 1) 32 L st h = exI E d lm RT F (run E g mi_X9_comesOut d lm RT F pm_X9_comesOut n) (1, ((1 : Nat) : Int), 0, 33, []) L st h := run_s rfl
theorem r_X9_comesOut_33 : run E g mi_X9_comesOut d lm RT F pm_X9_comesOut (n + 1) 33 L st h = exI E d lm RT F (run E g mi_X9_comesOut d lm RT F pm_X9_comesOut n) (1, ((2 : Nat) : Int), 0, 34, []) L st h := run_s rfl
theorem r_X9_comesOut_34 : run E g mi_X9_comesOut d lm RT F pm_X9_comesOut (n + 1) 34 L st h = exI E d lm RT F (run E g mi_X9_comesOut d lm RT F pm_X9_comesOut n) (51, ((125 : Nat) : Int), ((3 : Nat) : Int), 37, [9]) L st h := run_s rfl
theorem r_X9_comesOut_37 : run E g mi_X9_comesOut d lm RT F pm_X9_comesOut (n + 1) 37 L st h = exI E d lm RT F (run E g mi_X9_comesOut d lm RT F pm_X9_comesOut n) (30, 0, 0, 38, []) L st h := run_s rfl
theorem r_X9_comesOut_38 : run E g mi_X9_comesOut d lm RT F pm_X9_comesOut (n + 1) 38 L st h = exI E d lm RT F (run E g mi_X9_comesOut d lm RT F pm_X9_comesOut n) (48, 4, 0, 0, []) L st h := run_s rfl
theorem r_X9_comesOut_39 : run E g mi_X9_comesOut d lm RT F pm_X9_comesOut (n + 1) 39 L st h = exI E d lm RT F (run E g mi_X9_comesOut d lm RT F pm_X9_comesOut n) (2, ((0 : Nat) : Int), 0, 40, []) L st h := run_s rfl
theorem r_X9_comesOut_40 : run E g mi_X9_comesOut d lm RT F pm_X9_comesOut (n + 1) 40 L st h = exI E d lm RT F (run E g mi_X9_comesOut d lm RT F pm_X9_comesOut n) (35, ((9 : Nat) : Int), ((21 : Nat) : Int), 43, []) L st h := run_s rfl
theorem r_X9_comesOut_43 : run E g mi_X9_comesOut d lm RT F pm_X9_comesOut (n + 1) 43 L st h = exI E d lm RT F (run E g mi_X9_comesOut d lm RT F pm_X9_comesOut n) (1, ((1 : Nat) : Int), 0, 44, []) L st h := run_s rfl
theorem r_X9_comesOut_44 : run E g mi_X9_comesOut d lm RT F pm_X9_comesOut (n + 1) 44 L st h = exI E d lm RT F (run E g mi_X9_comesOut d lm RT F pm_X9_comesOut n) (0, 1, 0, 45, []) L st h := run_s rfl
theorem r_X9_comesOut_45 : run E g mi_X9_comesOut d lm RT F pm_X9_comesOut (n + 1) 45 L st h = exI E d lm RT F (run E g mi_X9_comesOut d lm RT F pm_X9_comesOut n) (39, 1, 0, 46, []) L st h := run_s rfl
theorem r_X9_comesOut_46 : run E g mi_X9_comesOut d lm RT F pm_X9_comesOut (n + 1) 46 L st h = exI E d lm RT F (run E g mi_X9_comesOut d lm RT F pm_X9_comesOut n) (2, ((0 : Nat) : Int), 0, 47, []) L st h := run_s rfl
theorem r_X9_comesOut_47 : run E g mi_X9_comesOut d lm RT F pm_X9_comesOut (n + 1) 47 L st h = exI E d lm RT F (run E g mi_X9_comesOut d lm RT F pm_X9_comesOut n) (35, ((9 : Nat) : Int), ((29 : Nat) : Int), 50, []) L st h := run_s rfl
theorem r_X9_comesOut_50 : run E g mi_X9_comesOut d lm RT F pm_X9_comesOut (n + 1) 50 L st h = exI E d lm RT F (run E g mi_X9_comesOut d lm RT F pm_X9_comesOut n) (1, ((1 : Nat) : Int), 0, 51, []) L st h := run_s rfl
theorem r_X9_comesOut_51 : run E g mi_X9_comesOut d lm RT F pm_X9_comesOut (n + 1) 51 L st h = exI E d lm RT F (run E g mi_X9_comesOut d lm RT F pm_X9_comesOut n) (2, ((0 : Nat) : Int), 0, 52, []) L st h := run_s rfl
theorem r_X9_comesOut_52 : run E g mi_X9_comesOut d lm RT F pm_X9_comesOut (n + 1) 52 L st h = exI E d lm RT F (run E g mi_X9_comesOut d lm RT F pm_X9_comesOut n) (35, ((9 : Nat) : Int), ((26 : Nat) : Int), 55, []) L st h := run_s rfl
theorem r_X9_comesOut_55 : run E g mi_X9_comesOut d lm RT F pm_X9_comesOut (n + 1) 55 L st h = exI E d lm RT F (run E g mi_X9_comesOut d lm RT F pm_X9_comesOut n) (1, ((1 : Nat) : Int), 0, 56, []) L st h := run_s rfl
theorem r_X9_comesOut_56 : run E g mi_X9_comesOut d lm RT F pm_X9_comesOut (n + 1) 56 L st h = exI E d lm RT F (run E g mi_X9_comesOut d lm RT F pm_X9_comesOut n) (38, 0, 0, 57, []) L st h := run_s rfl
theorem r_X9_comesOut_57 : run E g mi_X9_comesOut d lm RT F pm_X9_comesOut (n + 1) 57 L st h = exI E d lm RT F (run E g mi_X9_comesOut d lm RT F pm_X9_comesOut n) (0, 1, 0, 58, []) L st h := run_s rfl
theorem r_X9_comesOut_58 : run E g mi_X9_comesOut d lm RT F pm_X9_comesOut (n + 1) 58 L st h = exI E d lm RT F (run E g mi_X9_comesOut d lm RT F pm_X9_comesOut n) (9, 0, 0, 59, []) L st h := run_s rfl
theorem r_X9_comesOut_59 : run E g mi_X9_comesOut d lm RT F pm_X9_comesOut (n + 1) 59 L st h = exI E d lm RT F (run E g mi_X9_comesOut d lm RT F pm_X9_comesOut n) (39, 0, 0, 60, []) L st h := run_s rfl
theorem r_X9_comesOut_60 : run E g mi_X9_comesOut d lm RT F pm_X9_comesOut (n + 1) 60 L st h = exI E d lm RT F (run E g mi_X9_comesOut d lm RT F pm_X9_comesOut n) (2, ((0 : Nat) : Int), 0, 61, []) L st h := run_s rfl
theorem r_X9_comesOut_61 : run E g mi_X9_comesOut d lm RT F pm_X9_comesOut (n + 1) 61 L st h = exI E d lm RT F (run E g mi_X9_comesOut d lm RT F pm_X9_comesOut n) (1, ((1 : Nat) : Int), 0, 62, []) L st h := run_s rfl
theorem r_X9_comesOut_62 : run E g mi_X9_comesOut d lm RT F pm_X9_comesOut (n + 1) 62 L st h = exI E d lm RT F (run E g mi_X9_comesOut d lm RT F pm_X9_comesOut n) (51, ((128 : Nat) : Int), ((2 : Nat) : Int), 65, [9]) L st h := run_s rfl
theorem r_X9_comesOut_65 : run E g mi_X9_comesOut d lm RT F pm_X9_comesOut (n + 1) 65 L st h = exI E d lm RT F (run E g mi_X9_comesOut d lm RT F pm_X9_comesOut n) (48, 4, 0, 0, []) L st h := run_s rfl
theorem e_X9_comesOut (n : Nat) {pc : Nat} (hF : FOk E d F) (hx : run E g mi_X9_comesOut d lm RT F pm_X9_comesOut n pc L st h) : G E g mi_X9_comesOut d lm RT pc L st h := run_sound hF pk_X9_comesOut n pc L st h hx
end
