def mi_X0_init : MI := (0, cX0_init, 1, 4, true)
theorem mo_X0_init : miOk mi_X0_init (mt 0) = true := by decide +kernel
def tl_X0_init : List (Nat × PT) := [(0, (2, ((0 : Nat) : Int), 0, 1, [])),
  (1, (47, 0, 0, 4, [])),
  (4, (2, ((0 : Nat) : Int), 0, 5, [])),
  (5, (0, 1, 0, 6, [])),
  (6, (36, ((0 : Nat) : Int), ((0 : Nat) : Int), 9, [0])),
  (9, (2, ((0 : Nat) : Int), 0, 10, [])),
  (10, (0, 0, 0, 11, [])),
  (11, (36, ((0 : Nat) : Int), ((1 : Nat) : Int), 14, [0])),
  (14, (48, 4, 0, 0, []))]
theorem tk_X0_init : tOk mi_X0_init tl_X0_init = true := by decide +kernel
def pm_X0_init (pc : Nat) : Option PT := if [].contains pc then none else tl_X0_init.lookup pc
theorem pk_X0_init : ∀ pc pt, pm_X0_init pc = some pt → okPt mi_X0_init pc pt := fun pc pt h => tOk_pm tk_X0_init h
section
variable {E : ET} {g : GT} {d : Nat} {lm : Nat × Nat} {RT : RTy} {F : FT} {n : Nat} {L : LV} {st : List AV} {h : AH}
theorem r_X0_init_0 : run E g mi_X0_init d lm RT F pm_X0_init (n + 1) 0 L st h = exI E d lm RT F (run E g mi_X0_init d lm RT F pm_X0_init n) (2, ((0 : Nat) : Int), 0, 1, []) L st h := run_s rfl
theorem r_X0_init_1 : run E g mi_X0_init d lm RT F pm_X0_init (n + 1) 1 L st h = exI E d lm RT F (run E g mi_X0_init d lm RT F pm_X0_init n) (47, 0, 0, 4, []) L st h := run_s rfl
theorem r_X0_init_4 : run E g mi_X0_init d lm RT F pm_X0_init (n + 1) 4 L st h = exI E d lm RT F (run E g mi_X0_init d lm RT F pm_X0_init n) (2, ((0 : Nat) : Int), 0, 5, []) L st h := run_s rfl
theorem r_X0_init_5 : run E g mi_X0_init d lm RT F pm_X0_init (n + 1) 5 L st h = exI E d lm RT F (run E g mi_X0_init d lm RT F pm_X0_init n) (0, 1, 0, 6, []) L st h := run_s rfl
theorem r_X0_init_6 : run E g mi_X0_init d lm RT F pm_X0_init (n + 1) 6 L st h = exI E d lm RT F (run E g mi_X0_init d lm RT F pm_X0_init n) (36, ((0 : Nat) : Int), ((0 : Nat) : Int), 9, [0]) L st h := run_s rfl
theorem r_X0_init_9 : run E g mi_X0_init d lm RT F pm_X0_init (n + 1) 9 L st h = exI E d lm RT F (run E g mi_X0_init d lm RT F pm_X0_init n) (2, ((0 : Nat) : Int), 0, 10, []) L st h := run_s rfl
theorem r_X0_init_10 : run E g mi_X0_init d lm RT F pm_X0_init (n + 1) 10 L st h = exI E d lm RT F (run E g mi_X0_init d lm RT F pm_X0_init n) (0, 0, 0, 11, []) L st h := run_s rfl
theorem r_X0_init_11 : run E g mi_X0_init d lm RT F pm_X0_init (n + 1) 11 L st h = exI E d lm RT F (run E g mi_X0_init d lm RT F pm_X0_init n) (36, ((0 : Nat) : Int), ((1 : Nat) : Int), 14, [0]) L st h := run_s rfl
theorem r_X0_init_14 : run E g mi_X0_init d lm RT F pm_X0_init (n + 1) 14 L st h = exI E d lm RT F (run E g mi_X0_init d lm RT F pm_X0_init n) (48, 4, 0, 0, []) L st h := run_s rfl
theorem e_X0_init (n : Nat) {pc : Nat} (hF : FOk E d F) (hx : run E g mi_X0_init d lm RT F pm_X0_init n pc L st h) : G E g mi_X0_init d lm RT pc L st h := run_sound hF pk_X0_init n pc L st h hx
end
def mi_X0_draw : MI := (0, cX0_draw, 2, 0, false)
theorem mo_X0_draw : miOk mi_X0_draw (mt 1) = true := by decide +kernel
def tl_X0_draw : List (Nat × PT) := [(0, (1, ((1 : Nat) : Int), 0, 1, [])),
  (1, (31, 4, ((6 : Nat) : Int), 4, [])),
  (4, (0, 0, 0, 5, [])),
  (5, (48, 0, 0, 0, [])),
  (6, (2, ((0 : Nat) : Int), 0, 7, [])),
  (7, (0, 1103515245, 0, 9, [])),
  (9, (2, ((0 : Nat) : Int), 0, 10, [])),
  (10, (35, ((0 : Nat) : Int), ((0 : Nat) : Int), 13, [])),
  (13, (10, 0, 0, 14, [])),
  (14, (0, 12345, 0, 17, [])),
  (17, (8, 0, 0, 18, [])),
  (18, (36, ((0 : Nat) : Int), ((0 : Nat) : Int), 21, [0])),
  (21, (2, ((0 : Nat) : Int), 0, 22, [])),
  (22, (28, 0, 0, 23, [])),
  (23, (35, ((0 : Nat) : Int), ((1 : Nat) : Int), 26, [])),
  (26, (0, 1, 0, 27, [])),
  (27, (8, 0, 0, 28, [])),
  (28, (36, ((0 : Nat) : Int), ((1 : Nat) : Int), 31, [0])),
  (31, (2, ((0 : Nat) : Int), 0, 32, [])),
  (32, (35, ((0 : Nat) : Int), ((0 : Nat) : Int), 35, [])),
  (35, (0, 16, 0, 37, [])),
  (37, (18, 0, 0, 38, [])),
  (38, (1, ((1 : Nat) : Int), 0, 39, [])),
  (39, (12, 0, 0, 40, [])),
  (40, (48, 0, 0, 0, []))]
theorem tk_X0_draw : tOk mi_X0_draw tl_X0_draw = true := by decide +kernel
def pm_X0_draw (pc : Nat) : Option PT := if [].contains pc then none else tl_X0_draw.lookup pc
theorem pk_X0_draw : ∀ pc pt, pm_X0_draw pc = some pt → okPt mi_X0_draw pc pt := fun pc pt h => tOk_pm tk_X0_draw h
section
variable {E : ET} {g : GT} {d : Nat} {lm : Nat × Nat} {RT : RTy} {F : FT} {n : Nat} {L : LV} {st : List AV} {h : AH}
theorem r_X0_draw_0 : run E g mi_X0_draw d lm RT F pm_X0_draw (n + 1) 0 L st h = exI E d lm RT F (run E g mi_X0_draw d lm RT F pm_X0_draw n) (1, ((1 : Nat) : Int), 0, 1, []) L st h := run_s rfl
theorem r_X0_draw_1 : run E g mi_X0_draw d lm RT F pm_X0_draw (n + 1) 1 L st h = exI E d lm RT F (run E g mi_X0_draw d lm RT F pm_X0_draw n) (31, 4, ((6 : Nat) : Int), 4, []) L st h := run_s rfl
theorem r_X0_draw_4 : run E g mi_X0_draw d lm RT F pm_X0_draw (n + 1) 4 L st h = exI E d lm RT F (run E g mi_X0_draw d lm RT F pm_X0_draw n) (0, 0, 0, 5, []) L st h := run_s rfl
theorem r_X0_draw_5 : run E g mi_X0_draw d lm RT F pm_X0_draw (n + 1) 5 L st h = exI E d lm RT F (run E g mi_X0_draw d lm RT F pm_X0_draw n) (48, 0, 0, 0, []) L st h := run_s rfl
theorem r_X0_draw_6 : run E g mi_X0_draw d lm RT F pm_X0_draw (n + 1) 6 L st h = exI E d lm RT F (run E g mi_X0_draw d lm RT F pm_X0_draw n) (2, ((0 : Nat) : Int), 0, 7, []) L st h := run_s rfl
theorem r_X0_draw_7 : run E g mi_X0_draw d lm RT F pm_X0_draw (n + 1) 7 L st h = exI E d lm RT F (run E g mi_X0_draw d lm RT F pm_X0_draw n) (0, 1103515245, 0, 9, []) L st h := run_s rfl
theorem r_X0_draw_9 : run E g mi_X0_draw d lm RT F pm_X0_draw (n + 1) 9 L st h = exI E d lm RT F (run E g mi_X0_draw d lm RT F pm_X0_draw n) (2, ((0 : Nat) : Int), 0, 10, []) L st h := run_s rfl
theorem r_X0_draw_10 : run E g mi_X0_draw d lm RT F pm_X0_draw (n + 1) 10 L st h = exI E d lm RT F (run E g mi_X0_draw d lm RT F pm_X0_draw n) (35, ((0 : Nat) : Int), ((0 : Nat) : Int), 13, []) L st h := run_s rfl
theorem r_X0_draw_13 : run E g mi_X0_draw d lm RT F pm_X0_draw (n + 1) 13 L st h = exI E d lm RT F (run E g mi_X0_draw d lm RT F pm_X0_draw n) (10, 0, 0, 14, []) L st h := run_s rfl
theorem r_X0_draw_14 : run E g mi_X0_draw d lm RT F pm_X0_draw (n + 1) 14 L st h = exI E d lm RT F (run E g mi_X0_draw d lm RT F pm_X0_draw n) (0, 12345, 0, 17, []) L st h := run_s rfl
theorem r_X0_draw_17 : run E g mi_X0_draw d lm RT F pm_X0_draw (n + 1) 17 L st h = exI E d lm RT F (run E g mi_X0_draw d lm RT F pm_X0_draw n) (8, 0, 0, 18, []) L st h := run_s rfl
theorem r_X0_draw_18 : run E g mi_X0_draw d lm RT F pm_X0_draw (n + 1) 18 L st h = exI E d lm RT F (run E g mi_X0_draw d lm RT F pm_X0_draw n) (36, ((0 : Nat) : Int), ((0 : Nat) : Int), 21, [0]) L st h := run_s rfl
theorem r_X0_draw_21 : run E g mi_X0_draw d lm RT F pm_X0_draw (n + 1) 21 L st h = exI E d lm RT F (run E g mi_X0_draw d lm RT F pm_X0_draw n) (2, ((0 : Nat) : Int), 0, 22, []) L st h := run_s rfl
theorem r_X0_draw_22 : run E g mi_X0_draw d lm RT F pm_X0_draw (n + 1) 22 L st h = exI E d lm RT F (run E g mi_X0_draw d lm RT F pm_X0_draw n) (28, 0, 0, 23, []) L st h := run_s rfl
theorem r_X0_draw_23 : run E g mi_X0_draw d lm RT F pm_X0_draw (n + 1) 23 L st h = exI E d lm RT F (run E g mi_X0_draw d lm RT F pm_X0_draw n) (35, ((0 : Nat) : Int), ((1 : Nat) : Int), 26, []) L st h := run_s rfl
theorem r_X0_draw_26 : run E g mi_X0_draw d lm RT F pm_X0_draw (n + 1) 26 L st h = exI E d lm RT F (run E g mi_X0_draw d lm RT F pm_X0_draw n) (0, 1, 0, 27, []) L st h := run_s rfl
theorem r_X0_draw_27 : run E g mi_X0_draw d lm RT F pm_X0_draw (n + 1) 27 L st h = exI E d lm RT F (run E g mi_X0_draw d lm RT F pm_X0_draw n) (8, 0, 0, 28, []) L st h := run_s rfl
theorem r_X0_draw_28 : run E g mi_X0_draw d lm RT F pm_X0_draw (n + 1) 28 L st h = exI E d lm RT F (run E g mi_X0_draw d lm RT F pm_X0_draw n) (36, ((0 : Nat) : Int), ((1 : Nat) : Int), 31, [0]) L st h := run_s rfl
theorem r_X0_draw_31 : run E g mi_X0_draw d lm RT F pm_X0_draw (n + 1) 31 L st h = exI E d lm RT F (run E g mi_X0_draw d lm RT F pm_X0_draw n) (2, ((0 : Nat) : Int), 0, 32, []) L st h := run_s rfl
theorem r_X0_draw_32 : run E g mi_X0_draw d lm RT F pm_X0_draw (n + 1) 32 L st h = exI E d lm RT F (run E g mi_X0_draw d lm RT F pm_X0_draw n) (35, ((0 : Nat) : Int), ((0 : Nat) : Int), 35, []) L st h := run_s rfl
theorem r_X0_draw_35 : run E g mi_X0_draw d lm RT F pm_X0_draw (n + 1) 35 L st h = exI E d lm RT F (run E g mi_X0_draw d lm RT F pm_X0_draw n) (0, 16, 0, 37, []) L st h := run_s rfl
theorem r_X0_draw_37 : run E g mi_X0_draw d lm RT F pm_X0_draw (n + 1) 37 L st h = exI E d lm RT F (run E g mi_X0_draw d lm RT F pm_X0_draw n) (18, 0, 0, 38, []) L st h := run_s rfl
theorem r_X0_draw_38 : run E g mi_X0_draw d lm RT F pm_X0_draw (n + 1) 38 L st h = exI E d lm RT F (run E g mi_X0_draw d lm RT F pm_X0_draw n) (1, ((1 : Nat) : Int), 0, 39, []) L st h := run_s rfl
theorem r_X0_draw_39 : run E g mi_X0_draw d lm RT F pm_X0_draw (n + 1) 39 L st h = exI E d lm RT F (run E g mi_X0_draw d lm RT F pm_X0_draw n) (12, 0, 0, 40, []) L st h := run_s rfl
theorem r_X0_draw_40 : run E g mi_X0_draw d lm RT F pm_X0_draw (n + 1) 40 L st h = exI E d lm RT F (run E g mi_X0_draw d lm RT F pm_X0_draw n) (48, 0, 0, 0, []) L st h := run_s rfl
theorem e_X0_draw (n : Nat) {pc : Nat} (hF : FOk E d F) (hx : run E g mi_X0_draw d lm RT F pm_X0_draw n pc L st h) : G E g mi_X0_draw d lm RT pc L st h := run_sound hF pk_X0_draw n pc L st h hx
end
def mi_X1_init : MI := (1, cX1_init, 1, 4, true)
theorem mo_X1_init : miOk mi_X1_init (mt 2) = true := by decide +kernel
def tl_X1_init : List (Nat × PT) := [(0, (2, ((0 : Nat) : Int), 0, 1, [])),
  (1, (53, ((4 : Nat) : Int), ((1 : Nat) : Int), 4, [])),
  (4, (48, 4, 0, 0, []))]
theorem tk_X1_init : tOk mi_X1_init tl_X1_init = true := by decide +kernel
def pm_X1_init (pc : Nat) : Option PT := if [].contains pc then none else tl_X1_init.lookup pc
theorem pk_X1_init : ∀ pc pt, pm_X1_init pc = some pt → okPt mi_X1_init pc pt := fun pc pt h => tOk_pm tk_X1_init h
section
variable {E : ET} {g : GT} {d : Nat} {lm : Nat × Nat} {RT : RTy} {F : FT} {n : Nat} {L : LV} {st : List AV} {h : AH}
theorem r_X1_init_0 : run E g mi_X1_init d lm RT F pm_X1_init (n + 1) 0 L st h = exI E d lm RT F (run E g mi_X1_init d lm RT F pm_X1_init n) (2, ((0 : Nat) : Int), 0, 1, []) L st h := run_s rfl
theorem r_X1_init_1 : run E g mi_X1_init d lm RT F pm_X1_init (n + 1) 1 L st h = exI E d lm RT F (run E g mi_X1_init d lm RT F pm_X1_init n) (53, ((4 : Nat) : Int), ((1 : Nat) : Int), 4, []) L st h := run_s rfl
theorem r_X1_init_4 : run E g mi_X1_init d lm RT F pm_X1_init (n + 1) 4 L st h = exI E d lm RT F (run E g mi_X1_init d lm RT F pm_X1_init n) (48, 4, 0, 0, []) L st h := run_s rfl
theorem e_X1_init (n : Nat) {pc : Nat} (hF : FOk E d F) (hx : run E g mi_X1_init d lm RT F pm_X1_init n pc L st h) : G E g mi_X1_init d lm RT pc L st h := run_sound hF pk_X1_init n pc L st h hx
end
def mi_X1_reward : MI := (1, cX1_reward, 5, 0, false)
theorem mo_X1_reward : miOk mi_X1_reward (mt 3) = true := by decide +kernel
def tl_X1_reward : List (Nat × PT) := [(0, (2, ((0 : Nat) : Int), 0, 1, [])),
  (1, (1, ((1 : Nat) : Int), 0, 2, [])),
  (2, (1, ((2 : Nat) : Int), 0, 3, [])),
  (3, (1, ((3 : Nat) : Int), 0, 4, [])),
  (4, (51, ((18 : Nat) : Int), ((4 : Nat) : Int), 7, [1])),
  (7, (4, ((4 : Nat) : Int), 0, 9, [])),
  (9, (1, ((4 : Nat) : Int), 0, 11, [])),
  (11, (0, 1000, 0, 14, [])),
  (14, (1, ((4 : Nat) : Int), 0, 16, [])),
  (16, (9, 0, 0, 17, [])),
  (17, (0, 4, 0, 18, [])),
  (18, (11, 0, 0, 19, [])),
  (19, (8, 0, 0, 20, [])),
  (20, (48, 0, 0, 0, []))]
theorem tk_X1_reward : tOk mi_X1_reward tl_X1_reward = true := by decide +kernel
def pm_X1_reward (pc : Nat) : Option PT := if [].contains pc then none else tl_X1_reward.lookup pc
theorem pk_X1_reward : ∀ pc pt, pm_X1_reward pc = some pt → okPt mi_X1_reward pc pt := fun pc pt h => tOk_pm tk_X1_reward h
section
variable {E : ET} {g : GT} {d : Nat} {lm : Nat × Nat} {RT : RTy} {F : FT} {n : Nat} {L : LV} {st : List AV} {h : AH}
theorem r_X1_reward_0 : run E g mi_X1_reward d lm RT F pm_X1_reward (n + 1) 0 L st h = exI E d lm RT F (run E g mi_X1_reward d lm RT F pm_X1_reward n) (2, ((0 : Nat) : Int), 0, 1, []) L st h := run_s rfl
theorem r_X1_reward_1 : run E g mi_X1_reward d lm RT F pm_X1_reward (n + 1) 1 L st h = exI E d lm RT F (run E g mi_X1_reward d lm RT F pm_X1_reward n) (1, ((1 : Nat) : Int), 0, 2, []) L st h := run_s rfl
theorem r_X1_reward_2 : run E g mi_X1_reward d lm RT F pm_X1_reward (n + 1) 2 L st h = exI E d lm RT F (run E g mi_X1_reward d lm RT F pm_X1_reward n) (1, ((2 : Nat) : Int), 0, 3, []) L st h := run_s rfl
theorem r_X1_reward_3 : run E g mi_X1_reward d lm RT F pm_X1_reward (n + 1) 3 L st h = exI E d lm RT F (run E g mi_X1_reward d lm RT F pm_X1_reward n) (1, ((3 : Nat) : Int), 0, 4, []) L st h := run_s rfl
theorem r_X1_reward_4 : run E g mi_X1_reward d lm RT F pm_X1_reward (n + 1) 4 L st h = exI E d lm RT F (run E g mi_X1_reward d lm RT F pm_X1_reward n) (51, ((18 : Nat) : Int), ((4 : Nat) : Int), 7, [1]) L st h := run_s rfl
theorem r_X1_reward_7 : run E g mi_X1_reward d lm RT F pm_X1_reward (n + 1) 7 L st h = exI E d lm RT F (run E g mi_X1_reward d lm RT F pm_X1_reward n) (4, ((4 : Nat) : Int), 0, 9, []) L st h := run_s rfl
theorem r_X1_reward_9 : run E g mi_X1_reward d lm RT F pm_X1_reward (n + 1) 9 L st h = exI E d lm RT F (run E g mi_X1_reward d lm RT F pm_X1_reward n) (1, ((4 : Nat) : Int), 0, 11, []) L st h := run_s rfl
theorem r_X1_reward_11 : run E g mi_X1_reward d lm RT F pm_X1_reward (n + 1) 11 L st h = exI E d lm RT F (run E g mi_X1_reward d lm RT F pm_X1_reward n) (0, 1000, 0, 14, []) L st h := run_s rfl
theorem r_X1_reward_14 : run E g mi_X1_reward d lm RT F pm_X1_reward (n + 1) 14 L st h = exI E d lm RT F (run E g mi_X1_reward d lm RT F pm_X1_reward n) (1, ((4 : Nat) : Int), 0, 16, []) L st h := run_s rfl
theorem r_X1_reward_16 : run E g mi_X1_reward d lm RT F pm_X1_reward (n + 1) 16 L st h = exI E d lm RT F (run E g mi_X1_reward d lm RT F pm_X1_reward n) (9, 0, 0, 17, []) L st h := run_s rfl
theorem r_X1_reward_17 : run E g mi_X1_reward d lm RT F pm_X1_reward (n + 1) 17 L st h = exI E d lm RT F (run E g mi_X1_reward d lm RT F pm_X1_reward n) (0, 4, 0, 18, []) L st h := run_s rfl
theorem r_X1_reward_18 : run E g mi_X1_reward d lm RT F pm_X1_reward (n + 1) 18 L st h = exI E d lm RT F (run E g mi_X1_reward d lm RT F pm_X1_reward n) (11, 0, 0, 19, []) L st h := run_s rfl
theorem r_X1_reward_19 : run E g mi_X1_reward d lm RT F pm_X1_reward (n + 1) 19 L st h = exI E d lm RT F (run E g mi_X1_reward d lm RT F pm_X1_reward n) (8, 0, 0, 20, []) L st h := run_s rfl
theorem r_X1_reward_20 : run E g mi_X1_reward d lm RT F pm_X1_reward (n + 1) 20 L st h = exI E d lm RT F (run E g mi_X1_reward d lm RT F pm_X1_reward n) (48, 0, 0, 0, []) L st h := run_s rfl
theorem e_X1_reward (n : Nat) {pc : Nat} (hF : FOk E d F) (hx : run E g mi_X1_reward d lm RT F pm_X1_reward n pc L st h) : G E g mi_X1_reward d lm RT pc L st h := run_sound hF pk_X1_reward n pc L st h hx
end
def mi_X2_init : MI := (2, cX2_init, 1, 4, true)
theorem mo_X2_init : miOk mi_X2_init (mt 4) = true := by decide +kernel
def tl_X2_init : List (Nat × PT) := [(0, (2, ((0 : Nat) : Int), 0, 1, [])),
  (1, (53, ((16 : Nat) : Int), ((1 : Nat) : Int), 4, [])),
  (4, (48, 4, 0, 0, []))]
theorem tk_X2_init : tOk mi_X2_init tl_X2_init = true := by decide +kernel
def pm_X2_init (pc : Nat) : Option PT := if [].contains pc then none else tl_X2_init.lookup pc
theorem pk_X2_init : ∀ pc pt, pm_X2_init pc = some pt → okPt mi_X2_init pc pt := fun pc pt h => tOk_pm tk_X2_init h
section
variable {E : ET} {g : GT} {d : Nat} {lm : Nat × Nat} {RT : RTy} {F : FT} {n : Nat} {L : LV} {st : List AV} {h : AH}
theorem r_X2_init_0 : run E g mi_X2_init d lm RT F pm_X2_init (n + 1) 0 L st h = exI E d lm RT F (run E g mi_X2_init d lm RT F pm_X2_init n) (2, ((0 : Nat) : Int), 0, 1, []) L st h := run_s rfl
theorem r_X2_init_1 : run E g mi_X2_init d lm RT F pm_X2_init (n + 1) 1 L st h = exI E d lm RT F (run E g mi_X2_init d lm RT F pm_X2_init n) (53, ((16 : Nat) : Int), ((1 : Nat) : Int), 4, []) L st h := run_s rfl
theorem r_X2_init_4 : run E g mi_X2_init d lm RT F pm_X2_init (n + 1) 4 L st h = exI E d lm RT F (run E g mi_X2_init d lm RT F pm_X2_init n) (48, 4, 0, 0, []) L st h := run_s rfl
theorem e_X2_init (n : Nat) {pc : Nat} (hF : FOk E d F) (hx : run E g mi_X2_init d lm RT F pm_X2_init n pc L st h) : G E g mi_X2_init d lm RT pc L st h := run_sound hF pk_X2_init n pc L st h hx
end
def mi_X2_weight : MI := (2, cX2_weight, 3, 0, false)
theorem mo_X2_weight : miOk mi_X2_weight (mt 5) = true := by decide +kernel
def tl_X2_weight : List (Nat × PT) := [(0, (1, ((2 : Nat) : Int), 0, 1, [])),
  (1, (31, 3, ((8 : Nat) : Int), 4, [])),
  (4, (1, ((1 : Nat) : Int), 0, 5, [])),
  (5, (33, ((13 : Nat) : Int), 0, 0, [])),
  (8, (1, ((1 : Nat) : Int), 0, 9, [])),
  (9, (1, ((2 : Nat) : Int), 0, 10, [])),
  (10, (0, 1, 0, 11, [])),
  (11, (8, 0, 0, 12, [])),
  (12, (11, 0, 0, 13, [])),
  (13, (48, 0, 0, 0, []))]
theorem tk_X2_weight : tOk mi_X2_weight tl_X2_weight = true := by decide +kernel
def pm_X2_weight (pc : Nat) : Option PT := if [].contains pc then none else tl_X2_weight.lookup pc
theorem pk_X2_weight : ∀ pc pt, pm_X2_weight pc = some pt → okPt mi_X2_weight pc pt := fun pc pt h => tOk_pm tk_X2_weight h
section
variable {E : ET} {g : GT} {d : Nat} {lm : Nat × Nat} {RT : RTy} {F : FT} {n : Nat} {L : LV} {st : List AV} {h : AH}
theorem r_X2_weight_0 : run E g mi_X2_weight d lm RT F pm_X2_weight (n + 1) 0 L st h = exI E d lm RT F (run E g mi_X2_weight d lm RT F pm_X2_weight n) (1, ((2 : Nat) : Int), 0, 1, []) L st h := run_s rfl
theorem r_X2_weight_1 : run E g mi_X2_weight d lm RT F pm_X2_weight (n + 1) 1 L st h = exI E d lm RT F (run E g mi_X2_weight d lm RT F pm_X2_weight n) (31, 3, ((8 : Nat) : Int), 4, []) L st h := run_s rfl
theorem r_X2_weight_4 : run E g mi_X2_weight d lm RT F pm_X2_weight (n + 1) 4 L st h = exI E d lm RT F (run E g mi_X2_weight d lm RT F pm_X2_weight n) (1, ((1 : Nat) : Int), 0, 5, []) L st h := run_s rfl
theorem r_X2_weight_5 : run E g mi_X2_weight d lm RT F pm_X2_weight (n + 1) 5 L st h = exI E d lm RT F (run E g mi_X2_weight d lm RT F pm_X2_weight n) (33, ((13 : Nat) : Int), 0, 0, []) L st h := run_s rfl
theorem r_X2_weight_8 : run E g mi_X2_weight d lm RT F pm_X2_weight (n + 1) 8 L st h = exI E d lm RT F (run E g mi_X2_weight d lm RT F pm_X2_weight n) (1, ((1 : Nat) : Int), 0, 9, []) L st h := run_s rfl
theorem r_X2_weight_9 : run E g mi_X2_weight d lm RT F pm_X2_weight (n + 1) 9 L st h = exI E d lm RT F (run E g mi_X2_weight d lm RT F pm_X2_weight n) (1, ((2 : Nat) : Int), 0, 10, []) L st h := run_s rfl
theorem r_X2_weight_10 : run E g mi_X2_weight d lm RT F pm_X2_weight (n + 1) 10 L st h = exI E d lm RT F (run E g mi_X2_weight d lm RT F pm_X2_weight n) (0, 1, 0, 11, []) L st h := run_s rfl
theorem r_X2_weight_11 : run E g mi_X2_weight d lm RT F pm_X2_weight (n + 1) 11 L st h = exI E d lm RT F (run E g mi_X2_weight d lm RT F pm_X2_weight n) (8, 0, 0, 12, []) L st h := run_s rfl
theorem r_X2_weight_12 : run E g mi_X2_weight d lm RT F pm_X2_weight (n + 1) 12 L st h = exI E d lm RT F (run E g mi_X2_weight d lm RT F pm_X2_weight n) (11, 0, 0, 13, []) L st h := run_s rfl
theorem r_X2_weight_13 : run E g mi_X2_weight d lm RT F pm_X2_weight (n + 1) 13 L st h = exI E d lm RT F (run E g mi_X2_weight d lm RT F pm_X2_weight n) (48, 0, 0, 0, []) L st h := run_s rfl
theorem e_X2_weight (n : Nat) {pc : Nat} (hF : FOk E d F) (hx : run E g mi_X2_weight d lm RT F pm_X2_weight n pc L st h) : G E g mi_X2_weight d lm RT pc L st h := run_sound hF pk_X2_weight n pc L st h hx
end
def mi_X3_init : MI := (3, cX3_init, 1, 4, true)
theorem mo_X3_init : miOk mi_X3_init (mt 6) = true := by decide +kernel
def tl_X3_init : List (Nat × PT) := [(0, (2, ((0 : Nat) : Int), 0, 1, [])),
  (1, (47, 0, 0, 4, [])),
  (4, (2, ((0 : Nat) : Int), 0, 5, [])),
  (5, (0, 16, 0, 7, [])),
  (7, (42, 0, 0, 9, [])),
  (9, (37, ((3 : Nat) : Int), ((0 : Nat) : Int), 12, [3])),
  (12, (2, ((0 : Nat) : Int), 0, 13, [])),
  (13, (0, 16, 0, 15, [])),
  (15, (42, 0, 0, 17, [])),
  (17, (37, ((3 : Nat) : Int), ((1 : Nat) : Int), 20, [3])),
  (20, (2, ((0 : Nat) : Int), 0, 21, [])),
  (21, (0, 16, 0, 23, [])),
  (23, (42, 0, 0, 25, [])),
  (25, (37, ((3 : Nat) : Int), ((2 : Nat) : Int), 28, [3])),
  (28, (2, ((0 : Nat) : Int), 0, 29, [])),
  (29, (0, 8, 0, 31, [])),
  (31, (42, 0, 0, 33, [])),
  (33, (37, ((3 : Nat) : Int), ((3 : Nat) : Int), 36, [3])),
  (36, (2, ((0 : Nat) : Int), 0, 37, [])),
  (37, (0, 8, 0, 39, [])),
  (39, (42, 0, 0, 41, [])),
  (41, (37, ((3 : Nat) : Int), ((4 : Nat) : Int), 44, [3])),
  (44, (2, ((0 : Nat) : Int), 0, 45, [])),
  (45, (0, 0, 0, 46, [])),
  (46, (36, ((3 : Nat) : Int), ((5 : Nat) : Int), 49, [0])),
  (49, (48, 4, 0, 0, []))]
theorem tk_X3_init : tOk mi_X3_init tl_X3_init = true := by decide +kernel
def pm_X3_init (pc : Nat) : Option PT := if [].contains pc then none else tl_X3_init.lookup pc
theorem pk_X3_init : ∀ pc pt, pm_X3_init pc = some pt → okPt mi_X3_init pc pt := fun pc pt h => tOk_pm tk_X3_init h
section
variable {E : ET} {g : GT} {d : Nat} {lm : Nat × Nat} {RT : RTy} {F : FT} {n : Nat} {L : LV} {st : List AV} {h : AH}
theorem r_X3_init_0 : run E g mi_X3_init d lm RT F pm_X3_init (n + 1) 0 L st h = exI E d lm RT F (run E g mi_X3_init d lm RT F pm_X3_init n) (2, ((0 : Nat) : Int), 0, 1, []) L st h := run_s rfl
theorem r_X3_init_1 : run E g mi_X3_init d lm RT F pm_X3_init (n + 1) 1 L st h = exI E d lm RT F (run E g mi_X3_init d lm RT F pm_X3_init n) (47, 0, 0, 4, []) L st h := run_s rfl
theorem r_X3_init_4 : run E g mi_X3_init d lm RT F pm_X3_init (n + 1) 4 L st h = exI E d lm RT F (run E g mi_X3_init d lm RT F pm_X3_init n) (2, ((0 : Nat) : Int), 0, 5, []) L st h := run_s rfl
theorem r_X3_init_5 : run E g mi_X3_init d lm RT F pm_X3_init (n + 1) 5 L st h = exI E d lm RT F (run E g mi_X3_init d lm RT F pm_X3_init n) (0, 16, 0, 7, []) L st h := run_s rfl
theorem r_X3_init_7 : run E g mi_X3_init d lm RT F pm_X3_init (n + 1) 7 L st h = exI E d lm RT F (run E g mi_X3_init d lm RT F pm_X3_init n) (42, 0, 0, 9, []) L st h := run_s rfl
theorem r_X3_init_9 : run E g mi_X3_init d lm RT F pm_X3_init (n + 1) 9 L st h = exI E d lm RT F (run E g mi_X3_init d lm RT F pm_X3_init n) (37, ((3 : Nat) : Int), ((0 : Nat) : Int), 12, [3]) L st h := run_s rfl
theorem r_X3_init_12 : run E g mi_X3_init d lm RT F pm_X3_init (n + 1) 12 L st h = exI E d lm RT F (run E g mi_X3_init d lm RT F pm_X3_init n) (2, ((0 : Nat) : Int), 0, 13, []) L st h := run_s rfl
theorem r_X3_init_13 : run E g mi_X3_init d lm RT F pm_X3_init (n + 1) 13 L st h = exI E d lm RT F (run E g mi_X3_init d lm RT F pm_X3_init n) (0, 16, 0, 15, []) L st h := run_s rfl
theorem r_X3_init_15 : run E g mi_X3_init d lm RT F pm_X3_init (n + 1) 15 L st h = exI E d lm RT F (run E g mi_X3_init d lm RT F pm_X3_init n) (42, 0, 0, 17, []) L st h := run_s rfl
theorem r_X3_init_17 : run E g mi_X3_init d lm RT F pm_X3_init (n + 1) 17 L st h = exI E d lm RT F (run E g mi_X3_init d lm RT F pm_X3_init n) (37, ((3 : Nat) : Int), ((1 : Nat) : Int), 20, [3]) L st h := run_s rfl
theorem r_X3_init_20 : run E g mi_X3_init d lm RT F pm_X3_init (n + 1) 20 L st h = exI E d lm RT F (run E g mi_X3_init d lm RT F pm_X3_init n) (2, ((0 : Nat) : Int), 0, 21, []) L st h := run_s rfl
theorem r_X3_init_21 : run E g mi_X3_init d lm RT F pm_X3_init (n + 1) 21 L st h = exI E d lm RT F (run E g mi_X3_init d lm RT F pm_X3_init n) (0, 16, 0, 23, []) L st h := run_s rfl
theorem r_X3_init_23 : run E g mi_X3_init d lm RT F pm_X3_init (n + 1) 23 L st h = exI E d lm RT F (run E g mi_X3_init d lm RT F pm_X3_init n) (42, 0, 0, 25, []) L st h := run_s rfl
theorem r_X3_init_25 : run E g mi_X3_init d lm RT F pm_X3_init (n + 1) 25 L st h = exI E d lm RT F (run E g mi_X3_init d lm RT F pm_X3_init n) (37, ((3 : Nat) : Int), ((2 : Nat) : Int), 28, [3]) L st h := run_s rfl
theorem r_X3_init_28 : run E g mi_X3_init d lm RT F pm_X3_init (n + 1) 28 L st h = exI E d lm RT F (run E g mi_X3_init d lm RT F pm_X3_init n) (2, ((0 : Nat) : Int), 0, 29, []) L st h := run_s rfl
theorem r_X3_init_29 : run E g mi_X3_init d lm RT F pm_X3_init (n + 1) 29 L st h = exI E d lm RT F (run E g mi_X3_init d lm RT F pm_X3_init n) (0, 8, 0, 31, []) L st h := run_s rfl
theorem r_X3_init_31 : run E g mi_X3_init d lm RT F pm_X3_init (n + 1) 31 L st h = exI E d lm RT F (run E g mi_X3_init d lm RT F pm_X3_init n) (42, 0, 0, 33, []) L st h := run_s rfl
theorem r_X3_init_33 : run E g mi_X3_init d lm RT F pm_X3_init (n + 1) 33 L st h = exI E d lm RT F (run E g mi_X3_init d lm RT F pm_X3_init n) (37, ((3 : Nat) : Int), ((3 : Nat) : Int), 36, [3]) L st h := run_s rfl
theorem r_X3_init_36 : run E g mi_X3_init d lm RT F pm_X3_init (n + 1) 36 L st h = exI E d lm RT F (run E g mi_X3_init d lm RT F pm_X3_init n) (2, ((0 : Nat) : Int), 0, 37, []) L st h := run_s rfl
theorem r_X3_init_37 : run E g mi_X3_init d lm RT F pm_X3_init (n + 1) 37 L st h = exI E d lm RT F (run E g mi_X3_init d lm RT F pm_X3_init n) (0, 8, 0, 39, []) L st h := run_s rfl
theorem r_X3_init_39 : run E g mi_X3_init d lm RT F pm_X3_init (n + 1) 39 L st h = exI E d lm RT F (run E g mi_X3_init d lm RT F pm_X3_init n) (42, 0, 0, 41, []) L st h := run_s rfl
theorem r_X3_init_41 : run E g mi_X3_init d lm RT F pm_X3_init (n + 1) 41 L st h = exI E d lm RT F (run E g mi_X3_init d lm RT F pm_X3_init n) (37, ((3 : Nat) : Int), ((4 : Nat) : Int), 44, [3]) L st h := run_s rfl
theorem r_X3_init_44 : run E g mi_X3_init d lm RT F pm_X3_init (n + 1) 44 L st h = exI E d lm RT F (run E g mi_X3_init d lm RT F pm_X3_init n) (2, ((0 : Nat) : Int), 0, 45, []) L st h := run_s rfl
theorem r_X3_init_45 : run E g mi_X3_init d lm RT F pm_X3_init (n + 1) 45 L st h = exI E d lm RT F (run E g mi_X3_init d lm RT F pm_X3_init n) (0, 0, 0, 46, []) L st h := run_s rfl
theorem r_X3_init_46 : run E g mi_X3_init d lm RT F pm_X3_init (n + 1) 46 L st h = exI E d lm RT F (run E g mi_X3_init d lm RT F pm_X3_init n) (36, ((3 : Nat) : Int), ((5 : Nat) : Int), 49, [0]) L st h := run_s rfl
theorem r_X3_init_49 : run E g mi_X3_init d lm RT F pm_X3_init (n + 1) 49 L st h = exI E d lm RT F (run E g mi_X3_init d lm RT F pm_X3_init n) (48, 4, 0, 0, []) L st h := run_s rfl
theorem e_X3_init (n : Nat) {pc : Nat} (hF : FOk E d F) (hx : run E g mi_X3_init d lm RT F pm_X3_init n pc L st h) : G E g mi_X3_init d lm RT pc L st h := run_sound hF pk_X3_init n pc L st h hx
end
def mi_X3_freeNumber : MI := (3, cX3_freeNumber, 2, 0, false)
theorem mo_X3_freeNumber : miOk mi_X3_freeNumber (mt 8) = true := by decide +kernel
def tl_X3_freeNumber : List (Nat × PT) := [(0, (0, 0, 0, 1, [])),
  (1, (4, ((1 : Nat) : Int), 0, 2, [])),
  (2, (1, ((1 : Nat) : Int), 0, 3, [])),
  (3, (0, 16, 0, 5, [])),
  (5, (32, 3, ((25 : Nat) : Int), 8, [])),
  (8, (2, ((0 : Nat) : Int), 0, 9, [])),
  (9, (35, ((3 : Nat) : Int), ((2 : Nat) : Int), 12, [])),
  (12, (1, ((1 : Nat) : Int), 0, 13, [])),
  (13, (38, 0, 0, 14, [])),
  (14, (31, 1, ((19 : Nat) : Int), 17, [])),
  (17, (1, ((1 : Nat) : Int), 0, 18, [])),
  (18, (48, 0, 0, 0, [])),
  (19, (7, ((1 : Nat) : Int), 1, 22, [])),
  (22, (33, ((2 : Nat) : Int), 0, 0, [])),
  (25, (0, (-9), 0, 27, [])),
  (27, (48, 0, 0, 0, []))]
theorem tk_X3_freeNumber : tOk mi_X3_freeNumber tl_X3_freeNumber = true := by decide +kernel
def pm_X3_freeNumber (pc : Nat) : Option PT := if [2].contains pc then none else tl_X3_freeNumber.lookup pc
theorem pk_X3_freeNumber : ∀ pc pt, pm_X3_freeNumber pc = some pt → okPt mi_X3_freeNumber pc pt := fun pc pt h => tOk_pm tk_X3_freeNumber h
section
variable {E : ET} {g : GT} {d : Nat} {lm : Nat × Nat} {RT : RTy} {F : FT} {n : Nat} {L : LV} {st : List AV} {h : AH}
theorem r_X3_freeNumber_0 : run E g mi_X3_freeNumber d lm RT F pm_X3_freeNumber (n + 1) 0 L st h = exI E d lm RT F (run E g mi_X3_freeNumber d lm RT F pm_X3_freeNumber n) (0, 0, 0, 1, []) L st h := run_s rfl
theorem r_X3_freeNumber_1 : run E g mi_X3_freeNumber d lm RT F pm_X3_freeNumber (n + 1) 1 L st h = exI E d lm RT F (run E g mi_X3_freeNumber d lm RT F pm_X3_freeNumber n) (4, ((1 : Nat) : Int), 0, 2, []) L st h := run_s rfl
theorem r_X3_freeNumber_2 : run E g mi_X3_freeNumber d lm RT F pm_X3_freeNumber (n + 1) 2 L st h = G E g mi_X3_freeNumber d lm RT 2 L st h := run_c rfl
theorem q_X3_freeNumber_2 (n : Nat) (hF : FOk E d F) (hx : exI E d lm RT F (run E g mi_X3_freeNumber d lm RT F pm_X3_freeNumber n) (1, ((1 : Nat) : Int), 0, 3, []) L st h) : G E g mi_X3_freeNumber d lm RT 2 L st h := sstep hF (tOk_spec tk_X3_freeNumber (by decide +kernel)) (run_sound hF pk_X3_freeNumber n) hx
theorem r_X3_freeNumber_3 : run E g mi_X3_freeNumber d lm RT F pm_X3_freeNumber (n + 1) 3 L st h = exI E d lm RT F (run E g mi_X3_freeNumber d lm RT F pm_X3_freeNumber n) (0, 16, 0, 5, []) L st h := run_s rfl
theorem r_X3_freeNumber_5 : run E g mi_X3_freeNumber d lm RT F pm_X3_freeNumber (n + 1) 5 L st h = exI E d lm RT F (run E g mi_X3_freeNumber d lm RT F pm_X3_freeNumber n) (32, 3, ((25 : Nat) : Int), 8, []) L st h := run_s rfl
theorem r_X3_freeNumber_8 : run E g mi_X3_freeNumber d lm RT F pm_X3_freeNumber (n + 1) 8 L st h = exI E d lm RT F (run E g mi_X3_freeNumber d lm RT F pm_X3_freeNumber n) (2, ((0 : Nat) : Int), 0, 9, []) L st h := run_s rfl
theorem r_X3_freeNumber_9 : run E g mi_X3_freeNumber d lm RT F pm_X3_freeNumber (n + 1) 9 L st h = exI E d lm RT F (run E g mi_X3_freeNumber d lm RT F pm_X3_freeNumber n) (35, ((3 : Nat) : Int), ((2 : Nat) : Int), 12, []) L st h := run_s rfl
theorem r_X3_freeNumber_12 : run E g mi_X3_freeNumber d lm RT F pm_X3_freeNumber (n + 1) 12 L st h = exI E d lm RT F (run E g mi_X3_freeNumber d lm RT F pm_X3_freeNumber n) (1, ((1 : Nat) : Int), 0, 13, []) L st h := run_s rfl
theorem r_X3_freeNumber_13 : run E g mi_X3_freeNumber d lm RT F pm_X3_freeNumber (n + 1) 13 L st h = exI E d lm RT F (run E g mi_X3_freeNumber d lm RT F pm_X3_freeNumber n) (38, 0, 0, 14, []) L st h := run_s rfl
theorem r_X3_freeNumber_14 : run E g mi_X3_freeNumber d lm RT F pm_X3_freeNumber (n + 1) 14 L st h = exI E d lm RT F (run E g mi_X3_freeNumber d lm RT F pm_X3_freeNumber n) (31, 1, ((19 : Nat) : Int), 17, []) L st h := run_s rfl
theorem r_X3_freeNumber_17 : run E g mi_X3_freeNumber d lm RT F pm_X3_freeNumber (n + 1) 17 L st h = exI E d lm RT F (run E g mi_X3_freeNumber d lm RT F pm_X3_freeNumber n) (1, ((1 : Nat) : Int), 0, 18, []) L st h := run_s rfl
theorem r_X3_freeNumber_18 : run E g mi_X3_freeNumber d lm RT F pm_X3_freeNumber (n + 1) 18 L st h = exI E d lm RT F (run E g mi_X3_freeNumber d lm RT F pm_X3_freeNumber n) (48, 0, 0, 0, []) L st h := run_s rfl
theorem r_X3_freeNumber_19 : run E g mi_X3_freeNumber d lm RT F pm_X3_freeNumber (n + 1) 19 L st h = exI E d lm RT F (run E g mi_X3_freeNumber d lm RT F pm_X3_freeNumber n) (7, ((1 : Nat) : Int), 1, 22, []) L st h := run_s rfl
theorem r_X3_freeNumber_22 : run E g mi_X3_freeNumber d lm RT F pm_X3_freeNumber (n + 1) 22 L st h = exI E d lm RT F (run E g mi_X3_freeNumber d lm RT F pm_X3_freeNumber n) (33, ((2 : Nat) : Int), 0, 0, []) L st h := run_s rfl
theorem r_X3_freeNumber_25 : run E g mi_X3_freeNumber d lm RT F pm_X3_freeNumber (n + 1) 25 L st h = exI E d lm RT F (run E g mi_X3_freeNumber d lm RT F pm_X3_freeNumber n) (0, (-9), 0, 27, []) L st h := run_s rfl
theorem r_X3_freeNumber_27 : run E g mi_X3_freeNumber d lm RT F pm_X3_freeNumber (n + 1) 27 L st h = exI E d lm RT F (run E g mi_X3_freeNumber d lm RT F pm_X3_freeNumber n) (48, 0, 0, 0, []) L st h := run_s rfl
theorem e_X3_freeNumber (n : Nat) {pc : Nat} (hF : FOk E d F) (hx : run E g mi_X3_freeNumber d lm RT F pm_X3_freeNumber n pc L st h) : G E g mi_X3_freeNumber d lm RT pc L st h := run_sound hF pk_X3_freeNumber n pc L st h hx
end
def mi_X3_between : MI := (3, cX3_between, 6, 0, false)
theorem mo_X3_between : miOk mi_X3_between (mt 9) = true := by decide +kernel
def tl_X3_between : List (Nat × PT) := [(0, (1, ((1 : Nat) : Int), 0, 1, [])),
  (1, (1, ((2 : Nat) : Int), 0, 2, [])),
  (2, (45, ((147 : Nat) : Int), ((2 : Nat) : Int), 5, [])),
  (5, (4, ((3 : Nat) : Int), 0, 6, [])),
  (6, (1, ((1 : Nat) : Int), 0, 7, [])),
  (7, (1, ((2 : Nat) : Int), 0, 8, [])),
  (8, (45, ((146 : Nat) : Int), ((2 : Nat) : Int), 11, [])),
  (11, (4, ((4 : Nat) : Int), 0, 13, [])),
  (13, (0, 0, 0, 14, [])),
  (14, (4, ((5 : Nat) : Int), 0, 16, [])),
  (16, (1, ((5 : Nat) : Int), 0, 18, [])),
  (18, (0, 16, 0, 20, [])),
  (20, (32, 3, ((65 : Nat) : Int), 23, [])),
  (23, (2, ((0 : Nat) : Int), 0, 24, [])),
  (24, (35, ((3 : Nat) : Int), ((2 : Nat) : Int), 27, [])),
  (27, (1, ((5 : Nat) : Int), 0, 29, [])),
  (29, (38, 0, 0, 30, [])),
  (30, (31, 5, ((59 : Nat) : Int), 33, [])),
  (33, (2, ((0 : Nat) : Int), 0, 34, [])),
  (34, (35, ((3 : Nat) : Int), ((0 : Nat) : Int), 37, [])),
  (37, (1, ((5 : Nat) : Int), 0, 39, [])),
  (39, (38, 0, 0, 40, [])),
  (40, (1, ((3 : Nat) : Int), 0, 41, [])),
  (41, (32, 1, ((59 : Nat) : Int), 44, [])),
  (44, (2, ((0 : Nat) : Int), 0, 45, [])),
  (45, (35, ((3 : Nat) : Int), ((1 : Nat) : Int), 48, [])),
  (48, (1, ((5 : Nat) : Int), 0, 50, [])),
  (50, (38, 0, 0, 51, [])),
  (51, (1, ((4 : Nat) : Int), 0, 53, [])),
  (53, (32, 1, ((59 : Nat) : Int), 56, [])),
  (56, (1, ((5 : Nat) : Int), 0, 58, [])),
  (58, (48, 0, 0, 0, [])),
  (59, (7, ((5 : Nat) : Int), 1, 62, [])),
  (62, (33, ((16 : Nat) : Int), 0, 0, [])),
  (65, (0, (-9), 0, 67, [])),
  (67, (48, 0, 0, 0, []))]
theorem tk_X3_between : tOk mi_X3_between tl_X3_between = true := by decide +kernel
def pm_X3_between (pc : Nat) : Option PT := if [16].contains pc then none else tl_X3_between.lookup pc
theorem pk_X3_between : ∀ pc pt, pm_X3_between pc = some pt → okPt mi_X3_between pc pt := fun pc pt h => tOk_pm tk_X3_between h
section
variable {E : ET} {g : GT} {d : Nat} {lm : Nat × Nat} {RT : RTy} {F : FT} {n : Nat} {L : LV} {st : List AV} {h : AH}
theorem r_X3_between_0 : run E g mi_X3_between d lm RT F pm_X3_between (n + 1) 0 L st h = exI E d lm RT F (run E g mi_X3_between d lm RT F pm_X3_between n) (1, ((1 : Nat) : Int), 0, 1, []) L st h := run_s rfl
theorem r_X3_between_1 : run E g mi_X3_between d lm RT F pm_X3_between (n + 1) 1 L st h = exI E d lm RT F (run E g mi_X3_between d lm RT F pm_X3_between n) (1, ((2 : Nat) : Int), 0, 2, []) L st h := run_s rfl
theorem r_X3_between_2 : run E g mi_X3_between d lm RT F pm_X3_between (n + 1) 2 L st h = exI E d lm RT F (run E g mi_X3_between d lm RT F pm_X3_between n) (45, ((147 : Nat) : Int), ((2 : Nat) : Int), 5, []) L st h := run_s rfl
theorem r_X3_between_5 : run E g mi_X3_between d lm RT F pm_X3_between (n + 1) 5 L st h = exI E d lm RT F (run E g mi_X3_between d lm RT F pm_X3_between n) (4, ((3 : Nat) : Int), 0, 6, []) L st h := run_s rfl
theorem r_X3_between_6 : run E g mi_X3_between d lm RT F pm_X3_between (n + 1) 6 L st h = exI E d lm RT F (run E g mi_X3_between d lm RT F pm_X3_between n) (1, ((1 : Nat) : Int), 0, 7, []) L st h := run_s rfl
theorem r_X3_between_7 : run E g mi_X3_between d lm RT F pm_X3_between (n + 1) 7 L st h = exI E d lm RT F (run E g mi_X3_between d lm RT F pm_X3_between n) (1, ((2 : Nat) : Int), 0, 8, []) L st h := run_s rfl
theorem r_X3_between_8 : run E g mi_X3_between d lm RT F pm_X3_between (n + 1) 8 L st h = exI E d lm RT F (run E g mi_X3_between d lm RT F pm_X3_between n) (45, ((146 : Nat) : Int), ((2 : Nat) : Int), 11, []) L st h := run_s rfl
theorem r_X3_between_11 : run E g mi_X3_between d lm RT F pm_X3_between (n + 1) 11 L st h = exI E d lm RT F (run E g mi_X3_between d lm RT F pm_X3_between n) (4, ((4 : Nat) : Int), 0, 13, []) L st h := run_s rfl
theorem r_X3_between_13 : run E g mi_X3_between d lm RT F pm_X3_between (n + 1) 13 L st h = exI E d lm RT F (run E g mi_X3_between d lm RT F pm_X3_between n) (0, 0, 0, 14, []) L st h := run_s rfl
theorem r_X3_between_14 : run E g mi_X3_between d lm RT F pm_X3_between (n + 1) 14 L st h = exI E d lm RT F (run E g mi_X3_between d lm RT F pm_X3_between n) (4, ((5 : Nat) : Int), 0, 16, []) L st h := run_s rfl
theorem r_X3_between_16 : run E g mi_X3_between d lm RT F pm_X3_between (n + 1) 16 L st h = G E g mi_X3_between d lm RT 16 L st h := run_c rfl
theorem q_X3_between_16 (n : Nat) (hF : FOk E d F) (hx : exI E d lm RT F (run E g mi_X3_between d lm RT F pm_X3_between n) (1, ((5 : Nat) : Int), 0, 18, []) L st h) : G E g mi_X3_between d lm RT 16 L st h := sstep hF (tOk_spec tk_X3_between (by decide +kernel)) (run_sound hF pk_X3_between n) hx
theorem r_X3_between_18 : run E g mi_X3_between d lm RT F pm_X3_between (n + 1) 18 L st h = exI E d lm RT F (run E g mi_X3_between d lm RT F pm_X3_between n) (0, 16, 0, 20, []) L st h := run_s rfl
theorem r_X3_between_20 : run E g mi_X3_between d lm RT F pm_X3_between (n + 1) 20 L st h = exI E d lm RT F (run E g mi_X3_between d lm RT F pm_X3_between n) (32, 3, ((65 : Nat) : Int), 23, []) L st h := run_s rfl
theorem r_X3_between_23 : run E g mi_X3_between d lm RT F pm_X3_between (n + 1) 23 L st h = exI E d lm RT F (run E g mi_X3_between d lm RT F pm_X3_between n) (2, ((0 : Nat) : Int), 0, 24, []) L st h := run_s rfl
theorem r_X3_between_24 : run E g mi_X3_between d lm RT F pm_X3_between (n + 1) 24 L st h = exI E d lm RT F (run E g mi_X3_between d lm RT F pm_X3_between n) (35, ((3 : Nat) : Int), ((2 : Nat) : Int), 27, []) L st h := run_s rfl
theorem r_X3_between_27 : run E g mi_X3_between d lm RT F pm_X3_between (n + 1) 27 L st h = exI E d lm RT F (run E g mi_X3_between d lm RT F pm_X3_between n) (1, ((5 : Nat) : Int), 0, 29, []) L st h := run_s rfl
theorem r_X3_between_29 : run E g mi_X3_between d lm RT F pm_X3_between (n + 1) 29 L st h = exI E d lm RT F (run E g mi_X3_between d lm RT F pm_X3_between n) (38, 0, 0, 30, []) L st h := run_s rfl
theorem r_X3_between_30 : run E g mi_X3_between d lm RT F pm_X3_between (n + 1) 30 L st h = exI E d lm RT F (run E g mi_X3_between d lm RT F pm_X3_between n) (31, 5, ((59 : Nat) : Int), 33, []) L st h := run_s rfl
theorem r_X3_between_33 : run E g mi_X3_between d lm RT F pm_X3_between (n + 1) 33 L st h = exI E d lm RT F (run E g mi_X3_between d lm RT F pm_X3_between n) (2, ((0 : Nat) : Int), 0, 34, []) L st h := run_s rfl
theorem r_X3_between_34 : run E g mi_X3_between d lm RT F pm_X3_between (n + 1) 34 L st h = exI E d lm RT F (run E g mi_X3_between d lm RT F pm_X3_between n) (35, ((3 : Nat) : Int), ((0 : Nat) : Int), 37, []) L st h := run_s rfl
theorem r_X3_between_37 : run E g mi_X3_between d lm RT F pm_X3_between (n + 1) 37 L st h = exI E d lm RT F (run E g mi_X3_between d lm RT F pm_X3_between n) (1, ((5 : Nat) : Int), 0, 39, []) L st h := run_s rfl
theorem r_X3_between_39 : run E g mi_X3_between d lm RT F pm_X3_between (n + 1) 39 L st h = exI E d lm RT F (run E g mi_X3_between d lm RT F pm_X3_between n) (38, 0, 0, 40, []) L st h := run_s rfl
theorem r_X3_between_40 : run E g mi_X3_between d lm RT F pm_X3_between (n + 1) 40 L st h = exI E d lm RT F (run E g mi_X3_between d lm RT F pm_X3_between n) (1, ((3 : Nat) : Int), 0, 41, []) L st h := run_s rfl
theorem r_X3_between_41 : run E g mi_X3_between d lm RT F pm_X3_between (n + 1) 41 L st h = exI E d lm RT F (run E g mi_X3_between d lm RT F pm_X3_between n) (32, 1, ((59 : Nat) : Int), 44, []) L st h := run_s rfl
theorem r_X3_between_44 : run E g mi_X3_between d lm RT F pm_X3_between (n + 1) 44 L st h = exI E d lm RT F (run E g mi_X3_between d lm RT F pm_X3_between n) (2, ((0 : Nat) : Int), 0, 45, []) L st h := run_s rfl
theorem r_X3_between_45 : run E g mi_X3_between d lm RT F pm_X3_between (n + 1) 45 L st h = exI E d lm RT F (run E g mi_X3_between d lm RT F pm_X3_between n) (35, ((3 : Nat) : Int), ((1 : Nat) : Int), 48, []) L st h := run_s rfl
theorem r_X3_between_48 : run E g mi_X3_between d lm RT F pm_X3_between (n + 1) 48 L st h = exI E d lm RT F (run E g mi_X3_between d lm RT F pm_X3_between n) (1, ((5 : Nat) : Int), 0, 50, []) L st h := run_s rfl
theorem r_X3_between_50 : run E g mi_X3_between d lm RT F pm_X3_between (n + 1) 50 L st h = exI E d lm RT F (run E g mi_X3_between d lm RT F pm_X3_between n) (38, 0, 0, 51, []) L st h := run_s rfl
theorem r_X3_between_51 : run E g mi_X3_between d lm RT F pm_X3_between (n + 1) 51 L st h = exI E d lm RT F (run E g mi_X3_between d lm RT F pm_X3_between n) (1, ((4 : Nat) : Int), 0, 53, []) L st h := run_s rfl
theorem r_X3_between_53 : run E g mi_X3_between d lm RT F pm_X3_between (n + 1) 53 L st h = exI E d lm RT F (run E g mi_X3_between d lm RT F pm_X3_between n) (32, 1, ((59 : Nat) : Int), 56, []) L st h := run_s rfl
theorem r_X3_between_56 : run E g mi_X3_between d lm RT F pm_X3_between (n + 1) 56 L st h = exI E d lm RT F (run E g mi_X3_between d lm RT F pm_X3_between n) (1, ((5 : Nat) : Int), 0, 58, []) L st h := run_s rfl
theorem r_X3_between_58 : run E g mi_X3_between d lm RT F pm_X3_between (n + 1) 58 L st h = exI E d lm RT F (run E g mi_X3_between d lm RT F pm_X3_between n) (48, 0, 0, 0, []) L st h := run_s rfl
theorem r_X3_between_59 : run E g mi_X3_between d lm RT F pm_X3_between (n + 1) 59 L st h = exI E d lm RT F (run E g mi_X3_between d lm RT F pm_X3_between n) (7, ((5 : Nat) : Int), 1, 62, []) L st h := run_s rfl
theorem r_X3_between_62 : run E g mi_X3_between d lm RT F pm_X3_between (n + 1) 62 L st h = exI E d lm RT F (run E g mi_X3_between d lm RT F pm_X3_between n) (33, ((16 : Nat) : Int), 0, 0, []) L st h := run_s rfl
theorem r_X3_between_65 : run E g mi_X3_between d lm RT F pm_X3_between (n + 1) 65 L st h = exI E d lm RT F (run E g mi_X3_between d lm RT F pm_X3_between n) (0, (-9), 0, 67, []) L st h := run_s rfl
theorem r_X3_between_67 : run E g mi_X3_between d lm RT F pm_X3_between (n + 1) 67 L st h = exI E d lm RT F (run E g mi_X3_between d lm RT F pm_X3_between n) (48, 0, 0, 0, []) L st h := run_s rfl
theorem e_X3_between (n : Nat) {pc : Nat} (hF : FOk E d F) (hx : run E g mi_X3_between d lm RT F pm_X3_between n pc L st h) : G E g mi_X3_between d lm RT pc L st h := run_sound hF pk_X3_between n pc L st h hx
end
def mi_X3_delayBetween : MI := (3, cX3_delayBetween, 4, 0, false)
theorem mo_X3_delayBetween : miOk mi_X3_delayBetween (mt 10) = true := by decide +kernel
def tl_X3_delayBetween : List (Nat × PT) := [(0, (2, ((0 : Nat) : Int), 0, 1, [])),
  (1, (1, ((1 : Nat) : Int), 0, 2, [])),
  (2, (1, ((2 : Nat) : Int), 0, 3, [])),
  (3, (51, ((9 : Nat) : Int), ((3 : Nat) : Int), 6, [3])),
  (6, (4, ((3 : Nat) : Int), 0, 7, [])),
  (7, (1, ((3 : Nat) : Int), 0, 8, [])),
  (8, (0, (-9), 0, 10, [])),
  (10, (32, 1, ((17 : Nat) : Int), 13, [])),
  (13, (0, 0, 0, 14, [])),
  (14, (33, ((23 : Nat) : Int), 0, 0, [])),
  (17, (2, ((0 : Nat) : Int), 0, 18, [])),
  (18, (35, ((3 : Nat) : Int), ((2 : Nat) : Int), 21, [])),
  (21, (1, ((3 : Nat) : Int), 0, 22, [])),
  (22, (38, 0, 0, 23, [])),
  (23, (48, 0, 0, 0, []))]
theorem tk_X3_delayBetween : tOk mi_X3_delayBetween tl_X3_delayBetween = true := by decide +kernel
def pm_X3_delayBetween (pc : Nat) : Option PT := if [].contains pc then none else tl_X3_delayBetween.lookup pc
theorem pk_X3_delayBetween : ∀ pc pt, pm_X3_delayBetween pc = some pt → okPt mi_X3_delayBetween pc pt := fun pc pt h => tOk_pm tk_X3_delayBetween h
section
variable {E : ET} {g : GT} {d : Nat} {lm : Nat × Nat} {RT : RTy} {F : FT} {n : Nat} {L : LV} {st : List AV} {h : AH}
theorem r_X3_delayBetween_0 : run E g mi_X3_delayBetween d lm RT F pm_X3_delayBetween (n + 1) 0 L st h = exI E d lm RT F (run E g mi_X3_delayBetween d lm RT F pm_X3_delayBetween n) (2, ((0 : Nat) : Int), 0, 1, []) L st h := run_s rfl
theorem r_X3_delayBetween_1 : run E g mi_X3_delayBetween d lm RT F pm_X3_delayBetween (n + 1) 1 L st h = exI E d lm RT F (run E g mi_X3_delayBetween d lm RT F pm_X3_delayBetween n) (1, ((1 : Nat) : Int), 0, 2, []) L st h := run_s rfl
theorem r_X3_delayBetween_2 : run E g mi_X3_delayBetween d lm RT F pm_X3_delayBetween (n + 1) 2 L st h = exI E d lm RT F (run E g mi_X3_delayBetween d lm RT F pm_X3_delayBetween n) (1, ((2 : Nat) : Int), 0, 3, []) L st h := run_s rfl
theorem r_X3_delayBetween_3 : run E g mi_X3_delayBetween d lm RT F pm_X3_delayBetween (n + 1) 3 L st h = exI E d lm RT F (run E g mi_X3_delayBetween d lm RT F pm_X3_delayBetween n) (51, ((9 : Nat) : Int), ((3 : Nat) : Int), 6, [3]) L st h := run_s rfl
theorem r_X3_delayBetween_6 : run E g mi_X3_delayBetween d lm RT F pm_X3_delayBetween (n + 1) 6 L st h = exI E d lm RT F (run E g mi_X3_delayBetween d lm RT F pm_X3_delayBetween n) (4, ((3 : Nat) : Int), 0, 7, []) L st h := run_s rfl
theorem r_X3_delayBetween_7 : run E g mi_X3_delayBetween d lm RT F pm_X3_delayBetween (n + 1) 7 L st h = exI E d lm RT F (run E g mi_X3_delayBetween d lm RT F pm_X3_delayBetween n) (1, ((3 : Nat) : Int), 0, 8, []) L st h := run_s rfl
theorem r_X3_delayBetween_8 : run E g mi_X3_delayBetween d lm RT F pm_X3_delayBetween (n + 1) 8 L st h = exI E d lm RT F (run E g mi_X3_delayBetween d lm RT F pm_X3_delayBetween n) (0, (-9), 0, 10, []) L st h := run_s rfl
theorem r_X3_delayBetween_10 : run E g mi_X3_delayBetween d lm RT F pm_X3_delayBetween (n + 1) 10 L st h = exI E d lm RT F (run E g mi_X3_delayBetween d lm RT F pm_X3_delayBetween n) (32, 1, ((17 : Nat) : Int), 13, []) L st h := run_s rfl
theorem r_X3_delayBetween_13 : run E g mi_X3_delayBetween d lm RT F pm_X3_delayBetween (n + 1) 13 L st h = exI E d lm RT F (run E g mi_X3_delayBetween d lm RT F pm_X3_delayBetween n) (0, 0, 0, 14, []) L st h := run_s rfl
theorem r_X3_delayBetween_14 : run E g mi_X3_delayBetween d lm RT F pm_X3_delayBetween (n + 1) 14 L st h = exI E d lm RT F (run E g mi_X3_delayBetween d lm RT F pm_X3_delayBetween n) (33, ((23 : Nat) : Int), 0, 0, []) L st h := run_s rfl
theorem r_X3_delayBetween_17 : run E g mi_X3_delayBetween d lm RT F pm_X3_delayBetween (n + 1) 17 L st h = exI E d lm RT F (run E g mi_X3_delayBetween d lm RT F pm_X3_delayBetween n) (2, ((0 : Nat) : Int), 0, 18, []) L st h := run_s rfl
theorem r_X3_delayBetween_18 : run E g mi_X3_delayBetween d lm RT F pm_X3_delayBetween (n + 1) 18 L st h = exI E d lm RT F (run E g mi_X3_delayBetween d lm RT F pm_X3_delayBetween n) (35, ((3 : Nat) : Int), ((2 : Nat) : Int), 21, []) L st h := run_s rfl
theorem r_X3_delayBetween_21 : run E g mi_X3_delayBetween d lm RT F pm_X3_delayBetween (n + 1) 21 L st h = exI E d lm RT F (run E g mi_X3_delayBetween d lm RT F pm_X3_delayBetween n) (1, ((3 : Nat) : Int), 0, 22, []) L st h := run_s rfl
theorem r_X3_delayBetween_22 : run E g mi_X3_delayBetween d lm RT F pm_X3_delayBetween (n + 1) 22 L st h = exI E d lm RT F (run E g mi_X3_delayBetween d lm RT F pm_X3_delayBetween n) (38, 0, 0, 23, []) L st h := run_s rfl
theorem r_X3_delayBetween_23 : run E g mi_X3_delayBetween d lm RT F pm_X3_delayBetween (n + 1) 23 L st h = exI E d lm RT F (run E g mi_X3_delayBetween d lm RT F pm_X3_delayBetween n) (48, 0, 0, 0, []) L st h := run_s rfl
theorem e_X3_delayBetween (n : Nat) {pc : Nat} (hF : FOk E d F) (hx : run E g mi_X3_delayBetween d lm RT F pm_X3_delayBetween n pc L st h) : G E g mi_X3_delayBetween d lm RT pc L st h := run_sound hF pk_X3_delayBetween n pc L st h hx
end
def mi_X3_join : MI := (3, cX3_join, 5, 4, false)
theorem mo_X3_join : miOk mi_X3_join (mt 11) = true := by decide +kernel
def tl_X3_join : List (Nat × PT) := [(0, (2, ((0 : Nat) : Int), 0, 1, [])),
  (1, (35, ((3 : Nat) : Int), ((0 : Nat) : Int), 4, [])),
  (4, (1, ((1 : Nat) : Int), 0, 5, [])),
  (5, (1, ((2 : Nat) : Int), 0, 6, [])),
  (6, (1, ((3 : Nat) : Int), 0, 7, [])),
  (7, (45, ((147 : Nat) : Int), ((2 : Nat) : Int), 10, [])),
  (10, (39, 0, 0, 11, [])),
  (11, (2, ((0 : Nat) : Int), 0, 12, [])),
  (12, (35, ((3 : Nat) : Int), ((1 : Nat) : Int), 15, [])),
  (15, (1, ((1 : Nat) : Int), 0, 16, [])),
  (16, (1, ((2 : Nat) : Int), 0, 17, [])),
  (17, (1, ((3 : Nat) : Int), 0, 18, [])),
  (18, (45, ((146 : Nat) : Int), ((2 : Nat) : Int), 21, [])),
  (21, (39, 0, 0, 22, [])),
  (22, (2, ((0 : Nat) : Int), 0, 23, [])),
  (23, (35, ((3 : Nat) : Int), ((2 : Nat) : Int), 26, [])),
  (26, (1, ((1 : Nat) : Int), 0, 27, [])),
  (27, (1, ((4 : Nat) : Int), 0, 29, [])),
  (29, (39, 0, 0, 30, [])),
  (30, (2, ((0 : Nat) : Int), 0, 31, [])),
  (31, (35, ((3 : Nat) : Int), ((3 : Nat) : Int), 34, [])),
  (34, (1, ((2 : Nat) : Int), 0, 35, [])),
  (35, (29, 0, 0, 36, [])),
  (36, (38, 0, 0, 37, [])),
  (37, (0, 1, 0, 38, [])),
  (38, (1, ((3 : Nat) : Int), 0, 39, [])),
  (39, (16, 0, 0, 40, [])),
  (40, (14, 0, 0, 41, [])),
  (41, (39, 0, 0, 42, [])),
  (42, (2, ((0 : Nat) : Int), 0, 43, [])),
  (43, (35, ((3 : Nat) : Int), ((3 : Nat) : Int), 46, [])),
  (46, (1, ((3 : Nat) : Int), 0, 47, [])),
  (47, (29, 0, 0, 48, [])),
  (48, (38, 0, 0, 49, [])),
  (49, (0, 1, 0, 50, [])),
  (50, (1, ((2 : Nat) : Int), 0, 51, [])),
  (51, (16, 0, 0, 52, [])),
  (52, (14, 0, 0, 53, [])),
  (53, (39, 0, 0, 54, [])),
  (54, (2, ((0 : Nat) : Int), 0, 55, [])),
  (55, (28, 0, 0, 56, [])),
  (56, (35, ((3 : Nat) : Int), ((5 : Nat) : Int), 59, [])),
  (59, (0, 1, 0, 60, [])),
  (60, (8, 0, 0, 61, [])),
  (61, (36, ((3 : Nat) : Int), ((5 : Nat) : Int), 64, [0])),
  (64, (48, 4, 0, 0, []))]
theorem tk_X3_join_0 : tOk mi_X3_join ((tl_X3_join.drop 0).take 45) = true := by decide +kernel
theorem tk_X3_join_1 : tOk mi_X3_join ((tl_X3_join.drop 45).take 45) = true := by decide +kernel
theorem tk_X3_join : tOk mi_X3_join tl_X3_join = true := by
  refine tOk_cut 45 (by decide) (fun q hq => ?_)
  have hl : tl_X3_join.length = 46 := by decide +kernel
  rw [hl] at hq
  rcases (show q = 0 ∨ q = 1 by omega) with rfl | rfl
  · exact tk_X3_join_0
  · exact tk_X3_join_1
def pm_X3_join (pc : Nat) : Option PT := if [].contains pc then none else tl_X3_join.lookup pc
theorem pk_X3_join : ∀ pc pt, pm_X3_join pc = some pt → okPt mi_X3_join pc pt := fun pc pt h => tOk_pm tk_X3_join h
section
variable {E : ET} {g : GT} {d : Nat} {lm : Nat × Nat} {RT : RTy} {F : FT} {n : Nat} {L : LV} {st : List AV} {h : AH}
theorem r_X3_join_0 : run E g mi_X3_join d lm RT F pm_X3_join (n + 1) 0 L st h = exI E d lm RT F (run E g mi_X3_join d lm RT F pm_X3_join n) (2, ((0 : Nat) : Int), 0, 1, []) L st h := run_s rfl
theorem r_X3_join_1 : run E g mi_X3_join d lm RT F pm_X3_join (n + 1) 1 L st h = exI E d lm RT F (run E g mi_X3_join d lm RT F pm_X3_join n) (35, ((3 : Nat) : Int), ((0 : Nat) : Int), 4, []) L st h := run_s rfl
theorem r_X3_join_4 : run E g mi_X3_join d lm RT F pm_X3_join (n + 1) 4 L st h = exI E d lm RT F (run E g mi_X3_join d lm RT F pm_X3_join n) (1, ((1 : Nat) : Int), 0, 5, []) L st h := run_s rfl
theorem r_X3_join_5 : run E g mi_X3_join d lm RT F pm_X3_join (n + 1) 5 L st h = exI E d lm RT F (run E g mi_X3_join d lm RT F pm_X3_join n) (1, ((2 : Nat) : Int), 0, 6, []) L st h := run_s rfl
theorem r_X3_join_6 : run E g mi_X3_join d lm RT F pm_X3_join (n + 1) 6 L st h = exI E d lm RT F (run E g mi_X3_join d lm RT F pm_X3_join n) (1, ((3 : Nat) : Int), 0, 7, []) L st h := run_s rfl
theorem r_X3_join_7 : run E g mi_X3_join d lm RT F pm_X3_join (n + 1) 7 L st h = exI E d lm RT F (run E g mi_X3_join d lm RT F pm_X3_join n) (45, ((147 : Nat) : Int), ((2 : Nat) : Int), 10, []) L st h := run_s rfl
theorem r_X3_join_10 : run E g mi_X3_join d lm RT F pm_X3_join (n + 1) 10 L st h = exI E d lm RT F (run E g mi_X3_join d lm RT F pm_X3_join n) (39, 0, 0, 11, []) L st h := run_s rfl
theorem r_X3_join_11 : run E g mi_X3_join d lm RT F pm_X3_join (n + 1) 11 L st h = exI E d lm RT F (run E g mi_X3_join d lm RT F pm_X3_join n) (2, ((0 : Nat) : Int), 0, 12, []) L st h := run_s rfl
theorem r_X3_join_12 : run E g mi_X3_join d lm RT F pm_X3_join (n + 1) 12 L st h = exI E d lm RT F (run E g mi_X3_join d lm RT F pm_X3_join n) (35, ((3 : Nat) : Int), ((1 : Nat) : Int), 15, []) L st h := run_s rfl
theorem r_X3_join_15 : run E g mi_X3_join d lm RT F pm_X3_join (n + 1) 15 L st h = exI E d lm RT F (run E g mi_X3_join d lm RT F pm_X3_join n) (1, ((1 : Nat) : Int), 0, 16, []) L st h := run_s rfl
theorem r_X3_join_16 : run E g mi_X3_join d lm RT F pm_X3_join (n + 1) 16 L st h = exI E d lm RT F (run E g mi_X3_join d lm RT F pm_X3_join n) (1, ((2 : Nat) : Int), 0, 17, []) L st h := run_s rfl
theorem r_X3_join_17 : run E g mi_X3_join d lm RT F pm_X3_join (n + 1) 17 L st h = exI E d lm RT F (run E g mi_X3_join d lm RT F pm_X3_join n) (1, ((3 : Nat) : Int), 0, 18, []) L st h := run_s rfl
theorem r_X3_join_18 : run E g mi_X3_join d lm RT F pm_X3_join (n + 1) 18 L st h = exI E d lm RT F (run E g mi_X3_join d lm RT F pm_X3_join n) (45, ((146 : Nat) : Int), ((2 : Nat) : Int), 21, []) L st h := run_s rfl
theorem r_X3_join_21 : run E g mi_X3_join d lm RT F pm_X3_join (n + 1) 21 L st h = exI E d lm RT F (run E g mi_X3_join d lm RT F pm_X3_join n) (39, 0, 0, 22, []) L st h := run_s rfl
theorem r_X3_join_22 : run E g mi_X3_join d lm RT F pm_X3_join (n + 1) 22 L st h = exI E d lm RT F (run E g mi_X3_join d lm RT F pm_X3_join n) (2, ((0 : Nat) : Int), 0, 23, []) L st h := run_s rfl
theorem r_X3_join_23 : run E g mi_X3_join d lm RT F pm_X3_join (n + 1) 23 L st h = exI E d lm RT F (run E g mi_X3_join d lm RT F pm_X3_join n) (35, ((3 : Nat) : Int), ((2 : Nat) : Int), 26, []) L st h := run_s rfl
theorem r_X3_join_26 : run E g mi_X3_join d lm RT F pm_X3_join (n + 1) 26 L st h = exI E d lm RT F (run E g mi_X3_join d lm RT F pm_X3_join n) (1, ((1 : Nat) : Int), 0, 27, []) L st h := run_s rfl
theorem r_X3_join_27 : run E g mi_X3_join d lm RT F pm_X3_join (n + 1) 27 L st h = exI E d lm RT F (run E g mi_X3_join d lm RT F pm_X3_join n) (1, ((4 : Nat) : Int), 0, 29, []) L st h := run_s rfl
theorem r_X3_join_29 : run E g mi_X3_join d lm RT F pm_X3_join (n + 1) 29 L st h = exI E d lm RT F (run E g mi_X3_join d lm RT F pm_X3_join n) (39, 0, 0, 30, []) L st h := run_s rfl
theorem r_X3_join_30 : run E g mi_X3_join d lm RT F pm_X3_join (n + 1) 30 L st h = exI E d lm RT F (run E g mi_X3_join d lm RT F pm_X3_join n) (2, ((0 : Nat) : Int), 0, 31, []) L st h := run_s rfl
theorem r_X3_join_31 : run E g mi_X3_join d lm RT F pm_X3_join (n + 1) 31 L st h = exI E d lm RT F (run E g mi_X3_join d lm RT F pm_X3_join n) (35, ((3 : Nat) : Int), ((3 : Nat) : Int), 34, []) L st h := run_s rfl
theorem r_X3_join_34 : run E g mi_X3_join d lm RT F pm_X3_join (n + 1) 34 L st h = exI E d lm RT F (run E g mi_X3_join d lm RT F pm_X3_join n) (1, ((2 : Nat) : Int), 0, 35, []) L st h := run_s rfl
theorem r_X3_join_35 : run E g mi_X3_join d lm RT F pm_X3_join (n + 1) 35 L st h = exI E d lm RT F (run E g mi_X3_join d lm RT F pm_X3_join n) (29, 0, 0, 36, []) L st h := run_s rfl
theorem r_X3_join_36 : run E g mi_X3_join d lm RT F pm_X3_join (n + 1) 36 L st h = exI E d lm RT F (run E g mi_X3_join d lm RT F pm_X3_join n) (38, 0, 0, 37, []) L st h := run_s rfl
theorem r_X3_join_37 : run E g mi_X3_join d lm RT F pm_X3_join (n + 1) 37 L st h = exI E d lm RT F (run E g mi_X3_join d lm RT F pm_X3_join n) (0, 1, 0, 38, []) L st h := run_s rfl
theorem r_X3_join_38 : run E g mi_X3_join d lm RT F pm_X3_join (n + 1) 38 L st h = exI E d lm RT F (run E g mi_X3_join d lm RT F pm_X3_join n) (1, ((3 : Nat) : Int), 0, 39, []) L st h := run_s rfl
theorem r_X3_join_39 : run E g mi_X3_join d lm RT F pm_X3_join (n + 1) 39 L st h = exI E d lm RT F (run E g mi_X3_join d lm RT F pm_X3_join n) (16, 0, 0, 40, []) L st h := run_s rfl
theorem r_X3_join_40 : run E g mi_X3_join d lm RT F pm_X3_join (n + 1) 40 L st h = exI E d lm RT F (run E g mi_X3_join d lm RT F pm_X3_join n) (14, 0, 0, 41, []) L st h := run_s rfl
theorem r_X3_join_41 : run E g mi_X3_join d lm RT F pm_X3_join (n + 1) 41 L st h = exI E d lm RT F (run E g mi_X3_join d lm RT F pm_X3_join n) (39, 0, 0, 42, []) L st h := run_s rfl
theorem r_X3_join_42 : run E g mi_X3_join d lm RT F pm_X3_join (n + 1) 42 L st h = exI E d lm RT F (run E g mi_X3_join d lm RT F pm_X3_join n) (2, ((0 : Nat) : Int), 0, 43, []) L st h := run_s rfl
theorem r_X3_join_43 : run E g mi_X3_join d lm RT F pm_X3_join (n + 1) 43 L st h = exI E d lm RT F (run E g mi_X3_join d lm RT F pm_X3_join n) (35, ((3 : Nat) : Int), ((3 : Nat) : Int), 46, []) L st h := run_s rfl
theorem r_X3_join_46 : run E g mi_X3_join d lm RT F pm_X3_join (n + 1) 46 L st h = exI E d lm RT F (run E g mi_X3_join d lm RT F pm_X3_join n) (1, ((3 : Nat) : Int), 0, 47, []) L st h := run_s rfl
theorem r_X3_join_47 : run E g mi_X3_join d lm RT F pm_X3_join (n + 1) 47 L st h = exI E d lm RT F (run E g mi_X3_join d lm RT F pm_X3_join n) (29, 0, 0, 48, []) L st h := run_s rfl
theorem r_X3_join_48 : run E g mi_X3_join d lm RT F pm_X3_join (n + 1) 48 L st h = exI E d lm RT F (run E g mi_X3_join d lm RT F pm_X3_join n) (38, 0, 0, 49, []) L st h := run_s rfl
theorem r_X3_join_49 : run E g mi_X3_join d lm RT F pm_X3_join (n + 1) 49 L st h = exI E d lm RT F (run E g mi_X3_join d lm RT F pm_X3_join n) (0, 1, 0, 50, []) L st h := run_s rfl
theorem r_X3_join_50 : run E g mi_X3_join d lm RT F pm_X3_join (n + 1) 50 L st h = exI E d lm RT F (run E g mi_X3_join d lm RT F pm_X3_join n) (1, ((2 : Nat) : Int), 0, 51, []) L st h := run_s rfl
theorem r_X3_join_51 : run E g mi_X3_join d lm RT F pm_X3_join (n + 1) 51 L st h = exI E d lm RT F (run E g mi_X3_join d lm RT F pm_X3_join n) (16, 0, 0, 52, []) L st h := run_s rfl
theorem r_X3_join_52 : run E g mi_X3_join d lm RT F pm_X3_join (n + 1) 52 L st h = exI E d lm RT F (run E g mi_X3_join d lm RT F pm_X3_join n) (14, 0, 0, 53, []) L st h := run_s rfl
theorem r_X3_join_53 : run E g mi_X3_join d lm RT F pm_X3_join (n + 1) 53 L st h = exI E d lm RT F (run E g mi_X3_join d lm RT F pm_X3_join n) (39, 0, 0, 54, []) L st h := run_s rfl
theorem r_X3_join_54 : run E g mi_X3_join d lm RT F pm_X3_join (n + 1) 54 L st h = exI E d lm RT F (run E g mi_X3_join d lm RT F pm_X3_join n) (2, ((0 : Nat) : Int), 0, 55, []) L st h := run_s rfl
theorem r_X3_join_55 : run E g mi_X3_join d lm RT F pm_X3_join (n + 1) 55 L st h = exI E d lm RT F (run E g mi_X3_join d lm RT F pm_X3_join n) (28, 0, 0, 56, []) L st h := run_s rfl
theorem r_X3_join_56 : run E g mi_X3_join d lm RT F pm_X3_join (n + 1) 56 L st h = exI E d lm RT F (run E g mi_X3_join d lm RT F pm_X3_join n) (35, ((3 : Nat) : Int), ((5 : Nat) : Int), 59, []) L st h := run_s rfl
theorem r_X3_join_59 : run E g mi_X3_join d lm RT F pm_X3_join (n + 1) 59 L st h = exI E d lm RT F (run E g mi_X3_join d lm RT F pm_X3_join n) (0, 1, 0, 60, []) L st h := run_s rfl
theorem r_X3_join_60 : run E g mi_X3_join d lm RT F pm_X3_join (n + 1) 60 L st h = exI E d lm RT F (run E g mi_X3_join d lm RT F pm_X3_join n) (8, 0, 0, 61, []) L st h := run_s rfl
theorem r_X3_join_61 : run E g mi_X3_join d lm RT F pm_X3_join (n + 1) 61 L st h = exI E d lm RT F (run E g mi_X3_join d lm RT F pm_X3_join n) (36, ((3 : Nat) : Int), ((5 : Nat) : Int), 64, [0]) L st h := run_s rfl
theorem r_X3_join_64 : run E g mi_X3_join d lm RT F pm_X3_join (n + 1) 64 L st h = exI E d lm RT F (run E g mi_X3_join d lm RT F pm_X3_join n) (48, 4, 0, 0, []) L st h := run_s rfl
theorem e_X3_join (n : Nat) {pc : Nat} (hF : FOk E d F) (hx : run E g mi_X3_join d lm RT F pm_X3_join n pc L st h) : G E g mi_X3_join d lm RT pc L st h := run_sound hF pk_X3_join n pc L st h hx
end
def mi_X3_part : MI := (3, cX3_part, 4, 4, false)
theorem mo_X3_part : miOk mi_X3_part (mt 12) = true := by decide +kernel
def tl_X3_part : List (Nat × PT) := [(0, (2, ((0 : Nat) : Int), 0, 1, [])),
  (1, (35, ((3 : Nat) : Int), ((0 : Nat) : Int), 4, [])),
  (4, (1, ((1 : Nat) : Int), 0, 5, [])),
  (5, (38, 0, 0, 6, [])),
  (6, (4, ((2 : Nat) : Int), 0, 7, [])),
  (7, (2, ((0 : Nat) : Int), 0, 8, [])),
  (8, (35, ((3 : Nat) : Int), ((1 : Nat) : Int), 11, [])),
  (11, (1, ((1 : Nat) : Int), 0, 12, [])),
  (12, (38, 0, 0, 13, [])),
  (13, (4, ((3 : Nat) : Int), 0, 14, [])),
  (14, (2, ((0 : Nat) : Int), 0, 15, [])),
  (15, (35, ((3 : Nat) : Int), ((2 : Nat) : Int), 18, [])),
  (18, (1, ((1 : Nat) : Int), 0, 19, [])),
  (19, (0, 0, 0, 20, [])),
  (20, (39, 0, 0, 21, [])),
  (21, (2, ((0 : Nat) : Int), 0, 22, [])),
  (22, (35, ((3 : Nat) : Int), ((3 : Nat) : Int), 25, [])),
  (25, (1, ((2 : Nat) : Int), 0, 26, [])),
  (26, (29, 0, 0, 27, [])),
  (27, (38, 0, 0, 28, [])),
  (28, (0, 1, 0, 29, [])),
  (29, (1, ((3 : Nat) : Int), 0, 30, [])),
  (30, (16, 0, 0, 31, [])),
  (31, (0, (-1), 0, 32, [])),
  (32, (15, 0, 0, 33, [])),
  (33, (13, 0, 0, 34, [])),
  (34, (39, 0, 0, 35, [])),
  (35, (2, ((0 : Nat) : Int), 0, 36, [])),
  (36, (35, ((3 : Nat) : Int), ((3 : Nat) : Int), 39, [])),
  (39, (1, ((3 : Nat) : Int), 0, 40, [])),
  (40, (29, 0, 0, 41, [])),
  (41, (38, 0, 0, 42, [])),
  (42, (0, 1, 0, 43, [])),
  (43, (1, ((2 : Nat) : Int), 0, 44, [])),
  (44, (16, 0, 0, 45, [])),
  (45, (0, (-1), 0, 46, [])),
  (46, (15, 0, 0, 47, [])),
  (47, (13, 0, 0, 48, [])),
  (48, (39, 0, 0, 49, [])),
  (49, (2, ((0 : Nat) : Int), 0, 50, [])),
  (50, (28, 0, 0, 51, [])),
  (51, (35, ((3 : Nat) : Int), ((5 : Nat) : Int), 54, [])),
  (54, (0, 1, 0, 55, [])),
  (55, (9, 0, 0, 56, [])),
  (56, (36, ((3 : Nat) : Int), ((5 : Nat) : Int), 59, [0])),
  (59, (48, 4, 0, 0, []))]
theorem tk_X3_part_0 : tOk mi_X3_part ((tl_X3_part.drop 0).take 45) = true := by decide +kernel
theorem tk_X3_part_1 : tOk mi_X3_part ((tl_X3_part.drop 45).take 45) = true := by decide +kernel
theorem tk_X3_part : tOk mi_X3_part tl_X3_part = true := by
  refine tOk_cut 45 (by decide) (fun q hq => ?_)
  have hl : tl_X3_part.length = 46 := by decide +kernel
  rw [hl] at hq
  rcases (show q = 0 ∨ q = 1 by omega) with rfl | rfl
  · exact tk_X3_part_0
  · exact tk_X3_part_1
def pm_X3_part (pc : Nat) : Option PT := if [].contains pc then none else tl_X3_part.lookup pc
theorem pk_X3_part : ∀ pc pt, pm_X3_part pc = some pt → okPt mi_X3_part pc pt := fun pc pt h => tOk_pm tk_X3_part h
section
variable {E : ET} {g : GT} {d : Nat} {lm : Nat × Nat} {RT : RTy} {F : FT} {n : Nat} {L : LV} {st : List AV} {h : AH}
theorem r_X3_part_0 : run E g mi_X3_part d lm RT F pm_X3_part (n + 1) 0 L st h = exI E d lm RT F (run E g mi_X3_part d lm RT F pm_X3_part n) (2, ((0 : Nat) : Int), 0, 1, []) L st h := run_s rfl
theorem r_X3_part_1 : run E g mi_X3_part d lm RT F pm_X3_part (n + 1) 1 L st h = exI E d lm RT F (run E g mi_X3_part d lm RT F pm_X3_part n) (35, ((3 : Nat) : Int), ((0 : Nat) : Int), 4, []) L st h := run_s rfl
theorem r_X3_part_4 : run E g mi_X3_part d lm RT F pm_X3_part (n + 1) 4 L st h = exI E d lm RT F (run E g mi_X3_part d lm RT F pm_X3_part n) (1, ((1 : Nat) : Int), 0, 5, []) L st h := run_s rfl
theorem r_X3_part_5 : run E g mi_X3_part d lm RT F pm_X3_part (n + 1) 5 L st h = exI E d lm RT F (run E g mi_X3_part d lm RT F pm_X3_part n) (38, 0, 0, 6, []) L st h := run_s rfl
theorem r_X3_part_6 : run E g mi_X3_part d lm RT F pm_X3_part (n + 1) 6 L st h = exI E d lm RT F (run E g mi_X3_part d lm RT F pm_X3_part n) (4, ((2 : Nat) : Int), 0, 7, []) L st h := run_s rfl
theorem r_X3_part_7 : run E g mi_X3_part d lm RT F pm_X3_part (n + 1) 7 L st h = exI E d lm RT F (run E g mi_X3_part d lm RT F pm_X3_part n) (2, ((0 : Nat) : Int), 0, 8, []) L st h := run_s rfl
theorem r_X3_part_8 : run E g mi_X3_part d lm RT F pm_X3_part (n + 1) 8 L st h = exI E d lm RT F (run E g mi_X3_part d lm RT F pm_X3_part n) (35, ((3 : Nat) : Int), ((1 : Nat) : Int), 11, []) L st h := run_s rfl
theorem r_X3_part_11 : run E g mi_X3_part d lm RT F pm_X3_part (n + 1) 11 L st h = exI E d lm RT F (run E g mi_X3_part d lm RT F pm_X3_part n) (1, ((1 : Nat) : Int), 0, 12, []) L st h := run_s rfl
theorem r_X3_part_12 : run E g mi_X3_part d lm RT F pm_X3_part (n + 1) 12 L st h = exI E d lm RT F (run E g mi_X3_part d lm RT F pm_X3_part n) (38, 0, 0, 13, []) L st h := run_s rfl
theorem r_X3_part_13 : run E g mi_X3_part d lm RT F pm_X3_part (n + 1) 13 L st h = exI E d lm RT F (run E g mi_X3_part d lm RT F pm_X3_part n) (4, ((3 : Nat) : Int), 0, 14, []) L st h := run_s rfl
theorem r_X3_part_14 : run E g mi_X3_part d lm RT F pm_X3_part (n + 1) 14 L st h = exI E d lm RT F (run E g mi_X3_part d lm RT F pm_X3_part n) (2, ((0 : Nat) : Int), 0, 15, []) L st h := run_s rfl
theorem r_X3_part_15 : run E g mi_X3_part d lm RT F pm_X3_part (n + 1) 15 L st h = exI E d lm RT F (run E g mi_X3_part d lm RT F pm_X3_part n) (35, ((3 : Nat) : Int), ((2 : Nat) : Int), 18, []) L st h := run_s rfl
theorem r_X3_part_18 : run E g mi_X3_part d lm RT F pm_X3_part (n + 1) 18 L st h = exI E d lm RT F (run E g mi_X3_part d lm RT F pm_X3_part n) (1, ((1 : Nat) : Int), 0, 19, []) L st h := run_s rfl
theorem r_X3_part_19 : run E g mi_X3_part d lm RT F pm_X3_part (n + 1) 19 L st h = exI E d lm RT F (run E g mi_X3_part d lm RT F pm_X3_part n) (0, 0, 0, 20, []) L st h := run_s rfl
theorem r_X3_part_20 : run E g mi_X3_part d lm RT F pm_X3_part (n + 1) 20 L st h = exI E d lm RT F (run E g mi_X3_part d lm RT F pm_X3_part n) (39, 0, 0, 21, []) L st h := run_s rfl
theorem r_X3_part_21 : run E g mi_X3_part d lm RT F pm_X3_part (n + 1) 21 L st h = exI E d lm RT F (run E g mi_X3_part d lm RT F pm_X3_part n) (2, ((0 : Nat) : Int), 0, 22, []) L st h := run_s rfl
theorem r_X3_part_22 : run E g mi_X3_part d lm RT F pm_X3_part (n + 1) 22 L st h = exI E d lm RT F (run E g mi_X3_part d lm RT F pm_X3_part n) (35, ((3 : Nat) : Int), ((3 : Nat) : Int), 25, []) L st h := run_s rfl
theorem r_X3_part_25 : run E g mi_X3_part d lm RT F pm_X3_part (n + 1) 25 L st h = exI E d lm RT F (run E g mi_X3_part d lm RT F pm_X3_part n) (1, ((2 : Nat) : Int), 0, 26, []) L st h := run_s rfl
theorem r_X3_part_26 : run E g mi_X3_part d lm RT F pm_X3_part (n + 1) 26 L st h = exI E d lm RT F (run E g mi_X3_part d lm RT F pm_X3_part n) (29, 0, 0, 27, []) L st h := run_s rfl
theorem r_X3_part_27 : run E g mi_X3_part d lm RT F pm_X3_part (n + 1) 27 L st h = exI E d lm RT F (run E g mi_X3_part d lm RT F pm_X3_part n) (38, 0, 0, 28, []) L st h := run_s rfl
theorem r_X3_part_28 : run E g mi_X3_part d lm RT F pm_X3_part (n + 1) 28 L st h = exI E d lm RT F (run E g mi_X3_part d lm RT F pm_X3_part n) (0, 1, 0, 29, []) L st h := run_s rfl
theorem r_X3_part_29 : run E g mi_X3_part d lm RT F pm_X3_part (n + 1) 29 L st h = exI E d lm RT F (run E g mi_X3_part d lm RT F pm_X3_part n) (1, ((3 : Nat) : Int), 0, 30, []) L st h := run_s rfl
theorem r_X3_part_30 : run E g mi_X3_part d lm RT F pm_X3_part (n + 1) 30 L st h = exI E d lm RT F (run E g mi_X3_part d lm RT F pm_X3_part n) (16, 0, 0, 31, []) L st h := run_s rfl
theorem r_X3_part_31 : run E g mi_X3_part d lm RT F pm_X3_part (n + 1) 31 L st h = exI E d lm RT F (run E g mi_X3_part d lm RT F pm_X3_part n) (0, (-1), 0, 32, []) L st h := run_s rfl
theorem r_X3_part_32 : run E g mi_X3_part d lm RT F pm_X3_part (n + 1) 32 L st h = exI E d lm RT F (run E g mi_X3_part d lm RT F pm_X3_part n) (15, 0, 0, 33, []) L st h := run_s rfl
theorem r_X3_part_33 : run E g mi_X3_part d lm RT F pm_X3_part (n + 1) 33 L st h = exI E d lm RT F (run E g mi_X3_part d lm RT F pm_X3_part n) (13, 0, 0, 34, []) L st h := run_s rfl
theorem r_X3_part_34 : run E g mi_X3_part d lm RT F pm_X3_part (n + 1) 34 L st h = exI E d lm RT F (run E g mi_X3_part d lm RT F pm_X3_part n) (39, 0, 0, 35, []) L st h := run_s rfl
theorem r_X3_part_35 : run E g mi_X3_part d lm RT F pm_X3_part (n + 1) 35 L st h = exI E d lm RT F (run E g mi_X3_part d lm RT F pm_X3_part n) (2, ((0 : Nat) : Int), 0, 36, []) L st h := run_s rfl
theorem r_X3_part_36 : run E g mi_X3_part d lm RT F pm_X3_part (n + 1) 36 L st h = exI E d lm RT F (run E g mi_X3_part d lm RT F pm_X3_part n) (35, ((3 : Nat) : Int), ((3 : Nat) : Int), 39, []) L st h := run_s rfl
theorem r_X3_part_39 : run E g mi_X3_part d lm RT F pm_X3_part (n + 1) 39 L st h = exI E d lm RT F (run E g mi_X3_part d lm RT F pm_X3_part n) (1, ((3 : Nat) : Int), 0, 40, []) L st h := run_s rfl
theorem r_X3_part_40 : run E g mi_X3_part d lm RT F pm_X3_part (n + 1) 40 L st h = exI E d lm RT F (run E g mi_X3_part d lm RT F pm_X3_part n) (29, 0, 0, 41, []) L st h := run_s rfl
theorem r_X3_part_41 : run E g mi_X3_part d lm RT F pm_X3_part (n + 1) 41 L st h = exI E d lm RT F (run E g mi_X3_part d lm RT F pm_X3_part n) (38, 0, 0, 42, []) L st h := run_s rfl
theorem r_X3_part_42 : run E g mi_X3_part d lm RT F pm_X3_part (n + 1) 42 L st h = exI E d lm RT F (run E g mi_X3_part d lm RT F pm_X3_part n) (0, 1, 0, 43, []) L st h := run_s rfl
theorem r_X3_part_43 : run E g mi_X3_part d lm RT F pm_X3_part (n + 1) 43 L st h = exI E d lm RT F (run E g mi_X3_part d lm RT F pm_X3_part n) (1, ((2 : Nat) : Int), 0, 44, []) L st h := run_s rfl
theorem r_X3_part_44 : run E g mi_X3_part d lm RT F pm_X3_part (n + 1) 44 L st h = exI E d lm RT F (run E g mi_X3_part d lm RT F pm_X3_part n) (16, 0, 0, 45, []) L st h := run_s rfl
theorem r_X3_part_45 : run E g mi_X3_part d lm RT F pm_X3_part (n + 1) 45 L st h = exI E d lm RT F (run E g mi_X3_part d lm RT F pm_X3_part n) (0, (-1), 0, 46, []) L st h := run_s rfl
theorem r_X3_part_46 : run E g mi_X3_part d lm RT F pm_X3_part (n + 1) 46 L st h = exI E d lm RT F (run E g mi_X3_part d lm RT F pm_X3_part n) (15, 0, 0, 47, []) L st h := run_s rfl
theorem r_X3_part_47 : run E g mi_X3_part d lm RT F pm_X3_part (n + 1) 47 L st h = exI E d lm RT F (run E g mi_X3_part d lm RT F pm_X3_part n) (13, 0, 0, 48, []) L st h := run_s rfl
theorem r_X3_part_48 : run E g mi_X3_part d lm RT F pm_X3_part (n + 1) 48 L st h = exI E d lm RT F (run E g mi_X3_part d lm RT F pm_X3_part n) (39, 0, 0, 49, []) L st h := run_s rfl
theorem r_X3_part_49 : run E g mi_X3_part d lm RT F pm_X3_part (n + 1) 49 L st h = exI E d lm RT F (run E g mi_X3_part d lm RT F pm_X3_part n) (2, ((0 : Nat) : Int), 0, 50, []) L st h := run_s rfl
theorem r_X3_part_50 : run E g mi_X3_part d lm RT F pm_X3_part (n + 1) 50 L st h = exI E d lm RT F (run E g mi_X3_part d lm RT F pm_X3_part n) (28, 0, 0, 51, []) L st h := run_s rfl
theorem r_X3_part_51 : run E g mi_X3_part d lm RT F pm_X3_part (n + 1) 51 L st h = exI E d lm RT F (run E g mi_X3_part d lm RT F pm_X3_part n) (35, ((3 : Nat) : Int), ((5 : Nat) : Int), 54, []) L st h := run_s rfl
theorem r_X3_part_54 : run E g mi_X3_part d lm RT F pm_X3_part (n + 1) 54 L st h = exI E d lm RT F (run E g mi_X3_part d lm RT F pm_X3_part n) (0, 1, 0, 55, []) L st h := run_s rfl
theorem r_X3_part_55 : run E g mi_X3_part d lm RT F pm_X3_part (n + 1) 55 L st h = exI E d lm RT F (run E g mi_X3_part d lm RT F pm_X3_part n) (9, 0, 0, 56, []) L st h := run_s rfl
theorem r_X3_part_56 : run E g mi_X3_part d lm RT F pm_X3_part (n + 1) 56 L st h = exI E d lm RT F (run E g mi_X3_part d lm RT F pm_X3_part n) (36, ((3 : Nat) : Int), ((5 : Nat) : Int), 59, [0]) L st h := run_s rfl
theorem r_X3_part_59 : run E g mi_X3_part d lm RT F pm_X3_part (n + 1) 59 L st h = exI E d lm RT F (run E g mi_X3_part d lm RT F pm_X3_part n) (48, 4, 0, 0, []) L st h := run_s rfl
theorem e_X3_part (n : Nat) {pc : Nat} (hF : FOk E d F) (hx : run E g mi_X3_part d lm RT F pm_X3_part n pc L st h) : G E g mi_X3_part d lm RT pc L st h := run_sound hF pk_X3_part n pc L st h hx
end
def mi_X3_measureTo : MI := (3, cX3_measureTo, 4, 4, false)
theorem mo_X3_measureTo : miOk mi_X3_measureTo (mt 13) = true := by decide +kernel
def tl_X3_measureTo : List (Nat × PT) := [(0, (0, 0, 0, 1, [])),
  (1, (4, ((2 : Nat) : Int), 0, 2, [])),
  (2, (1, ((2 : Nat) : Int), 0, 3, [])),
  (3, (0, 8, 0, 5, [])),
  (5, (32, 3, ((22 : Nat) : Int), 8, [])),
  (8, (2, ((0 : Nat) : Int), 0, 9, [])),
  (9, (35, ((3 : Nat) : Int), ((4 : Nat) : Int), 12, [])),
  (12, (1, ((2 : Nat) : Int), 0, 13, [])),
  (13, (0, (-9), 0, 15, [])),
  (15, (39, 0, 0, 16, [])),
  (16, (7, ((2 : Nat) : Int), 1, 19, [])),
  (19, (33, ((2 : Nat) : Int), 0, 0, [])),
  (22, (2, ((0 : Nat) : Int), 0, 23, [])),
  (23, (35, ((3 : Nat) : Int), ((4 : Nat) : Int), 26, [])),
  (26, (1, ((1 : Nat) : Int), 0, 27, [])),
  (27, (0, 0, 0, 28, [])),
  (28, (39, 0, 0, 29, [])),
  (29, (0, 1, 0, 30, [])),
  (30, (4, ((2 : Nat) : Int), 0, 31, [])),
  (31, (1, ((2 : Nat) : Int), 0, 32, [])),
  (32, (0, 8, 0, 34, [])),
  (34, (32, 3, ((110 : Nat) : Int), 37, [])),
  (37, (0, 0, 0, 38, [])),
  (38, (4, ((3 : Nat) : Int), 0, 39, [])),
  (39, (1, ((3 : Nat) : Int), 0, 40, [])),
  (40, (0, 16, 0, 42, [])),
  (42, (32, 3, ((104 : Nat) : Int), 45, [])),
  (45, (2, ((0 : Nat) : Int), 0, 46, [])),
  (46, (35, ((3 : Nat) : Int), ((2 : Nat) : Int), 49, [])),
  (49, (1, ((3 : Nat) : Int), 0, 50, [])),
  (50, (38, 0, 0, 51, [])),
  (51, (31, 5, ((98 : Nat) : Int), 54, [])),
  (54, (2, ((0 : Nat) : Int), 0, 55, [])),
  (55, (2, ((0 : Nat) : Int), 0, 56, [])),
  (56, (35, ((3 : Nat) : Int), ((0 : Nat) : Int), 59, [])),
  (59, (1, ((3 : Nat) : Int), 0, 60, [])),
  (60, (38, 0, 0, 61, [])),
  (61, (2, ((0 : Nat) : Int), 0, 62, [])),
  (62, (35, ((3 : Nat) : Int), ((1 : Nat) : Int), 65, [])),
  (65, (1, ((3 : Nat) : Int), 0, 66, [])),
  (66, (38, 0, 0, 67, [])),
  (67, (2, ((0 : Nat) : Int), 0, 68, [])),
  (68, (35, ((3 : Nat) : Int), ((2 : Nat) : Int), 71, [])),
  (71, (1, ((3 : Nat) : Int), 0, 72, [])),
  (72, (38, 0, 0, 73, [])),
  (73, (51, ((14 : Nat) : Int), ((4 : Nat) : Int), 76, [3])),
  (76, (2, ((0 : Nat) : Int), 0, 77, [])),
  (77, (2, ((0 : Nat) : Int), 0, 78, [])),
  (78, (35, ((3 : Nat) : Int), ((1 : Nat) : Int), 81, [])),
  (81, (1, ((3 : Nat) : Int), 0, 82, [])),
  (82, (38, 0, 0, 83, [])),
  (83, (2, ((0 : Nat) : Int), 0, 84, [])),
  (84, (35, ((3 : Nat) : Int), ((0 : Nat) : Int), 87, [])),
  (87, (1, ((3 : Nat) : Int), 0, 88, [])),
  (88, (38, 0, 0, 89, [])),
  (89, (2, ((0 : Nat) : Int), 0, 90, [])),
  (90, (35, ((3 : Nat) : Int), ((2 : Nat) : Int), 93, [])),
  (93, (1, ((3 : Nat) : Int), 0, 94, [])),
  (94, (38, 0, 0, 95, [])),
  (95, (51, ((14 : Nat) : Int), ((4 : Nat) : Int), 98, [3])),
  (98, (7, ((3 : Nat) : Int), 1, 101, [])),
  (101, (33, ((39 : Nat) : Int), 0, 0, [])),
  (104, (7, ((2 : Nat) : Int), 1, 107, [])),
  (107, (33, ((31 : Nat) : Int), 0, 0, [])),
  (110, (48, 4, 0, 0, []))]
theorem tk_X3_measureTo_0 : tOk mi_X3_measureTo ((tl_X3_measureTo.drop 0).take 45) = true := by decide +kernel
theorem tk_X3_measureTo_1 : tOk mi_X3_measureTo ((tl_X3_measureTo.drop 45).take 45) = true := by decide +kernel
theorem tk_X3_measureTo : tOk mi_X3_measureTo tl_X3_measureTo = true := by
  refine tOk_cut 45 (by decide) (fun q hq => ?_)
  have hl : tl_X3_measureTo.length = 65 := by decide +kernel
  rw [hl] at hq
  rcases (show q = 0 ∨ q = 1 by omega) with rfl | rfl
  · exact tk_X3_measureTo_0
  · exact tk_X3_measureTo_1
def pm_X3_measureTo (pc : Nat) : Option PT := if [2, 31, 39].contains pc then none else tl_X3_measureTo.lookup pc
theorem pk_X3_measureTo : ∀ pc pt, pm_X3_measureTo pc = some pt → okPt mi_X3_measureTo pc pt := fun pc pt h => tOk_pm tk_X3_measureTo h
section
variable {E : ET} {g : GT} {d : Nat} {lm : Nat × Nat} {RT : RTy} {F : FT} {n : Nat} {L : LV} {st : List AV} {h : AH}
theorem r_X3_measureTo_0 : run E g mi_X3_measureTo d lm RT F pm_X3_measureTo (n + 1) 0 L st h = exI E d lm RT F (run E g mi_X3_measureTo d lm RT F pm_X3_measureTo n) (0, 0, 0, 1, []) L st h := run_s rfl
theorem r_X3_measureTo_1 : run E g mi_X3_measureTo d lm RT F pm_X3_measureTo (n + 1) 1 L st h = exI E d lm RT F (run E g mi_X3_measureTo d lm RT F pm_X3_measureTo n) (4, ((2 : Nat) : Int), 0, 2, []) L st h := run_s rfl
theorem r_X3_measureTo_2 : run E g mi_X3_measureTo d lm RT F pm_X3_measureTo (n + 1) 2 L st h = G E g mi_X3_measureTo d lm RT 2 L st h := run_c rfl
theorem q_X3_measureTo_2 (n : Nat) (hF : FOk E d F) (hx : exI E d lm RT F (run E g mi_X3_measureTo d lm RT F pm_X3_measureTo n) (1, ((2 : Nat) : Int), 0, 3, []) L st h) : G E g mi_X3_measureTo d lm RT 2 L st h := sstep hF (tOk_spec tk_X3_measureTo (by decide +kernel)) (run_sound hF pk_X3_measureTo n) hx
theorem r_X3_measureTo_3 : run E g mi_X3_measureTo d lm RT F pm_X3_measureTo (n + 1) 3 L st h = exI E d lm RT F (run E g mi_X3_measureTo d lm RT F pm_X3_measureTo n) (0, 8, 0, 5, []) L st h := run_s rfl
theorem r_X3_measureTo_5 : run E g mi_X3_measureTo d lm RT F pm_X3_measureTo (n + 1) 5 L st h = exI E d lm RT F (run E g mi_X3_measureTo d lm RT F pm_X3_measureTo n) (32, 3, ((22 : Nat) : Int), 8, []) L st h := run_s rfl
theorem r_X3_measureTo_8 : run E g mi_X3_measureTo d lm RT F pm_X3_measureTo (n + 1) 8 L st h = exI E d lm RT F (run E g mi_X3_measureTo d lm RT F pm_X3_measureTo n) (2, ((0 : Nat) : Int), 0, 9, []) L st h := run_s rfl
theorem r_X3_measureTo_9 : run E g mi_X3_measureTo d lm RT F pm_X3_measureTo (n + 1) 9 L st h = exI E d lm RT F (run E g mi_X3_measureTo d lm RT F pm_X3_measureTo n) (35, ((3 : Nat) : Int), ((4 : Nat) : Int), 12, []) L st h := run_s rfl
theorem r_X3_measureTo_12 : run E g mi_X3_measureTo d lm RT F pm_X3_measureTo (n + 1) 12 L st h = exI E d lm RT F (run E g mi_X3_measureTo d lm RT F pm_X3_measureTo n) (1, ((2 : Nat) : Int), 0, 13, []) L st h := run_s rfl
theorem r_X3_measureTo_13 : run E g mi_X3_measureTo d lm RT F pm_X3_measureTo (n + 1) 13 L st h = exI E d lm RT F (run E g mi_X3_measureTo d lm RT F pm_X3_measureTo n) (0, (-9), 0, 15, []) L st h := run_s rfl
theorem r_X3_measureTo_15 : run E g mi_X3_measureTo d lm RT F pm_X3_measureTo (n + 1) 15 L st h = exI E d lm RT F (run E g mi_X3_measureTo d lm RT F pm_X3_measureTo n) (39, 0, 0, 16, []) L st h := run_s rfl
theorem r_X3_measureTo_16 : run E g mi_X3_measureTo d lm RT F pm_X3_measureTo (n + 1) 16 L st h = exI E d lm RT F (run E g mi_X3_measureTo d lm RT F pm_X3_measureTo n) (7, ((2 : Nat) : Int), 1, 19, []) L st h := run_s rfl
theorem r_X3_measureTo_19 : run E g mi_X3_measureTo d lm RT F pm_X3_measureTo (n + 1) 19 L st h = exI E d lm RT F (run E g mi_X3_measureTo d lm RT F pm_X3_measureTo n) (33, ((2 : Nat) : Int), 0, 0, []) L st h := run_s rfl
theorem r_X3_measureTo_22 : run E g mi_X3_measureTo d lm RT F pm_X3_measureTo (n + 1) 22 L st h = exI E d lm RT F (run E g mi_X3_measureTo d lm RT F pm_X3_measureTo n) (2, ((0 : Nat) : Int), 0, 23, []) L st h := run_s rfl
theorem r_X3_measureTo_23 : run E g mi_X3_measureTo d lm RT F pm_X3_measureTo (n + 1) 23 L st h = exI E d lm RT F (run E g mi_X3_measureTo d lm RT F pm_X3_measureTo n) (35, ((3 : Nat) : Int), ((4 : Nat) : Int), 26, []) L st h := run_s rfl
theorem r_X3_measureTo_26 : run E g mi_X3_measureTo d lm RT F pm_X3_measureTo (n + 1) 26 L st h = exI E d lm RT F (run E g mi_X3_measureTo d lm RT F pm_X3_measureTo n) (1, ((1 : Nat) : Int), 0, 27, []) L st h := run_s rfl
theorem r_X3_measureTo_27 : run E g mi_X3_measureTo d lm RT F pm_X3_measureTo (n + 1) 27 L st h = exI E d lm RT F (run E g mi_X3_measureTo d lm RT F pm_X3_measureTo n) (0, 0, 0, 28, []) L st h := run_s rfl
theorem r_X3_measureTo_28 : run E g mi_X3_measureTo d lm RT F pm_X3_measureTo (n + 1) 28 L st h = exI E d lm RT F (run E g mi_X3_measureTo d lm RT F pm_X3_measureTo n) (39, 0, 0, 29, []) L st h := run_s rfl
theorem r_X3_measureTo_29 : run E g mi_X3_measureTo d lm RT F pm_X3_measureTo (n + 1) 29 L st h = exI E d lm RT F (run E g mi_X3_measureTo d lm RT F pm_X3_measureTo n) (0, 1, 0, 30, []) L st h := run_s rfl
theorem r_X3_measureTo_30 : run E g mi_X3_measureTo d lm RT F pm_X3_measureTo (n + 1) 30 L st h = exI E d lm RT F (run E g mi_X3_measureTo d lm RT F pm_X3_measureTo n) (4, ((2 : Nat) : Int), 0, 31, []) L st h := run_s rfl
theorem r_X3_measureTo_31 : run E g mi_X3_measureTo d lm RT F pm_X3_measureTo (n + 1) 31 L st h = G E g mi_X3_measureTo d lm RT 31 L st h := run_c rfl
theorem q_X3_measureTo_31 (n : Nat) (hF : FOk E d F) (hx : exI E d lm RT F (run E g mi_X3_measureTo d lm RT F pm_X3_measureTo n) (1, ((2 : Nat) : Int), 0, 32, []) L st h) : G E g mi_X3_measureTo d lm RT 31 L st h := sstep hF (tOk_spec tk_X3_measureTo (by decide +kernel)) (run_sound hF pk_X3_measureTo n) hx
theorem r_X3_measureTo_32 : run E g mi_X3_measureTo d lm RT F pm_X3_measureTo (n + 1) 32 L st h = exI E d lm RT F (run E g mi_X3_measureTo d lm RT F pm_X3_measureTo n) (0, 8, 0, 34, []) L st h := run_s rfl
theorem r_X3_measureTo_34 : run E g mi_X3_measureTo d lm RT F pm_X3_measureTo (n + 1) 34 L st h = exI E d lm RT F (run E g mi_X3_measureTo d lm RT F pm_X3_measureTo n) (32, 3, ((110 : Nat) : Int), 37, []) L st h := run_s rfl
theorem r_X3_measureTo_37 : run E g mi_X3_measureTo d lm RT F pm_X3_measureTo (n + 1) 37 L st h = exI E d lm RT F (run E g mi_X3_measureTo d lm RT F pm_X3_measureTo n) (0, 0, 0, 38, []) L st h := run_s rfl
theorem r_X3_measureTo_38 : run E g mi_X3_measureTo d lm RT F pm_X3_measureTo (n + 1) 38 L st h = exI E d lm RT F (run E g mi_X3_measureTo d lm RT F pm_X3_measureTo n) (4, ((3 : Nat) : Int), 0, 39, []) L st h := run_s rfl
theorem r_X3_measureTo_39 : run E g mi_X3_measureTo d lm RT F pm_X3_measureTo (n + 1) 39 L st h = G E g mi_X3_measureTo d lm RT 39 L st h := run_c rfl
theorem q_X3_measureTo_39 (n : Nat) (hF : FOk E d F) (hx : exI E d lm RT F (run E g mi_X3_measureTo d lm RT F pm_X3_measureTo n) (1, ((3 : Nat) : Int), 0, 40, []) L st h) : G E g mi_X3_measureTo d lm RT 39 L st h := sstep hF (tOk_spec tk_X3_measureTo (by decide +kernel)) (run_sound hF pk_X3_measureTo n) hx
theorem r_X3_measureTo_40 : run E g mi_X3_measureTo d lm RT F pm_X3_measureTo (n + 1) 40 L st h = exI E d lm RT F (run E g mi_X3_measureTo d lm RT F pm_X3_measureTo n) (0, 16, 0, 42, []) L st h := run_s rfl
theorem r_X3_measureTo_42 : run E g mi_X3_measureTo d lm RT F pm_X3_measureTo (n + 1) 42 L st h = exI E d lm RT F (run E g mi_X3_measureTo d lm RT F pm_X3_measureTo n) (32, 3, ((104 : Nat) : Int), 45, []) L st h := run_s rfl
theorem r_X3_measureTo_45 : run E g mi_X3_measureTo d lm RT F pm_X3_measureTo (n + 1) 45 L st h = exI E d lm RT F (run E g mi_X3_measureTo d lm RT F pm_X3_measureTo n) (2, ((0 : Nat) : Int), 0, 46, []) L st h := run_s rfl
theorem r_X3_measureTo_46 : run E g mi_X3_measureTo d lm RT F pm_X3_measureTo (n + 1) 46 L st h = exI E d lm RT F (run E g mi_X3_measureTo d lm RT F pm_X3_measureTo n) (35, ((3 : Nat) : Int), ((2 : Nat) : Int), 49, []) L st h := run_s rfl
theorem r_X3_measureTo_49 : run E g mi_X3_measureTo d lm RT F pm_X3_measureTo (n + 1) 49 L st h = exI E d lm RT F (run E g mi_X3_measureTo d lm RT F pm_X3_measureTo n) (1, ((3 : Nat) : Int), 0, 50, []) L st h := run_s rfl
theorem r_X3_measureTo_50 : run E g mi_X3_measureTo d lm RT F pm_X3_measureTo (n + 1) 50 L st h = exI E d lm RT F (run E g mi_X3_measureTo d lm RT F pm_X3_measureTo n) (38, 0, 0, 51, []) L st h := run_s rfl
theorem r_X3_measureTo_51 : run E g mi_X3_measureTo d lm RT F pm_X3_measureTo (n + 1) 51 L st h = exI E d lm RT F (run E g mi_X3_measureTo d lm RT F pm_X3_measureTo n) (31, 5, ((98 : Nat) : Int), 54, []) L st h := run_s rfl
theorem r_X3_measureTo_54 : run E g mi_X3_measureTo d lm RT F pm_X3_measureTo (n + 1) 54 L st h = exI E d lm RT F (run E g mi_X3_measureTo d lm RT F pm_X3_measureTo n) (2, ((0 : Nat) : Int), 0, 55, []) L st h := run_s rfl
theorem r_X3_measureTo_55 : run E g mi_X3_measureTo d lm RT F pm_X3_measureTo (n + 1) 55 L st h = exI E d lm RT F (run E g mi_X3_measureTo d lm RT F pm_X3_measureTo n) (2, ((0 : Nat) : Int), 0, 56, []) L st h := run_s rfl
theorem r_X3_measureTo_56 : run E g mi_X3_measureTo d lm RT F pm_X3_measureTo (n + 1) 56 L st h = exI E d lm RT F (run E g mi_X3_measureTo d lm RT F pm_X3_measureTo n) (35, ((3 : Nat) : Int), ((0 : Nat) : Int), 59, []) L st h := run_s rfl
theorem r_X3_measureTo_59 : run E g mi_X3_measureTo d lm RT F pm_X3_measureTo (n + 1) 59 L st h = exI E d lm RT F (run E g mi_X3_measureTo d lm RT F pm_X3_measureTo n) (1, ((3 : Nat) : Int), 0, 60, []) L st h := run_s rfl
theorem r_X3_measureTo_60 : run E g mi_X3_measureTo d lm RT F pm_X3_measureTo (n + 1) 60 L st h = exI E d lm RT F (run E g mi_X3_measureTo d lm RT F pm_X3_measureTo n) (38, 0, 0, 61, []) L st h := run_s rfl
theorem r_X3_measureTo_61 : run E g mi_X3_measureTo d lm RT F pm_X3_measureTo (n + 1) 61 L st h = exI E d lm RT F (run E g mi_X3_measureTo d lm RT F pm_X3_measureTo n) (2, ((0 : Nat) : Int), 0, 62, []) L st h := run_s rfl
theorem r_X3_measureTo_62 : run E g mi_X3_measureTo d lm RT F pm_X3_measureTo (n + 1) 62 L st h = exI E d lm RT F (run E g mi_X3_measureTo d lm RT F pm_X3_measureTo n) (35, ((3 : Nat) : Int), ((1 : Nat) : Int), 65, []) L st h := run_s rfl
theorem r_X3_measureTo_65 : run E g mi_X3_measureTo d lm RT F pm_X3_measureTo (n + 1) 65 L st h = exI E d lm RT F (run E g mi_X3_measureTo d lm RT F pm_X3_measureTo n) (1, ((3 : Nat) : Int), 0, 66, []) L st h := run_s rfl
theorem r_X3_measureTo_66 : run E g mi_X3_measureTo d lm RT F pm_X3_measureTo (n + 1) 66 L st h = exI E d lm RT F (run E g mi_X3_measureTo d lm RT F pm_X3_measureTo n) (38, 0, 0, 67, []) L st h := run_s rfl
theorem r_X3_measureTo_67 : run E g mi_X3_measureTo d lm RT F pm_X3_measureTo (n + 1) 67 L st h = exI E d lm RT F (run E g mi_X3_measureTo d lm RT F pm_X3_measureTo n) (2, ((0 : Nat) : Int), 0, 68, []) L st h := run_s rfl
theorem r_X3_measureTo_68 : run E g mi_X3_measureTo d lm RT F pm_X3_measureTo (n + 1) 68 L st h = exI E d lm RT F (run E g mi_X3_measureTo d lm RT F pm_X3_measureTo n) (35, ((3 : Nat) : Int), ((2 : Nat) : Int), 71, []) L st h := run_s rfl
theorem r_X3_measureTo_71 : run E g mi_X3_measureTo d lm RT F pm_X3_measureTo (n + 1) 71 L st h = exI E d lm RT F (run E g mi_X3_measureTo d lm RT F pm_X3_measureTo n) (1, ((3 : Nat) : Int), 0, 72, []) L st h := run_s rfl
theorem r_X3_measureTo_72 : run E g mi_X3_measureTo d lm RT F pm_X3_measureTo (n + 1) 72 L st h = exI E d lm RT F (run E g mi_X3_measureTo d lm RT F pm_X3_measureTo n) (38, 0, 0, 73, []) L st h := run_s rfl
theorem r_X3_measureTo_73 : run E g mi_X3_measureTo d lm RT F pm_X3_measureTo (n + 1) 73 L st h = exI E d lm RT F (run E g mi_X3_measureTo d lm RT F pm_X3_measureTo n) (51, ((14 : Nat) : Int), ((4 : Nat) : Int), 76, [3]) L st h := run_s rfl
theorem r_X3_measureTo_76 : run E g mi_X3_measureTo d lm RT F pm_X3_measureTo (n + 1) 76 L st h = exI E d lm RT F (run E g mi_X3_measureTo d lm RT F pm_X3_measureTo n) (2, ((0 : Nat) : Int), 0, 77, []) L st h := run_s rfl
theorem r_X3_measureTo_77 : run E g mi_X3_measureTo d lm RT F pm_X3_measureTo (n + 1) 77 L st h = exI E d lm RT F (run E g mi_X3_measureTo d lm RT F pm_X3_measureTo n) (2, ((0 : Nat) : Int), 0, 78, []) L st h := run_s rfl
theorem r_X3_measureTo_78 : run E g mi_X3_measureTo d lm RT F pm_X3_measureTo (n + 1) 78 L st h = exI E d lm RT F (run E g mi_X3_measureTo d lm RT F pm_X3_measureTo n) (35, ((3 : Nat) : Int), ((1 : Nat) : Int), 81, []) L st h := run_s rfl
theorem r_X3_measureTo_81 : run E g mi_X3_measureTo d lm RT F pm_X3_measureTo (n + 1) 81 L st h = exI E d lm RT F (run E g mi_X3_measureTo d lm RT F pm_X3_measureTo n) (1, ((3 : Nat) : Int), 0, 82, []) L st h := run_s rfl
theorem r_X3_measureTo_82 : run E g mi_X3_measureTo d lm RT F pm_X3_measureTo (n + 1) 82 L st h = exI E d lm RT F (run E g mi_X3_measureTo d lm RT F pm_X3_measureTo n) (38, 0, 0, 83, []) L st h := run_s rfl
theorem r_X3_measureTo_83 : run E g mi_X3_measureTo d lm RT F pm_X3_measureTo (n + 1) 83 L st h = exI E d lm RT F (run E g mi_X3_measureTo d lm RT F pm_X3_measureTo n) (2, ((0 : Nat) : Int), 0, 84, []) L st h := run_s rfl
theorem r_X3_measureTo_84 : run E g mi_X3_measureTo d lm RT F pm_X3_measureTo (n + 1) 84 L st h = exI E d lm RT F (run E g mi_X3_measureTo d lm RT F pm_X3_measureTo n) (35, ((3 : Nat) : Int), ((0 : Nat) : Int), 87, []) L st h := run_s rfl
theorem r_X3_measureTo_87 : run E g mi_X3_measureTo d lm RT F pm_X3_measureTo (n + 1) 87 L st h = exI E d lm RT F (run E g mi_X3_measureTo d lm RT F pm_X3_measureTo n) (1, ((3 : Nat) : Int), 0, 88, []) L st h := run_s rfl
theorem r_X3_measureTo_88 : run E g mi_X3_measureTo d lm RT F pm_X3_measureTo (n + 1) 88 L st h = exI E d lm RT F (run E g mi_X3_measureTo d lm RT F pm_X3_measureTo n) (38, 0, 0, 89, []) L st h := run_s rfl
theorem r_X3_measureTo_89 : run E g mi_X3_measureTo d lm RT F pm_X3_measureTo (n + 1) 89 L st h = exI E d lm RT F (run E g mi_X3_measureTo d lm RT F pm_X3_measureTo n) (2, ((0 : Nat) : Int), 0, 90, []) L st h := run_s rfl
theorem r_X3_measureTo_90 : run E g mi_X3_measureTo d lm RT F pm_X3_measureTo (n + 1) 90 L st h = exI E d lm RT F (run E g mi_X3_measureTo d lm RT F pm_X3_measureTo n) (35, ((3 : Nat) : Int), ((2 : Nat) : Int), 93, []) L st h := run_s rfl
theorem r_X3_measureTo_93 : run E g mi_X3_measureTo d lm RT F pm_X3_measureTo (n + 1) 93 L st h = exI E d lm RT F (run E g mi_X3_measureTo d lm RT F pm_X3_measureTo n) (1, ((3 : Nat) : Int), 0, 94, []) L st h := run_s rfl
theorem r_X3_measureTo_94 : run E g mi_X3_measureTo d lm RT F pm_X3_measureTo (n + 1) 94 L st h = exI E d lm RT F (run E g mi_X3_measureTo d lm RT F pm_X3_measureTo n) (38, 0, 0, 95, []) L st h := run_s rfl
theorem r_X3_measureTo_95 : run E g mi_X3_measureTo d lm RT F pm_X3_measureTo (n + 1) 95 L st h = exI E d lm RT F (run E g mi_X3_measureTo d lm RT F pm_X3_measureTo n) (51, ((14 : Nat) : Int), ((4 : Nat) : Int), 98, [3]) L st h := run_s rfl
theorem r_X3_measureTo_98 : run E g mi_X3_measureTo d lm RT F pm_X3_measureTo (n + 1) 98 L st h = exI E d lm RT F (run E g mi_X3_measureTo d lm RT F pm_X3_measureTo n) (7, ((3 : Nat) : Int), 1, 101, []) L st h := run_s rfl
theorem r_X3_measureTo_101 : run E g mi_X3_measureTo d lm RT F pm_X3_measureTo (n + 1) 101 L st h = exI E d lm RT F (run E g mi_X3_measureTo d lm RT F pm_X3_measureTo n) (33, ((39 : Nat) : Int), 0, 0, []) L st h := run_s rfl
theorem r_X3_measureTo_104 : run E g mi_X3_measureTo d lm RT F pm_X3_measureTo (n + 1) 104 L st h = exI E d lm RT F (run E g mi_X3_measureTo d lm RT F pm_X3_measureTo n) (7, ((2 : Nat) : Int), 1, 107, []) L st h := run_s rfl
theorem r_X3_measureTo_107 : run E g mi_X3_measureTo d lm RT F pm_X3_measureTo (n + 1) 107 L st h = exI E d lm RT F (run E g mi_X3_measureTo d lm RT F pm_X3_measureTo n) (33, ((31 : Nat) : Int), 0, 0, []) L st h := run_s rfl
theorem r_X3_measureTo_110 : run E g mi_X3_measureTo d lm RT F pm_X3_measureTo (n + 1) 110 L st h = exI E d lm RT F (run E g mi_X3_measureTo d lm RT F pm_X3_measureTo n) (48, 4, 0, 0, []) L st h := run_s rfl
theorem e_X3_measureTo (n : Nat) {pc : Nat} (hF : FOk E d F) (hx : run E g mi_X3_measureTo d lm RT F pm_X3_measureTo n pc L st h) : G E g mi_X3_measureTo d lm RT pc L st h := run_sound hF pk_X3_measureTo n pc L st h hx
end
def mi_X3_reach : MI := (3, cX3_reach, 5, 4, false)
theorem mo_X3_reach : miOk mi_X3_reach (mt 14) = true := by decide +kernel
def tl_X3_reach : List (Nat × PT) := [(0, (2, ((0 : Nat) : Int), 0, 1, [])),
  (1, (35, ((3 : Nat) : Int), ((4 : Nat) : Int), 4, [])),
  (4, (1, ((2 : Nat) : Int), 0, 5, [])),
  (5, (38, 0, 0, 6, [])),
  (6, (0, (-9), 0, 8, [])),
  (8, (32, 1, ((12 : Nat) : Int), 11, [])),
  (11, (48, 4, 0, 0, [])),
  (12, (2, ((0 : Nat) : Int), 0, 13, [])),
  (13, (35, ((3 : Nat) : Int), ((4 : Nat) : Int), 16, [])),
  (16, (1, ((2 : Nat) : Int), 0, 17, [])),
  (17, (38, 0, 0, 18, [])),
  (18, (1, ((3 : Nat) : Int), 0, 19, [])),
  (19, (8, 0, 0, 20, [])),
  (20, (4, ((4 : Nat) : Int), 0, 22, [])),
  (22, (2, ((0 : Nat) : Int), 0, 23, [])),
  (23, (35, ((3 : Nat) : Int), ((4 : Nat) : Int), 26, [])),
  (26, (1, ((1 : Nat) : Int), 0, 27, [])),
  (27, (38, 0, 0, 28, [])),
  (28, (0, (-9), 0, 30, [])),
  (30, (32, 0, ((44 : Nat) : Int), 33, [])),
  (33, (1, ((4 : Nat) : Int), 0, 35, [])),
  (35, (2, ((0 : Nat) : Int), 0, 36, [])),
  (36, (35, ((3 : Nat) : Int), ((4 : Nat) : Int), 39, [])),
  (39, (1, ((1 : Nat) : Int), 0, 40, [])),
  (40, (38, 0, 0, 41, [])),
  (41, (32, 3, ((52 : Nat) : Int), 44, [])),
  (44, (2, ((0 : Nat) : Int), 0, 45, [])),
  (45, (35, ((3 : Nat) : Int), ((4 : Nat) : Int), 48, [])),
  (48, (1, ((1 : Nat) : Int), 0, 49, [])),
  (49, (1, ((4 : Nat) : Int), 0, 51, [])),
  (51, (39, 0, 0, 52, [])),
  (52, (48, 4, 0, 0, []))]
theorem tk_X3_reach : tOk mi_X3_reach tl_X3_reach = true := by decide +kernel
def pm_X3_reach (pc : Nat) : Option PT := if [].contains pc then none else tl_X3_reach.lookup pc
theorem pk_X3_reach : ∀ pc pt, pm_X3_reach pc = some pt → okPt mi_X3_reach pc pt := fun pc pt h => tOk_pm tk_X3_reach h
section
variable {E : ET} {g : GT} {d : Nat} {lm : Nat × Nat} {RT : RTy} {F : FT} {n : Nat} {L : LV} {st : List AV} {h : AH}
theorem r_X3_reach_0 : run E g mi_X3_reach d lm RT F pm_X3_reach (n + 1) 0 L st h = exI E d lm RT F (run E g mi_X3_reach d lm RT F pm_X3_reach n) (2, ((0 : Nat) : Int), 0, 1, []) L st h := run_s rfl
theorem r_X3_reach_1 : run E g mi_X3_reach d lm RT F pm_X3_reach (n + 1) 1 L st h = exI E d lm RT F (run E g mi_X3_reach d lm RT F pm_X3_reach n) (35, ((3 : Nat) : Int), ((4 : Nat) : Int), 4, []) L st h := run_s rfl
theorem r_X3_reach_4 : run E g mi_X3_reach d lm RT F pm_X3_reach (n + 1) 4 L st h = exI E d lm RT F (run E g mi_X3_reach d lm RT F pm_X3_reach n) (1, ((2 : Nat) : Int), 0, 5, []) L st h := run_s rfl
theorem r_X3_reach_5 : run E g mi_X3_reach d lm RT F pm_X3_reach (n + 1) 5 L st h = exI E d lm RT F (run E g mi_X3_reach d lm RT F pm_X3_reach n) (38, 0, 0, 6, []) L st h := run_s rfl
theorem r_X3_reach_6 : run E g mi_X3_reach d lm RT F pm_X3_reach (n + 1) 6 L st h = exI E d lm RT F (run E g mi_X3_reach d lm RT F pm_X3_reach n) (0, (-9), 0, 8, []) L st h := run_s rfl
theorem r_X3_reach_8 : run E g mi_X3_reach d lm RT F pm_X3_reach (n + 1) 8 L st h = exI E d lm RT F (run E g mi_X3_reach d lm RT F pm_X3_reach n) (32, 1, ((12 : Nat) : Int), 11, []) L st h := run_s rfl
theorem r_X3_reach_11 : run E g mi_X3_reach d lm RT F pm_X3_reach (n + 1) 11 L st h = exI E d lm RT F (run E g mi_X3_reach d lm RT F pm_X3_reach n) (48, 4, 0, 0, []) L st h := run_s rfl
theorem r_X3_reach_12 : run E g mi_X3_reach d lm RT F pm_X3_reach (n + 1) 12 L st h = exI E d lm RT F (run E g mi_X3_reach d lm RT F pm_X3_reach n) (2, ((0 : Nat) : Int), 0, 13, []) L st h := run_s rfl
theorem r_X3_reach_13 : run E g mi_X3_reach d lm RT F pm_X3_reach (n + 1) 13 L st h = exI E d lm RT F (run E g mi_X3_reach d lm RT F pm_X3_reach n) (35, ((3 : Nat) : Int), ((4 : Nat) : Int), 16, []) L st h := run_s rfl
theorem r_X3_reach_16 : run E g mi_X3_reach d lm RT F pm_X3_reach (n + 1) 16 L st h = exI E d lm RT F (run E g mi_X3_reach d lm RT F pm_X3_reach n) (1, ((2 : Nat) : Int), 0, 17, []) L st h := run_s rfl
theorem r_X3_reach_17 : run E g mi_X3_reach d lm RT F pm_X3_reach (n + 1) 17 L st h = exI E d lm RT F (run E g mi_X3_reach d lm RT F pm_X3_reach n) (38, 0, 0, 18, []) L st h := run_s rfl
theorem r_X3_reach_18 : run E g mi_X3_reach d lm RT F pm_X3_reach (n + 1) 18 L st h = exI E d lm RT F (run E g mi_X3_reach d lm RT F pm_X3_reach n) (1, ((3 : Nat) : Int), 0, 19, []) L st h := run_s rfl
theorem r_X3_reach_19 : run E g mi_X3_reach d lm RT F pm_X3_reach (n + 1) 19 L st h = exI E d lm RT F (run E g mi_X3_reach d lm RT F pm_X3_reach n) (8, 0, 0, 20, []) L st h := run_s rfl
theorem r_X3_reach_20 : run E g mi_X3_reach d lm RT F pm_X3_reach (n + 1) 20 L st h = exI E d lm RT F (run E g mi_X3_reach d lm RT F pm_X3_reach n) (4, ((4 : Nat) : Int), 0, 22, []) L st h := run_s rfl
theorem r_X3_reach_22 : run E g mi_X3_reach d lm RT F pm_X3_reach (n + 1) 22 L st h = exI E d lm RT F (run E g mi_X3_reach d lm RT F pm_X3_reach n) (2, ((0 : Nat) : Int), 0, 23, []) L st h := run_s rfl
theorem r_X3_reach_23 : run E g mi_X3_reach d lm RT F pm_X3_reach (n + 1) 23 L st h = exI E d lm RT F (run E g mi_X3_reach d lm RT F pm_X3_reach n) (35, ((3 : Nat) : Int), ((4 : Nat) : Int), 26, []) L st h := run_s rfl
theorem r_X3_reach_26 : run E g mi_X3_reach d lm RT F pm_X3_reach (n + 1) 26 L st h = exI E d lm RT F (run E g mi_X3_reach d lm RT F pm_X3_reach n) (1, ((1 : Nat) : Int), 0, 27, []) L st h := run_s rfl
theorem r_X3_reach_27 : run E g mi_X3_reach d lm RT F pm_X3_reach (n + 1) 27 L st h = exI E d lm RT F (run E g mi_X3_reach d lm RT F pm_X3_reach n) (38, 0, 0, 28, []) L st h := run_s rfl
theorem r_X3_reach_28 : run E g mi_X3_reach d lm RT F pm_X3_reach (n + 1) 28 L st h = exI E d lm RT F (run E g mi_X3_reach d lm RT F pm_X3_reach n) (0, (-9), 0, 30, []) L st h := run_s rfl
theorem r_X3_reach_30 : run E g mi_X3_reach d lm RT F pm_X3_reach (n + 1) 30 L st h = exI E d lm RT F (run E g mi_X3_reach d lm RT F pm_X3_reach n) (32, 0, ((44 : Nat) : Int), 33, []) L st h := run_s rfl
theorem r_X3_reach_33 : run E g mi_X3_reach d lm RT F pm_X3_reach (n + 1) 33 L st h = exI E d lm RT F (run E g mi_X3_reach d lm RT F pm_X3_reach n) (1, ((4 : Nat) : Int), 0, 35, []) L st h := run_s rfl
theorem r_X3_reach_35 : run E g mi_X3_reach d lm RT F pm_X3_reach (n + 1) 35 L st h = exI E d lm RT F (run E g mi_X3_reach d lm RT F pm_X3_reach n) (2, ((0 : Nat) : Int), 0, 36, []) L st h := run_s rfl
theorem r_X3_reach_36 : run E g mi_X3_reach d lm RT F pm_X3_reach (n + 1) 36 L st h = exI E d lm RT F (run E g mi_X3_reach d lm RT F pm_X3_reach n) (35, ((3 : Nat) : Int), ((4 : Nat) : Int), 39, []) L st h := run_s rfl
theorem r_X3_reach_39 : run E g mi_X3_reach d lm RT F pm_X3_reach (n + 1) 39 L st h = exI E d lm RT F (run E g mi_X3_reach d lm RT F pm_X3_reach n) (1, ((1 : Nat) : Int), 0, 40, []) L st h := run_s rfl
theorem r_X3_reach_40 : run E g mi_X3_reach d lm RT F pm_X3_reach (n + 1) 40 L st h = exI E d lm RT F (run E g mi_X3_reach d lm RT F pm_X3_reach n) (38, 0, 0, 41, []) L st h := run_s rfl
theorem r_X3_reach_41 : run E g mi_X3_reach d lm RT F pm_X3_reach (n + 1) 41 L st h = exI E d lm RT F (run E g mi_X3_reach d lm RT F pm_X3_reach n) (32, 3, ((52 : Nat) : Int), 44, []) L st h := run_s rfl
theorem r_X3_reach_44 : run E g mi_X3_reach d lm RT F pm_X3_reach (n + 1) 44 L st h = exI E d lm RT F (run E g mi_X3_reach d lm RT F pm_X3_reach n) (2, ((0 : Nat) : Int), 0, 45, []) L st h := run_s rfl
theorem r_X3_reach_45 : run E g mi_X3_reach d lm RT F pm_X3_reach (n + 1) 45 L st h = exI E d lm RT F (run E g mi_X3_reach d lm RT F pm_X3_reach n) (35, ((3 : Nat) : Int), ((4 : Nat) : Int), 48, []) L st h := run_s rfl
theorem r_X3_reach_48 : run E g mi_X3_reach d lm RT F pm_X3_reach (n + 1) 48 L st h = exI E d lm RT F (run E g mi_X3_reach d lm RT F pm_X3_reach n) (1, ((1 : Nat) : Int), 0, 49, []) L st h := run_s rfl
theorem r_X3_reach_49 : run E g mi_X3_reach d lm RT F pm_X3_reach (n + 1) 49 L st h = exI E d lm RT F (run E g mi_X3_reach d lm RT F pm_X3_reach n) (1, ((4 : Nat) : Int), 0, 51, []) L st h := run_s rfl
theorem r_X3_reach_51 : run E g mi_X3_reach d lm RT F pm_X3_reach (n + 1) 51 L st h = exI E d lm RT F (run E g mi_X3_reach d lm RT F pm_X3_reach n) (39, 0, 0, 52, []) L st h := run_s rfl
theorem r_X3_reach_52 : run E g mi_X3_reach d lm RT F pm_X3_reach (n + 1) 52 L st h = exI E d lm RT F (run E g mi_X3_reach d lm RT F pm_X3_reach n) (48, 4, 0, 0, []) L st h := run_s rfl
theorem e_X3_reach (n : Nat) {pc : Nat} (hF : FOk E d F) (hx : run E g mi_X3_reach d lm RT F pm_X3_reach n pc L st h) : G E g mi_X3_reach d lm RT pc L st h := run_sound hF pk_X3_reach n pc L st h hx
end
def mi_X3_isOnShortest : MI := (3, cX3_isOnShortest, 3, 1, false)
theorem mo_X3_isOnShortest : miOk mi_X3_isOnShortest (mt 15) = true := by decide +kernel
def tl_X3_isOnShortest : List (Nat × PT) := [(0, (1, ((2 : Nat) : Int), 0, 1, [])),
  (1, (0, (-9), 0, 3, [])),
  (3, (32, 0, ((28 : Nat) : Int), 6, [])),
  (6, (2, ((0 : Nat) : Int), 0, 7, [])),
  (7, (35, ((3 : Nat) : Int), ((4 : Nat) : Int), 10, [])),
  (10, (1, ((1 : Nat) : Int), 0, 11, [])),
  (11, (38, 0, 0, 12, [])),
  (12, (0, (-9), 0, 14, [])),
  (14, (32, 0, ((28 : Nat) : Int), 17, [])),
  (17, (2, ((0 : Nat) : Int), 0, 18, [])),
  (18, (35, ((3 : Nat) : Int), ((4 : Nat) : Int), 21, [])),
  (21, (1, ((2 : Nat) : Int), 0, 22, [])),
  (22, (38, 0, 0, 23, [])),
  (23, (0, (-9), 0, 25, [])),
  (25, (32, 1, ((30 : Nat) : Int), 28, [])),
  (28, (0, 0, 0, 29, [])),
  (29, (48, 1, 0, 0, [])),
  (30, (2, ((0 : Nat) : Int), 0, 31, [])),
  (31, (35, ((3 : Nat) : Int), ((4 : Nat) : Int), 34, [])),
  (34, (1, ((2 : Nat) : Int), 0, 35, [])),
  (35, (38, 0, 0, 36, [])),
  (36, (2, ((0 : Nat) : Int), 0, 37, [])),
  (37, (1, ((1 : Nat) : Int), 0, 38, [])),
  (38, (1, ((2 : Nat) : Int), 0, 39, [])),
  (39, (51, ((10 : Nat) : Int), ((3 : Nat) : Int), 42, [3])),
  (42, (8, 0, 0, 43, [])),
  (43, (2, ((0 : Nat) : Int), 0, 44, [])),
  (44, (35, ((3 : Nat) : Int), ((4 : Nat) : Int), 47, [])),
  (47, (1, ((1 : Nat) : Int), 0, 48, [])),
  (48, (38, 0, 0, 49, [])),
  (49, (32, 1, ((56 : Nat) : Int), 52, [])),
  (52, (0, 1, 0, 53, [])),
  (53, (33, ((57 : Nat) : Int), 0, 0, [])),
  (56, (0, 0, 0, 57, [])),
  (57, (48, 1, 0, 0, []))]
theorem tk_X3_isOnShortest : tOk mi_X3_isOnShortest tl_X3_isOnShortest = true := by decide +kernel
def pm_X3_isOnShortest (pc : Nat) : Option PT := if [].contains pc then none else tl_X3_isOnShortest.lookup pc
theorem pk_X3_isOnShortest : ∀ pc pt, pm_X3_isOnShortest pc = some pt → okPt mi_X3_isOnShortest pc pt := fun pc pt h => tOk_pm tk_X3_isOnShortest h
section
variable {E : ET} {g : GT} {d : Nat} {lm : Nat × Nat} {RT : RTy} {F : FT} {n : Nat} {L : LV} {st : List AV} {h : AH}
theorem r_X3_isOnShortest_0 : run E g mi_X3_isOnShortest d lm RT F pm_X3_isOnShortest (n + 1) 0 L st h = exI E d lm RT F (run E g mi_X3_isOnShortest d lm RT F pm_X3_isOnShortest n) (1, ((2 : Nat) : Int), 0, 1, []) L st h := run_s rfl
theorem r_X3_isOnShortest_1 : run E g mi_X3_isOnShortest d lm RT F pm_X3_isOnShortest (n + 1) 1 L st h = exI E d lm RT F (run E g mi_X3_isOnShortest d lm RT F pm_X3_isOnShortest n) (0, (-9), 0, 3, []) L st h := run_s rfl
theorem r_X3_isOnShortest_3 : run E g mi_X3_isOnShortest d lm RT F pm_X3_isOnShortest (n + 1) 3 L st h = exI E d lm RT F (run E g mi_X3_isOnShortest d lm RT F pm_X3_isOnShortest n) (32, 0, ((28 : Nat) : Int), 6, []) L st h := run_s rfl
theorem r_X3_isOnShortest_6 : run E g mi_X3_isOnShortest d lm RT F pm_X3_isOnShortest (n + 1) 6 L st h = exI E d lm RT F (run E g mi_X3_isOnShortest d lm RT F pm_X3_isOnShortest n) (2, ((0 : Nat) : Int), 0, 7, []) L st h := run_s rfl
theorem r_X3_isOnShortest_7 : run E g mi_X3_isOnShortest d lm RT F pm_X3_isOnShortest (n + 1) 7 L st h = exI E d lm RT F (run E g mi_X3_isOnShortest d lm RT F pm_X3_isOnShortest n) (35, ((3 : Nat) : Int), ((4 : Nat) : Int), 10, []) L st h := run_s rfl
theorem r_X3_isOnShortest_10 : run E g mi_X3_isOnShortest d lm RT F pm_X3_isOnShortest (n + 1) 10 L st h = exI E d lm RT F (run E g mi_X3_isOnShortest d lm RT F pm_X3_isOnShortest n) (1, ((1 : Nat) : Int), 0, 11, []) L st h := run_s rfl
theorem r_X3_isOnShortest_11 : run E g mi_X3_isOnShortest d lm RT F pm_X3_isOnShortest (n + 1) 11 L st h = exI E d lm RT F (run E g mi_X3_isOnShortest d lm RT F pm_X3_isOnShortest n) (38, 0, 0, 12, []) L st h := run_s rfl
theorem r_X3_isOnShortest_12 : run E g mi_X3_isOnShortest d lm RT F pm_X3_isOnShortest (n + 1) 12 L st h = exI E d lm RT F (run E g mi_X3_isOnShortest d lm RT F pm_X3_isOnShortest n) (0, (-9), 0, 14, []) L st h := run_s rfl
theorem r_X3_isOnShortest_14 : run E g mi_X3_isOnShortest d lm RT F pm_X3_isOnShortest (n + 1) 14 L st h = exI E d lm RT F (run E g mi_X3_isOnShortest d lm RT F pm_X3_isOnShortest n) (32, 0, ((28 : Nat) : Int), 17, []) L st h := run_s rfl
theorem r_X3_isOnShortest_17 : run E g mi_X3_isOnShortest d lm RT F pm_X3_isOnShortest (n + 1) 17 L st h = exI E d lm RT F (run E g mi_X3_isOnShortest d lm RT F pm_X3_isOnShortest n) (2, ((0 : Nat) : Int), 0, 18, []) L st h := run_s rfl
theorem r_X3_isOnShortest_18 : run E g mi_X3_isOnShortest d lm RT F pm_X3_isOnShortest (n + 1) 18 L st h = exI E d lm RT F (run E g mi_X3_isOnShortest d lm RT F pm_X3_isOnShortest n) (35, ((3 : Nat) : Int), ((4 : Nat) : Int), 21, []) L st h := run_s rfl
theorem r_X3_isOnShortest_21 : run E g mi_X3_isOnShortest d lm RT F pm_X3_isOnShortest (n + 1) 21 L st h = exI E d lm RT F (run E g mi_X3_isOnShortest d lm RT F pm_X3_isOnShortest n) (1, ((2 : Nat) : Int), 0, 22, []) L st h := run_s rfl
theorem r_X3_isOnShortest_22 : run E g mi_X3_isOnShortest d lm RT F pm_X3_isOnShortest (n + 1) 22 L st h = exI E d lm RT F (run E g mi_X3_isOnShortest d lm RT F pm_X3_isOnShortest n) (38, 0, 0, 23, []) L st h := run_s rfl
theorem r_X3_isOnShortest_23 : run E g mi_X3_isOnShortest d lm RT F pm_X3_isOnShortest (n + 1) 23 L st h = exI E d lm RT F (run E g mi_X3_isOnShortest d lm RT F pm_X3_isOnShortest n) (0, (-9), 0, 25, []) L st h := run_s rfl
theorem r_X3_isOnShortest_25 : run E g mi_X3_isOnShortest d lm RT F pm_X3_isOnShortest (n + 1) 25 L st h = exI E d lm RT F (run E g mi_X3_isOnShortest d lm RT F pm_X3_isOnShortest n) (32, 1, ((30 : Nat) : Int), 28, []) L st h := run_s rfl
theorem r_X3_isOnShortest_28 : run E g mi_X3_isOnShortest d lm RT F pm_X3_isOnShortest (n + 1) 28 L st h = exI E d lm RT F (run E g mi_X3_isOnShortest d lm RT F pm_X3_isOnShortest n) (0, 0, 0, 29, []) L st h := run_s rfl
theorem r_X3_isOnShortest_29 : run E g mi_X3_isOnShortest d lm RT F pm_X3_isOnShortest (n + 1) 29 L st h = exI E d lm RT F (run E g mi_X3_isOnShortest d lm RT F pm_X3_isOnShortest n) (48, 1, 0, 0, []) L st h := run_s rfl
theorem r_X3_isOnShortest_30 : run E g mi_X3_isOnShortest d lm RT F pm_X3_isOnShortest (n + 1) 30 L st h = exI E d lm RT F (run E g mi_X3_isOnShortest d lm RT F pm_X3_isOnShortest n) (2, ((0 : Nat) : Int), 0, 31, []) L st h := run_s rfl
theorem r_X3_isOnShortest_31 : run E g mi_X3_isOnShortest d lm RT F pm_X3_isOnShortest (n + 1) 31 L st h = exI E d lm RT F (run E g mi_X3_isOnShortest d lm RT F pm_X3_isOnShortest n) (35, ((3 : Nat) : Int), ((4 : Nat) : Int), 34, []) L st h := run_s rfl
theorem r_X3_isOnShortest_34 : run E g mi_X3_isOnShortest d lm RT F pm_X3_isOnShortest (n + 1) 34 L st h = exI E d lm RT F (run E g mi_X3_isOnShortest d lm RT F pm_X3_isOnShortest n) (1, ((2 : Nat) : Int), 0, 35, []) L st h := run_s rfl
theorem r_X3_isOnShortest_35 : run E g mi_X3_isOnShortest d lm RT F pm_X3_isOnShortest (n + 1) 35 L st h = exI E d lm RT F (run E g mi_X3_isOnShortest d lm RT F pm_X3_isOnShortest n) (38, 0, 0, 36, []) L st h := run_s rfl
theorem r_X3_isOnShortest_36 : run E g mi_X3_isOnShortest d lm RT F pm_X3_isOnShortest (n + 1) 36 L st h = exI E d lm RT F (run E g mi_X3_isOnShortest d lm RT F pm_X3_isOnShortest n) (2, ((0 : Nat) : Int), 0, 37, []) L st h := run_s rfl
theorem r_X3_isOnShortest_37 : run E g mi_X3_isOnShortest d lm RT F pm_X3_isOnShortest (n + 1) 37 L st h = exI E d lm RT F (run E g mi_X3_isOnShortest d lm RT F pm_X3_isOnShortest n) (1, ((1 : Nat) : Int), 0, 38, []) L st h := run_s rfl
theorem r_X3_isOnShortest_38 : run E g mi_X3_isOnShortest d lm RT F pm_X3_isOnShortest (n + 1) 38 L st h = exI E d lm RT F (run E g mi_X3_isOnShortest d lm RT F pm_X3_isOnShortest n) (1, ((2 : Nat) : Int), 0, 39, []) L st h := run_s rfl
theorem r_X3_isOnShortest_39 : run E g mi_X3_isOnShortest d lm RT F pm_X3_isOnShortest (n + 1) 39 L st h = exI E d lm RT F (run E g mi_X3_isOnShortest d lm RT F pm_X3_isOnShortest n) (51, ((10 : Nat) : Int), ((3 : Nat) : Int), 42, [3]) L st h := run_s rfl
theorem r_X3_isOnShortest_42 : run E g mi_X3_isOnShortest d lm RT F pm_X3_isOnShortest (n + 1) 42 L st h = exI E d lm RT F (run E g mi_X3_isOnShortest d lm RT F pm_X3_isOnShortest n) (8, 0, 0, 43, []) L st h := run_s rfl
theorem r_X3_isOnShortest_43 : run E g mi_X3_isOnShortest d lm RT F pm_X3_isOnShortest (n + 1) 43 L st h = exI E d lm RT F (run E g mi_X3_isOnShortest d lm RT F pm_X3_isOnShortest n) (2, ((0 : Nat) : Int), 0, 44, []) L st h := run_s rfl
theorem r_X3_isOnShortest_44 : run E g mi_X3_isOnShortest d lm RT F pm_X3_isOnShortest (n + 1) 44 L st h = exI E d lm RT F (run E g mi_X3_isOnShortest d lm RT F pm_X3_isOnShortest n) (35, ((3 : Nat) : Int), ((4 : Nat) : Int), 47, []) L st h := run_s rfl
theorem r_X3_isOnShortest_47 : run E g mi_X3_isOnShortest d lm RT F pm_X3_isOnShortest (n + 1) 47 L st h = exI E d lm RT F (run E g mi_X3_isOnShortest d lm RT F pm_X3_isOnShortest n) (1, ((1 : Nat) : Int), 0, 48, []) L st h := run_s rfl
theorem r_X3_isOnShortest_48 : run E g mi_X3_isOnShortest d lm RT F pm_X3_isOnShortest (n + 1) 48 L st h = exI E d lm RT F (run E g mi_X3_isOnShortest d lm RT F pm_X3_isOnShortest n) (38, 0, 0, 49, []) L st h := run_s rfl
theorem r_X3_isOnShortest_49 : run E g mi_X3_isOnShortest d lm RT F pm_X3_isOnShortest (n + 1) 49 L st h = exI E d lm RT F (run E g mi_X3_isOnShortest d lm RT F pm_X3_isOnShortest n) (32, 1, ((56 : Nat) : Int), 52, []) L st h := run_s rfl
theorem r_X3_isOnShortest_52 : run E g mi_X3_isOnShortest d lm RT F pm_X3_isOnShortest (n + 1) 52 L st h = exI E d lm RT F (run E g mi_X3_isOnShortest d lm RT F pm_X3_isOnShortest n) (0, 1, 0, 53, []) L st h := run_s rfl
theorem r_X3_isOnShortest_53 : run E g mi_X3_isOnShortest d lm RT F pm_X3_isOnShortest (n + 1) 53 L st h = exI E d lm RT F (run E g mi_X3_isOnShortest d lm RT F pm_X3_isOnShortest n) (33, ((57 : Nat) : Int), 0, 0, []) L st h := run_s rfl
theorem r_X3_isOnShortest_56 : run E g mi_X3_isOnShortest d lm RT F pm_X3_isOnShortest (n + 1) 56 L st h = exI E d lm RT F (run E g mi_X3_isOnShortest d lm RT F pm_X3_isOnShortest n) (0, 0, 0, 57, []) L st h := run_s rfl
theorem r_X3_isOnShortest_57 : run E g mi_X3_isOnShortest d lm RT F pm_X3_isOnShortest (n + 1) 57 L st h = exI E d lm RT F (run E g mi_X3_isOnShortest d lm RT F pm_X3_isOnShortest n) (48, 1, 0, 0, []) L st h := run_s rfl
theorem e_X3_isOnShortest (n : Nat) {pc : Nat} (hF : FOk E d F) (hx : run E g mi_X3_isOnShortest d lm RT F pm_X3_isOnShortest n pc L st h) : G E g mi_X3_isOnShortest d lm RT pc L st h := run_sound hF pk_X3_isOnShortest n pc L st h hx
end
def mi_X4_init : MI := (4, cX4_init, 1, 4, true)
theorem mo_X4_init : miOk mi_X4_init (mt 16) = true := by decide +kernel
def tl_X4_init : List (Nat × PT) := [(0, (2, ((0 : Nat) : Int), 0, 1, [])),
  (1, (47, 0, 0, 4, [])),
  (4, (48, 4, 0, 0, []))]
theorem tk_X4_init : tOk mi_X4_init tl_X4_init = true := by decide +kernel
def pm_X4_init (pc : Nat) : Option PT := if [].contains pc then none else tl_X4_init.lookup pc
theorem pk_X4_init : ∀ pc pt, pm_X4_init pc = some pt → okPt mi_X4_init pc pt := fun pc pt h => tOk_pm tk_X4_init h
section
variable {E : ET} {g : GT} {d : Nat} {lm : Nat × Nat} {RT : RTy} {F : FT} {n : Nat} {L : LV} {st : List AV} {h : AH}
theorem r_X4_init_0 : run E g mi_X4_init d lm RT F pm_X4_init (n + 1) 0 L st h = exI E d lm RT F (run E g mi_X4_init d lm RT F pm_X4_init n) (2, ((0 : Nat) : Int), 0, 1, []) L st h := run_s rfl
theorem r_X4_init_1 : run E g mi_X4_init d lm RT F pm_X4_init (n + 1) 1 L st h = exI E d lm RT F (run E g mi_X4_init d lm RT F pm_X4_init n) (47, 0, 0, 4, []) L st h := run_s rfl
theorem r_X4_init_4 : run E g mi_X4_init d lm RT F pm_X4_init (n + 1) 4 L st h = exI E d lm RT F (run E g mi_X4_init d lm RT F pm_X4_init n) (48, 4, 0, 0, []) L st h := run_s rfl
theorem e_X4_init (n : Nat) {pc : Nat} (hF : FOk E d F) (hx : run E g mi_X4_init d lm RT F pm_X4_init n pc L st h) : G E g mi_X4_init d lm RT pc L st h := run_sound hF pk_X4_init n pc L st h hx
end
def mi_X4_weight : MI := (4, cX4_weight, 3, 0, false)
theorem mo_X4_weight : miOk mi_X4_weight (mt 17) = true := by decide +kernel
def tl_X4_weight : List (Nat × PT) := [(0, (1, ((1 : Nat) : Int), 0, 1, [])),
  (1, (48, 0, 0, 0, []))]
theorem tk_X4_weight : tOk mi_X4_weight tl_X4_weight = true := by decide +kernel
def pm_X4_weight (pc : Nat) : Option PT := if [].contains pc then none else tl_X4_weight.lookup pc
theorem pk_X4_weight : ∀ pc pt, pm_X4_weight pc = some pt → okPt mi_X4_weight pc pt := fun pc pt h => tOk_pm tk_X4_weight h
section
variable {E : ET} {g : GT} {d : Nat} {lm : Nat × Nat} {RT : RTy} {F : FT} {n : Nat} {L : LV} {st : List AV} {h : AH}
theorem r_X4_weight_0 : run E g mi_X4_weight d lm RT F pm_X4_weight (n + 1) 0 L st h = exI E d lm RT F (run E g mi_X4_weight d lm RT F pm_X4_weight n) (1, ((1 : Nat) : Int), 0, 1, []) L st h := run_s rfl
theorem r_X4_weight_1 : run E g mi_X4_weight d lm RT F pm_X4_weight (n + 1) 1 L st h = exI E d lm RT F (run E g mi_X4_weight d lm RT F pm_X4_weight n) (48, 0, 0, 0, []) L st h := run_s rfl
theorem e_X4_weight (n : Nat) {pc : Nat} (hF : FOk E d F) (hx : run E g mi_X4_weight d lm RT F pm_X4_weight n pc L st h) : G E g mi_X4_weight d lm RT pc L st h := run_sound hF pk_X4_weight n pc L st h hx
end
def mi_X4_reward : MI := (4, cX4_reward, 4, 0, false)
theorem mo_X4_reward : miOk mi_X4_reward (mt 18) = true := by decide +kernel
def tl_X4_reward : List (Nat × PT) := [(0, (1, ((3 : Nat) : Int), 0, 1, [])),
  (1, (31, 4, ((8 : Nat) : Int), 4, [])),
  (4, (0, 0, 0, 5, [])),
  (5, (33, ((13 : Nat) : Int), 0, 0, [])),
  (8, (1, ((1 : Nat) : Int), 0, 9, [])),
  (9, (1, ((2 : Nat) : Int), 0, 10, [])),
  (10, (10, 0, 0, 11, [])),
  (11, (1, ((3 : Nat) : Int), 0, 12, [])),
  (12, (11, 0, 0, 13, [])),
  (13, (48, 0, 0, 0, []))]
theorem tk_X4_reward : tOk mi_X4_reward tl_X4_reward = true := by decide +kernel
def pm_X4_reward (pc : Nat) : Option PT := if [].contains pc then none else tl_X4_reward.lookup pc
theorem pk_X4_reward : ∀ pc pt, pm_X4_reward pc = some pt → okPt mi_X4_reward pc pt := fun pc pt h => tOk_pm tk_X4_reward h
section
variable {E : ET} {g : GT} {d : Nat} {lm : Nat × Nat} {RT : RTy} {F : FT} {n : Nat} {L : LV} {st : List AV} {h : AH}
theorem r_X4_reward_0 : run E g mi_X4_reward d lm RT F pm_X4_reward (n + 1) 0 L st h = exI E d lm RT F (run E g mi_X4_reward d lm RT F pm_X4_reward n) (1, ((3 : Nat) : Int), 0, 1, []) L st h := run_s rfl
theorem r_X4_reward_1 : run E g mi_X4_reward d lm RT F pm_X4_reward (n + 1) 1 L st h = exI E d lm RT F (run E g mi_X4_reward d lm RT F pm_X4_reward n) (31, 4, ((8 : Nat) : Int), 4, []) L st h := run_s rfl
theorem r_X4_reward_4 : run E g mi_X4_reward d lm RT F pm_X4_reward (n + 1) 4 L st h = exI E d lm RT F (run E g mi_X4_reward d lm RT F pm_X4_reward n) (0, 0, 0, 5, []) L st h := run_s rfl
theorem r_X4_reward_5 : run E g mi_X4_reward d lm RT F pm_X4_reward (n + 1) 5 L st h = exI E d lm RT F (run E g mi_X4_reward d lm RT F pm_X4_reward n) (33, ((13 : Nat) : Int), 0, 0, []) L st h := run_s rfl
theorem r_X4_reward_8 : run E g mi_X4_reward d lm RT F pm_X4_reward (n + 1) 8 L st h = exI E d lm RT F (run E g mi_X4_reward d lm RT F pm_X4_reward n) (1, ((1 : Nat) : Int), 0, 9, []) L st h := run_s rfl
theorem r_X4_reward_9 : run E g mi_X4_reward d lm RT F pm_X4_reward (n + 1) 9 L st h = exI E d lm RT F (run E g mi_X4_reward d lm RT F pm_X4_reward n) (1, ((2 : Nat) : Int), 0, 10, []) L st h := run_s rfl
theorem r_X4_reward_10 : run E g mi_X4_reward d lm RT F pm_X4_reward (n + 1) 10 L st h = exI E d lm RT F (run E g mi_X4_reward d lm RT F pm_X4_reward n) (10, 0, 0, 11, []) L st h := run_s rfl
theorem r_X4_reward_11 : run E g mi_X4_reward d lm RT F pm_X4_reward (n + 1) 11 L st h = exI E d lm RT F (run E g mi_X4_reward d lm RT F pm_X4_reward n) (1, ((3 : Nat) : Int), 0, 12, []) L st h := run_s rfl
theorem r_X4_reward_12 : run E g mi_X4_reward d lm RT F pm_X4_reward (n + 1) 12 L st h = exI E d lm RT F (run E g mi_X4_reward d lm RT F pm_X4_reward n) (11, 0, 0, 13, []) L st h := run_s rfl
theorem r_X4_reward_13 : run E g mi_X4_reward d lm RT F pm_X4_reward (n + 1) 13 L st h = exI E d lm RT F (run E g mi_X4_reward d lm RT F pm_X4_reward n) (48, 0, 0, 0, []) L st h := run_s rfl
theorem e_X4_reward (n : Nat) {pc : Nat} (hF : FOk E d F) (hx : run E g mi_X4_reward d lm RT F pm_X4_reward n pc L st h) : G E g mi_X4_reward d lm RT pc L st h := run_sound hF pk_X4_reward n pc L st h hx
end
def mi_X5_init : MI := (5, cX5_init, 1, 4, true)
theorem mo_X5_init : miOk mi_X5_init (mt 19) = true := by decide +kernel
def tl_X5_init : List (Nat × PT) := [(0, (2, ((0 : Nat) : Int), 0, 1, [])),
  (1, (47, 0, 0, 4, [])),
  (4, (2, ((0 : Nat) : Int), 0, 5, [])),
  (5, (0, 8, 0, 7, [])),
  (7, (42, 0, 0, 9, [])),
  (9, (37, ((5 : Nat) : Int), ((0 : Nat) : Int), 12, [3])),
  (12, (2, ((0 : Nat) : Int), 0, 13, [])),
  (13, (0, 8, 0, 15, [])),
  (15, (42, 0, 0, 17, [])),
  (17, (37, ((5 : Nat) : Int), ((1 : Nat) : Int), 20, [3])),
  (20, (2, ((0 : Nat) : Int), 0, 21, [])),
  (21, (0, 0, 0, 22, [])),
  (22, (36, ((5 : Nat) : Int), ((2 : Nat) : Int), 25, [0])),
  (25, (2, ((0 : Nat) : Int), 0, 26, [])),
  (26, (0, 0, 0, 27, [])),
  (27, (36, ((5 : Nat) : Int), ((3 : Nat) : Int), 30, [0])),
  (30, (2, ((0 : Nat) : Int), 0, 31, [])),
  (31, (0, 0, 0, 32, [])),
  (32, (36, ((5 : Nat) : Int), ((4 : Nat) : Int), 35, [0])),
  (35, (48, 4, 0, 0, []))]
theorem tk_X5_init : tOk mi_X5_init tl_X5_init = true := by decide +kernel
def pm_X5_init (pc : Nat) : Option PT := if [].contains pc then none else tl_X5_init.lookup pc
theorem pk_X5_init : ∀ pc pt, pm_X5_init pc = some pt → okPt mi_X5_init pc pt := fun pc pt h => tOk_pm tk_X5_init h
section
variable {E : ET} {g : GT} {d : Nat} {lm : Nat × Nat} {RT : RTy} {F : FT} {n : Nat} {L : LV} {st : List AV} {h : AH}
theorem r_X5_init_0 : run E g mi_X5_init d lm RT F pm_X5_init (n + 1) 0 L st h = exI E d lm RT F (run E g mi_X5_init d lm RT F pm_X5_init n) (2, ((0 : Nat) : Int), 0, 1, []) L st h := run_s rfl
theorem r_X5_init_1 : run E g mi_X5_init d lm RT F pm_X5_init (n + 1) 1 L st h = exI E d lm RT F (run E g mi_X5_init d lm RT F pm_X5_init n) (47, 0, 0, 4, []) L st h := run_s rfl
theorem r_X5_init_4 : run E g mi_X5_init d lm RT F pm_X5_init (n + 1) 4 L st h = exI E d lm RT F (run E g mi_X5_init d lm RT F pm_X5_init n) (2, ((0 : Nat) : Int), 0, 5, []) L st h := run_s rfl
theorem r_X5_init_5 : run E g mi_X5_init d lm RT F pm_X5_init (n + 1) 5 L st h = exI E d lm RT F (run E g mi_X5_init d lm RT F pm_X5_init n) (0, 8, 0, 7, []) L st h := run_s rfl
theorem r_X5_init_7 : run E g mi_X5_init d lm RT F pm_X5_init (n + 1) 7 L st h = exI E d lm RT F (run E g mi_X5_init d lm RT F pm_X5_init n) (42, 0, 0, 9, []) L st h := run_s rfl
theorem r_X5_init_9 : run E g mi_X5_init d lm RT F pm_X5_init (n + 1) 9 L st h = exI E d lm RT F (run E g mi_X5_init d lm RT F pm_X5_init n) (37, ((5 : Nat) : Int), ((0 : Nat) : Int), 12, [3]) L st h := run_s rfl
theorem r_X5_init_12 : run E g mi_X5_init d lm RT F pm_X5_init (n + 1) 12 L st h = exI E d lm RT F (run E g mi_X5_init d lm RT F pm_X5_init n) (2, ((0 : Nat) : Int), 0, 13, []) L st h := run_s rfl
theorem r_X5_init_13 : run E g mi_X5_init d lm RT F pm_X5_init (n + 1) 13 L st h = exI E d lm RT F (run E g mi_X5_init d lm RT F pm_X5_init n) (0, 8, 0, 15, []) L st h := run_s rfl
theorem r_X5_init_15 : run E g mi_X5_init d lm RT F pm_X5_init (n + 1) 15 L st h = exI E d lm RT F (run E g mi_X5_init d lm RT F pm_X5_init n) (42, 0, 0, 17, []) L st h := run_s rfl
theorem r_X5_init_17 : run E g mi_X5_init d lm RT F pm_X5_init (n + 1) 17 L st h = exI E d lm RT F (run E g mi_X5_init d lm RT F pm_X5_init n) (37, ((5 : Nat) : Int), ((1 : Nat) : Int), 20, [3]) L st h := run_s rfl
theorem r_X5_init_20 : run E g mi_X5_init d lm RT F pm_X5_init (n + 1) 20 L st h = exI E d lm RT F (run E g mi_X5_init d lm RT F pm_X5_init n) (2, ((0 : Nat) : Int), 0, 21, []) L st h := run_s rfl
theorem r_X5_init_21 : run E g mi_X5_init d lm RT F pm_X5_init (n + 1) 21 L st h = exI E d lm RT F (run E g mi_X5_init d lm RT F pm_X5_init n) (0, 0, 0, 22, []) L st h := run_s rfl
theorem r_X5_init_22 : run E g mi_X5_init d lm RT F pm_X5_init (n + 1) 22 L st h = exI E d lm RT F (run E g mi_X5_init d lm RT F pm_X5_init n) (36, ((5 : Nat) : Int), ((2 : Nat) : Int), 25, [0]) L st h := run_s rfl
theorem r_X5_init_25 : run E g mi_X5_init d lm RT F pm_X5_init (n + 1) 25 L st h = exI E d lm RT F (run E g mi_X5_init d lm RT F pm_X5_init n) (2, ((0 : Nat) : Int), 0, 26, []) L st h := run_s rfl
theorem r_X5_init_26 : run E g mi_X5_init d lm RT F pm_X5_init (n + 1) 26 L st h = exI E d lm RT F (run E g mi_X5_init d lm RT F pm_X5_init n) (0, 0, 0, 27, []) L st h := run_s rfl
theorem r_X5_init_27 : run E g mi_X5_init d lm RT F pm_X5_init (n + 1) 27 L st h = exI E d lm RT F (run E g mi_X5_init d lm RT F pm_X5_init n) (36, ((5 : Nat) : Int), ((3 : Nat) : Int), 30, [0]) L st h := run_s rfl
theorem r_X5_init_30 : run E g mi_X5_init d lm RT F pm_X5_init (n + 1) 30 L st h = exI E d lm RT F (run E g mi_X5_init d lm RT F pm_X5_init n) (2, ((0 : Nat) : Int), 0, 31, []) L st h := run_s rfl
theorem r_X5_init_31 : run E g mi_X5_init d lm RT F pm_X5_init (n + 1) 31 L st h = exI E d lm RT F (run E g mi_X5_init d lm RT F pm_X5_init n) (0, 0, 0, 32, []) L st h := run_s rfl
theorem r_X5_init_32 : run E g mi_X5_init d lm RT F pm_X5_init (n + 1) 32 L st h = exI E d lm RT F (run E g mi_X5_init d lm RT F pm_X5_init n) (36, ((5 : Nat) : Int), ((4 : Nat) : Int), 35, [0]) L st h := run_s rfl
theorem r_X5_init_35 : run E g mi_X5_init d lm RT F pm_X5_init (n + 1) 35 L st h = exI E d lm RT F (run E g mi_X5_init d lm RT F pm_X5_init n) (48, 4, 0, 0, []) L st h := run_s rfl
theorem e_X5_init (n : Nat) {pc : Nat} (hF : FOk E d F) (hx : run E g mi_X5_init d lm RT F pm_X5_init n pc L st h) : G E g mi_X5_init d lm RT pc L st h := run_sound hF pk_X5_init n pc L st h hx
end
def mi_X5_startAnew : MI := (5, cX5_startAnew, 2, 4, false)
theorem mo_X5_startAnew : miOk mi_X5_startAnew (mt 20) = true := by decide +kernel
def tl_X5_startAnew : List (Nat × PT) := [(0, (2, ((0 : Nat) : Int), 0, 1, [])),
  (1, (1, ((1 : Nat) : Int), 0, 2, [])),
  (2, (36, ((5 : Nat) : Int), ((2 : Nat) : Int), 5, [0])),
  (5, (2, ((0 : Nat) : Int), 0, 6, [])),
  (6, (0, 0, 0, 7, [])),
  (7, (36, ((5 : Nat) : Int), ((3 : Nat) : Int), 10, [0])),
  (10, (2, ((0 : Nat) : Int), 0, 11, [])),
  (11, (0, 0, 0, 12, [])),
  (12, (36, ((5 : Nat) : Int), ((4 : Nat) : Int), 15, [0])),
  (15, (2, ((0 : Nat) : Int), 0, 16, [])),
  (16, (51, ((21 : Nat) : Int), ((1 : Nat) : Int), 19, [5])),
  (19, (48, 4, 0, 0, []))]
theorem tk_X5_startAnew : tOk mi_X5_startAnew tl_X5_startAnew = true := by decide +kernel
def pm_X5_startAnew (pc : Nat) : Option PT := if [].contains pc then none else tl_X5_startAnew.lookup pc
theorem pk_X5_startAnew : ∀ pc pt, pm_X5_startAnew pc = some pt → okPt mi_X5_startAnew pc pt := fun pc pt h => tOk_pm tk_X5_startAnew h
section
variable {E : ET} {g : GT} {d : Nat} {lm : Nat × Nat} {RT : RTy} {F : FT} {n : Nat} {L : LV} {st : List AV} {h : AH}
theorem r_X5_startAnew_0 : run E g mi_X5_startAnew d lm RT F pm_X5_startAnew (n + 1) 0 L st h = exI E d lm RT F (run E g mi_X5_startAnew d lm RT F pm_X5_startAnew n) (2, ((0 : Nat) : Int), 0, 1, []) L st h := run_s rfl
theorem r_X5_startAnew_1 : run E g mi_X5_startAnew d lm RT F pm_X5_startAnew (n + 1) 1 L st h = exI E d lm RT F (run E g mi_X5_startAnew d lm RT F pm_X5_startAnew n) (1, ((1 : Nat) : Int), 0, 2, []) L st h := run_s rfl
theorem r_X5_startAnew_2 : run E g mi_X5_startAnew d lm RT F pm_X5_startAnew (n + 1) 2 L st h = exI E d lm RT F (run E g mi_X5_startAnew d lm RT F pm_X5_startAnew n) (36, ((5 : Nat) : Int), ((2 : Nat) : Int), 5, [0]) L st h := run_s rfl
theorem r_X5_startAnew_5 : run E g mi_X5_startAnew d lm RT F pm_X5_startAnew (n + 1) 5 L st h = exI E d lm RT F (run E g mi_X5_startAnew d lm RT F pm_X5_startAnew n) (2, ((0 : Nat) : Int), 0, 6, []) L st h := run_s rfl
theorem r_X5_startAnew_6 : run E g mi_X5_startAnew d lm RT F pm_X5_startAnew (n + 1) 6 L st h = exI E d lm RT F (run E g mi_X5_startAnew d lm RT F pm_X5_startAnew n) (0, 0, 0, 7, []) L st h := run_s rfl
theorem r_X5_startAnew_7 : run E g mi_X5_startAnew d lm RT F pm_X5_startAnew (n + 1) 7 L st h = exI E d lm RT F (run E g mi_X5_startAnew d lm RT F pm_X5_startAnew n) (36, ((5 : Nat) : Int), ((3 : Nat) : Int), 10, [0]) L st h := run_s rfl
theorem r_X5_startAnew_10 : run E g mi_X5_startAnew d lm RT F pm_X5_startAnew (n + 1) 10 L st h = exI E d lm RT F (run E g mi_X5_startAnew d lm RT F pm_X5_startAnew n) (2, ((0 : Nat) : Int), 0, 11, []) L st h := run_s rfl
theorem r_X5_startAnew_11 : run E g mi_X5_startAnew d lm RT F pm_X5_startAnew (n + 1) 11 L st h = exI E d lm RT F (run E g mi_X5_startAnew d lm RT F pm_X5_startAnew n) (0, 0, 0, 12, []) L st h := run_s rfl
theorem r_X5_startAnew_12 : run E g mi_X5_startAnew d lm RT F pm_X5_startAnew (n + 1) 12 L st h = exI E d lm RT F (run E g mi_X5_startAnew d lm RT F pm_X5_startAnew n) (36, ((5 : Nat) : Int), ((4 : Nat) : Int), 15, [0]) L st h := run_s rfl
theorem r_X5_startAnew_15 : run E g mi_X5_startAnew d lm RT F pm_X5_startAnew (n + 1) 15 L st h = exI E d lm RT F (run E g mi_X5_startAnew d lm RT F pm_X5_startAnew n) (2, ((0 : Nat) : Int), 0, 16, []) L st h := run_s rfl
theorem r_X5_startAnew_16 : run E g mi_X5_startAnew d lm RT F pm_X5_startAnew (n + 1) 16 L st h = exI E d lm RT F (run E g mi_X5_startAnew d lm RT F pm_X5_startAnew n) (51, ((21 : Nat) : Int), ((1 : Nat) : Int), 19, [5]) L st h := run_s rfl
theorem r_X5_startAnew_19 : run E g mi_X5_startAnew d lm RT F pm_X5_startAnew (n + 1) 19 L st h = exI E d lm RT F (run E g mi_X5_startAnew d lm RT F pm_X5_startAnew n) (48, 4, 0, 0, []) L st h := run_s rfl
theorem e_X5_startAnew (n : Nat) {pc : Nat} (hF : FOk E d F) (hx : run E g mi_X5_startAnew d lm RT F pm_X5_startAnew n pc L st h) : G E g mi_X5_startAnew d lm RT pc L st h := run_sound hF pk_X5_startAnew n pc L st h hx
end
def mi_X5_becomeEven : MI := (5, cX5_becomeEven, 1, 4, false)
theorem mo_X5_becomeEven : miOk mi_X5_becomeEven (mt 21) = true := by decide +kernel
def tl_X5_becomeEven : List (Nat × PT) := [(0, (0, 1000, 0, 3, [])),
  (3, (2, ((0 : Nat) : Int), 0, 4, [])),
  (4, (35, ((5 : Nat) : Int), ((2 : Nat) : Int), 7, [])),
  (7, (2, ((0 : Nat) : Int), 0, 8, [])),
  (8, (35, ((5 : Nat) : Int), ((0 : Nat) : Int), 11, [])),
  (11, (44, ((32 : Nat) : Int), ((3 : Nat) : Int), 14, [])),
  (14, (48, 4, 0, 0, []))]
theorem tk_X5_becomeEven : tOk mi_X5_becomeEven tl_X5_becomeEven = true := by decide +kernel
def pm_X5_becomeEven (pc : Nat) : Option PT := if [].contains pc then none else tl_X5_becomeEven.lookup pc
theorem pk_X5_becomeEven : ∀ pc pt, pm_X5_becomeEven pc = some pt → okPt mi_X5_becomeEven pc pt := fun pc pt h => tOk_pm tk_X5_becomeEven h
section
variable {E : ET} {g : GT} {d : Nat} {lm : Nat × Nat} {RT : RTy} {F : FT} {n : Nat} {L : LV} {st : List AV} {h : AH}
theorem r_X5_becomeEven_0 : run E g mi_X5_becomeEven d lm RT F pm_X5_becomeEven (n + 1) 0 L st h = exI E d lm RT F (run E g mi_X5_becomeEven d lm RT F pm_X5_becomeEven n) (0, 1000, 0, 3, []) L st h := run_s rfl
theorem r_X5_becomeEven_3 : run E g mi_X5_becomeEven d lm RT F pm_X5_becomeEven (n + 1) 3 L st h = exI E d lm RT F (run E g mi_X5_becomeEven d lm RT F pm_X5_becomeEven n) (2, ((0 : Nat) : Int), 0, 4, []) L st h := run_s rfl
theorem r_X5_becomeEven_4 : run E g mi_X5_becomeEven d lm RT F pm_X5_becomeEven (n + 1) 4 L st h = exI E d lm RT F (run E g mi_X5_becomeEven d lm RT F pm_X5_becomeEven n) (35, ((5 : Nat) : Int), ((2 : Nat) : Int), 7, []) L st h := run_s rfl
theorem r_X5_becomeEven_7 : run E g mi_X5_becomeEven d lm RT F pm_X5_becomeEven (n + 1) 7 L st h = exI E d lm RT F (run E g mi_X5_becomeEven d lm RT F pm_X5_becomeEven n) (2, ((0 : Nat) : Int), 0, 8, []) L st h := run_s rfl
theorem r_X5_becomeEven_8 : run E g mi_X5_becomeEven d lm RT F pm_X5_becomeEven (n + 1) 8 L st h = exI E d lm RT F (run E g mi_X5_becomeEven d lm RT F pm_X5_becomeEven n) (35, ((5 : Nat) : Int), ((0 : Nat) : Int), 11, []) L st h := run_s rfl
theorem r_X5_becomeEven_11 : run E g mi_X5_becomeEven d lm RT F pm_X5_becomeEven (n + 1) 11 L st h = exI E d lm RT F (run E g mi_X5_becomeEven d lm RT F pm_X5_becomeEven n) (44, ((32 : Nat) : Int), ((3 : Nat) : Int), 14, []) L st h := run_s rfl
theorem r_X5_becomeEven_14 : run E g mi_X5_becomeEven d lm RT F pm_X5_becomeEven (n + 1) 14 L st h = exI E d lm RT F (run E g mi_X5_becomeEven d lm RT F pm_X5_becomeEven n) (48, 4, 0, 0, []) L st h := run_s rfl
theorem e_X5_becomeEven (n : Nat) {pc : Nat} (hF : FOk E d F) (hx : run E g mi_X5_becomeEven d lm RT F pm_X5_becomeEven n pc L st h) : G E g mi_X5_becomeEven d lm RT pc L st h := run_sound hF pk_X5_becomeEven n pc L st h hx
end
def mi_X5_greatest : MI := (5, cX5_greatest, 3, 0, false)
theorem mo_X5_greatest : miOk mi_X5_greatest (mt 22) = true := by decide +kernel
def tl_X5_greatest : List (Nat × PT) := [(0, (0, (-9), 0, 2, [])),
  (2, (4, ((1 : Nat) : Int), 0, 3, [])),
  (3, (0, 0, 0, 4, [])),
  (4, (4, ((2 : Nat) : Int), 0, 5, [])),
  (5, (1, ((2 : Nat) : Int), 0, 6, [])),
  (6, (0, 8, 0, 8, [])),
  (8, (32, 3, ((51 : Nat) : Int), 11, [])),
  (11, (2, ((0 : Nat) : Int), 0, 12, [])),
  (12, (35, ((5 : Nat) : Int), ((2 : Nat) : Int), 15, [])),
  (15, (1, ((2 : Nat) : Int), 0, 16, [])),
  (16, (45, ((69 : Nat) : Int), ((2 : Nat) : Int), 19, [])),
  (19, (31, 0, ((45 : Nat) : Int), 22, [])),
  (22, (1, ((1 : Nat) : Int), 0, 23, [])),
  (23, (0, (-9), 0, 25, [])),
  (25, (32, 0, ((43 : Nat) : Int), 28, [])),
  (28, (2, ((0 : Nat) : Int), 0, 29, [])),
  (29, (35, ((5 : Nat) : Int), ((0 : Nat) : Int), 32, [])),
  (32, (1, ((2 : Nat) : Int), 0, 33, [])),
  (33, (38, 0, 0, 34, [])),
  (34, (2, ((0 : Nat) : Int), 0, 35, [])),
  (35, (35, ((5 : Nat) : Int), ((0 : Nat) : Int), 38, [])),
  (38, (1, ((1 : Nat) : Int), 0, 39, [])),
  (39, (38, 0, 0, 40, [])),
  (40, (32, 5, ((45 : Nat) : Int), 43, [])),
  (43, (1, ((2 : Nat) : Int), 0, 44, [])),
  (44, (4, ((1 : Nat) : Int), 0, 45, [])),
  (45, (7, ((2 : Nat) : Int), 1, 48, [])),
  (48, (33, ((5 : Nat) : Int), 0, 0, [])),
  (51, (1, ((1 : Nat) : Int), 0, 52, [])),
  (52, (48, 0, 0, 0, []))]
theorem tk_X5_greatest : tOk mi_X5_greatest tl_X5_greatest = true := by decide +kernel
def pm_X5_greatest (pc : Nat) : Option PT := if [5].contains pc then none else tl_X5_greatest.lookup pc
theorem pk_X5_greatest : ∀ pc pt, pm_X5_greatest pc = some pt → okPt mi_X5_greatest pc pt := fun pc pt h => tOk_pm tk_X5_greatest h
section
variable {E : ET} {g : GT} {d : Nat} {lm : Nat × Nat} {RT : RTy} {F : FT} {n : Nat} {L : LV} {st : List AV} {h : AH}
theorem r_X5_greatest_0 : run E g mi_X5_greatest d lm RT F pm_X5_greatest (n + 1) 0 L st h = exI E d lm RT F (run E g mi_X5_greatest d lm RT F pm_X5_greatest n) (0, (-9), 0, 2, []) L st h := run_s rfl
theorem r_X5_greatest_2 : run E g mi_X5_greatest d lm RT F pm_X5_greatest (n + 1) 2 L st h = exI E d lm RT F (run E g mi_X5_greatest d lm RT F pm_X5_greatest n) (4, ((1 : Nat) : Int), 0, 3, []) L st h := run_s rfl
theorem r_X5_greatest_3 : run E g mi_X5_greatest d lm RT F pm_X5_greatest (n + 1) 3 L st h = exI E d lm RT F (run E g mi_X5_greatest d lm RT F pm_X5_greatest n) (0, 0, 0, 4, []) L st h := run_s rfl
theorem r_X5_greatest_4 : run E g mi_X5_greatest d lm RT F pm_X5_greatest (n + 1) 4 L st h = exI E d lm RT F (run E g mi_X5_greatest d lm RT F pm_X5_greatest n) (4, ((2 : Nat) : Int), 0, 5, []) L st h := run_s rfl
theorem r_X5_greatest_5 : run E g mi_X5_greatest d lm RT F pm_X5_greatest (n + 1) 5 L st h = G E g mi_X5_greatest d lm RT 5 L st h := run_c rfl
theorem q_X5_greatest_5 (n : Nat) (hF : FOk E d F) (hx : exI E d lm RT F (run E g mi_X5_greatest d lm RT F pm_X5_greatest n) (1, ((2 : Nat) : Int), 0, 6, []) L st h) : G E g mi_X5_greatest d lm RT 5 L st h := sstep hF (tOk_spec tk_X5_greatest (by decide +kernel)) (run_sound hF pk_X5_greatest n) hx
theorem r_X5_greatest_6 : run E g mi_X5_greatest d lm RT F pm_X5_greatest (n + 1) 6 L st h = exI E d lm RT F (run E g mi_X5_greatest d lm RT F pm_X5_greatest n) (0, 8, 0, 8, []) L st h := run_s rfl
theorem r_X5_greatest_8 : run E g mi_X5_greatest d lm RT F pm_X5_greatest (n + 1) 8 L st h = exI E d lm RT F (run E g mi_X5_greatest d lm RT F pm_X5_greatest n) (32, 3, ((51 : Nat) : Int), 11, []) L st h := run_s rfl
theorem r_X5_greatest_11 : run E g mi_X5_greatest d lm RT F pm_X5_greatest (n + 1) 11 L st h = exI E d lm RT F (run E g mi_X5_greatest d lm RT F pm_X5_greatest n) (2, ((0 : Nat) : Int), 0, 12, []) L st h := run_s rfl
theorem r_X5_greatest_12 : run E g mi_X5_greatest d lm RT F pm_X5_greatest (n + 1) 12 L st h = exI E d lm RT F (run E g mi_X5_greatest d lm RT F pm_X5_greatest n) (35, ((5 : Nat) : Int), ((2 : Nat) : Int), 15, []) L st h := run_s rfl
theorem r_X5_greatest_15 : run E g mi_X5_greatest d lm RT F pm_X5_greatest (n + 1) 15 L st h = exI E d lm RT F (run E g mi_X5_greatest d lm RT F pm_X5_greatest n) (1, ((2 : Nat) : Int), 0, 16, []) L st h := run_s rfl
theorem r_X5_greatest_16 : run E g mi_X5_greatest d lm RT F pm_X5_greatest (n + 1) 16 L st h = exI E d lm RT F (run E g mi_X5_greatest d lm RT F pm_X5_greatest n) (45, ((69 : Nat) : Int), ((2 : Nat) : Int), 19, []) L st h := run_s rfl
theorem r_X5_greatest_19 : run E g mi_X5_greatest d lm RT F pm_X5_greatest (n + 1) 19 L st h = exI E d lm RT F (run E g mi_X5_greatest d lm RT F pm_X5_greatest n) (31, 0, ((45 : Nat) : Int), 22, []) L st h := run_s rfl
theorem r_X5_greatest_22 : run E g mi_X5_greatest d lm RT F pm_X5_greatest (n + 1) 22 L st h = exI E d lm RT F (run E g mi_X5_greatest d lm RT F pm_X5_greatest n) (1, ((1 : Nat) : Int), 0, 23, []) L st h := run_s rfl
theorem r_X5_greatest_23 : run E g mi_X5_greatest d lm RT F pm_X5_greatest (n + 1) 23 L st h = exI E d lm RT F (run E g mi_X5_greatest d lm RT F pm_X5_greatest n) (0, (-9), 0, 25, []) L st h := run_s rfl
theorem r_X5_greatest_25 : run E g mi_X5_greatest d lm RT F pm_X5_greatest (n + 1) 25 L st h = exI E d lm RT F (run E g mi_X5_greatest d lm RT F pm_X5_greatest n) (32, 0, ((43 : Nat) : Int), 28, []) L st h := run_s rfl
theorem r_X5_greatest_28 : run E g mi_X5_greatest d lm RT F pm_X5_greatest (n + 1) 28 L st h = exI E d lm RT F (run E g mi_X5_greatest d lm RT F pm_X5_greatest n) (2, ((0 : Nat) : Int), 0, 29, []) L st h := run_s rfl
theorem r_X5_greatest_29 : run E g mi_X5_greatest d lm RT F pm_X5_greatest (n + 1) 29 L st h = exI E d lm RT F (run E g mi_X5_greatest d lm RT F pm_X5_greatest n) (35, ((5 : Nat) : Int), ((0 : Nat) : Int), 32, []) L st h := run_s rfl
theorem r_X5_greatest_32 : run E g mi_X5_greatest d lm RT F pm_X5_greatest (n + 1) 32 L st h = exI E d lm RT F (run E g mi_X5_greatest d lm RT F pm_X5_greatest n) (1, ((2 : Nat) : Int), 0, 33, []) L st h := run_s rfl
theorem r_X5_greatest_33 : run E g mi_X5_greatest d lm RT F pm_X5_greatest (n + 1) 33 L st h = exI E d lm RT F (run E g mi_X5_greatest d lm RT F pm_X5_greatest n) (38, 0, 0, 34, []) L st h := run_s rfl
theorem r_X5_greatest_34 : run E g mi_X5_greatest d lm RT F pm_X5_greatest (n + 1) 34 L st h = exI E d lm RT F (run E g mi_X5_greatest d lm RT F pm_X5_greatest n) (2, ((0 : Nat) : Int), 0, 35, []) L st h := run_s rfl
theorem r_X5_greatest_35 : run E g mi_X5_greatest d lm RT F pm_X5_greatest (n + 1) 35 L st h = exI E d lm RT F (run E g mi_X5_greatest d lm RT F pm_X5_greatest n) (35, ((5 : Nat) : Int), ((0 : Nat) : Int), 38, []) L st h := run_s rfl
theorem r_X5_greatest_38 : run E g mi_X5_greatest d lm RT F pm_X5_greatest (n + 1) 38 L st h = exI E d lm RT F (run E g mi_X5_greatest d lm RT F pm_X5_greatest n) (1, ((1 : Nat) : Int), 0, 39, []) L st h := run_s rfl
theorem r_X5_greatest_39 : run E g mi_X5_greatest d lm RT F pm_X5_greatest (n + 1) 39 L st h = exI E d lm RT F (run E g mi_X5_greatest d lm RT F pm_X5_greatest n) (38, 0, 0, 40, []) L st h := run_s rfl
theorem r_X5_greatest_40 : run E g mi_X5_greatest d lm RT F pm_X5_greatest (n + 1) 40 L st h = exI E d lm RT F (run E g mi_X5_greatest d lm RT F pm_X5_greatest n) (32, 5, ((45 : Nat) : Int), 43, []) L st h := run_s rfl
theorem r_X5_greatest_43 : run E g mi_X5_greatest d lm RT F pm_X5_greatest (n + 1) 43 L st h = exI E d lm RT F (run E g mi_X5_greatest d lm RT F pm_X5_greatest n) (1, ((2 : Nat) : Int), 0, 44, []) L st h := run_s rfl
theorem r_X5_greatest_44 : run E g mi_X5_greatest d lm RT F pm_X5_greatest (n + 1) 44 L st h = exI E d lm RT F (run E g mi_X5_greatest d lm RT F pm_X5_greatest n) (4, ((1 : Nat) : Int), 0, 45, []) L st h := run_s rfl
theorem r_X5_greatest_45 : run E g mi_X5_greatest d lm RT F pm_X5_greatest (n + 1) 45 L st h = exI E d lm RT F (run E g mi_X5_greatest d lm RT F pm_X5_greatest n) (7, ((2 : Nat) : Int), 1, 48, []) L st h := run_s rfl
theorem r_X5_greatest_48 : run E g mi_X5_greatest d lm RT F pm_X5_greatest (n + 1) 48 L st h = exI E d lm RT F (run E g mi_X5_greatest d lm RT F pm_X5_greatest n) (33, ((5 : Nat) : Int), 0, 0, []) L st h := run_s rfl
theorem r_X5_greatest_51 : run E g mi_X5_greatest d lm RT F pm_X5_greatest (n + 1) 51 L st h = exI E d lm RT F (run E g mi_X5_greatest d lm RT F pm_X5_greatest n) (1, ((1 : Nat) : Int), 0, 52, []) L st h := run_s rfl
theorem r_X5_greatest_52 : run E g mi_X5_greatest d lm RT F pm_X5_greatest (n + 1) 52 L st h = exI E d lm RT F (run E g mi_X5_greatest d lm RT F pm_X5_greatest n) (48, 0, 0, 0, []) L st h := run_s rfl
theorem e_X5_greatest (n : Nat) {pc : Nat} (hF : FOk E d F) (hx : run E g mi_X5_greatest d lm RT F pm_X5_greatest n pc L st h) : G E g mi_X5_greatest d lm RT pc L st h := run_sound hF pk_X5_greatest n pc L st h hx
end
def mi_X5_leastBelow : MI := (5, cX5_leastBelow, 3, 0, false)
theorem mo_X5_leastBelow : miOk mi_X5_leastBelow (mt 23) = true := by decide +kernel
def tl_X5_leastBelow : List (Nat × PT) := [(0, (0, 0, 0, 1, [])),
  (1, (4, ((2 : Nat) : Int), 0, 2, [])),
  (2, (1, ((2 : Nat) : Int), 0, 3, [])),
  (3, (0, 8, 0, 5, [])),
  (5, (32, 3, ((37 : Nat) : Int), 8, [])),
  (8, (2, ((0 : Nat) : Int), 0, 9, [])),
  (9, (35, ((5 : Nat) : Int), ((2 : Nat) : Int), 12, [])),
  (12, (1, ((2 : Nat) : Int), 0, 13, [])),
  (13, (45, ((69 : Nat) : Int), ((2 : Nat) : Int), 16, [])),
  (16, (31, 0, ((31 : Nat) : Int), 19, [])),
  (19, (2, ((0 : Nat) : Int), 0, 20, [])),
  (20, (35, ((5 : Nat) : Int), ((0 : Nat) : Int), 23, [])),
  (23, (1, ((2 : Nat) : Int), 0, 24, [])),
  (24, (38, 0, 0, 25, [])),
  (25, (1, ((1 : Nat) : Int), 0, 26, [])),
  (26, (32, 3, ((31 : Nat) : Int), 29, [])),
  (29, (1, ((2 : Nat) : Int), 0, 30, [])),
  (30, (48, 0, 0, 0, [])),
  (31, (7, ((2 : Nat) : Int), 1, 34, [])),
  (34, (33, ((2 : Nat) : Int), 0, 0, [])),
  (37, (0, (-9), 0, 39, [])),
  (39, (48, 0, 0, 0, []))]
theorem tk_X5_leastBelow : tOk mi_X5_leastBelow tl_X5_leastBelow = true := by decide +kernel
def pm_X5_leastBelow (pc : Nat) : Option PT := if [2].contains pc then none else tl_X5_leastBelow.lookup pc
theorem pk_X5_leastBelow : ∀ pc pt, pm_X5_leastBelow pc = some pt → okPt mi_X5_leastBelow pc pt := fun pc pt h => tOk_pm tk_X5_leastBelow h
section
variable {E : ET} {g : GT} {d : Nat} {lm : Nat × Nat} {RT : RTy} {F : FT} {n : Nat} {L : LV} {st : List AV} {h : AH}
theorem r_X5_leastBelow_0 : run E g mi_X5_leastBelow d lm RT F pm_X5_leastBelow (n + 1) 0 L st h = exI E d lm RT F (run E g mi_X5_leastBelow d lm RT F pm_X5_leastBelow n) (0, 0, 0, 1, []) L st h := run_s rfl
theorem r_X5_leastBelow_1 : run E g mi_X5_leastBelow d lm RT F pm_X5_leastBelow (n + 1) 1 L st h = exI E d lm RT F (run E g mi_X5_leastBelow d lm RT F pm_X5_leastBelow n) (4, ((2 : Nat) : Int), 0, 2, []) L st h := run_s rfl
theorem r_X5_leastBelow_2 : run E g mi_X5_leastBelow d lm RT F pm_X5_leastBelow (n + 1) 2 L st h = G E g mi_X5_leastBelow d lm RT 2 L st h := run_c rfl
theorem q_X5_leastBelow_2 (n : Nat) (hF : FOk E d F) (hx : exI E d lm RT F (run E g mi_X5_leastBelow d lm RT F pm_X5_leastBelow n) (1, ((2 : Nat) : Int), 0, 3, []) L st h) : G E g mi_X5_leastBelow d lm RT 2 L st h := sstep hF (tOk_spec tk_X5_leastBelow (by decide +kernel)) (run_sound hF pk_X5_leastBelow n) hx
theorem r_X5_leastBelow_3 : run E g mi_X5_leastBelow d lm RT F pm_X5_leastBelow (n + 1) 3 L st h = exI E d lm RT F (run E g mi_X5_leastBelow d lm RT F pm_X5_leastBelow n) (0, 8, 0, 5, []) L st h := run_s rfl
theorem r_X5_leastBelow_5 : run E g mi_X5_leastBelow d lm RT F pm_X5_leastBelow (n + 1) 5 L st h = exI E d lm RT F (run E g mi_X5_leastBelow d lm RT F pm_X5_leastBelow n) (32, 3, ((37 : Nat) : Int), 8, []) L st h := run_s rfl
theorem r_X5_leastBelow_8 : run E g mi_X5_leastBelow d lm RT F pm_X5_leastBelow (n + 1) 8 L st h = exI E d lm RT F (run E g mi_X5_leastBelow d lm RT F pm_X5_leastBelow n) (2, ((0 : Nat) : Int), 0, 9, []) L st h := run_s rfl
theorem r_X5_leastBelow_9 : run E g mi_X5_leastBelow d lm RT F pm_X5_leastBelow (n + 1) 9 L st h = exI E d lm RT F (run E g mi_X5_leastBelow d lm RT F pm_X5_leastBelow n) (35, ((5 : Nat) : Int), ((2 : Nat) : Int), 12, []) L st h := run_s rfl
theorem r_X5_leastBelow_12 : run E g mi_X5_leastBelow d lm RT F pm_X5_leastBelow (n + 1) 12 L st h = exI E d lm RT F (run E g mi_X5_leastBelow d lm RT F pm_X5_leastBelow n) (1, ((2 : Nat) : Int), 0, 13, []) L st h := run_s rfl
theorem r_X5_leastBelow_13 : run E g mi_X5_leastBelow d lm RT F pm_X5_leastBelow (n + 1) 13 L st h = exI E d lm RT F (run E g mi_X5_leastBelow d lm RT F pm_X5_leastBelow n) (45, ((69 : Nat) : Int), ((2 : Nat) : Int), 16, []) L st h := run_s rfl
theorem r_X5_leastBelow_16 : run E g mi_X5_leastBelow d lm RT F pm_X5_leastBelow (n + 1) 16 L st h = exI E d lm RT F (run E g mi_X5_leastBelow d lm RT F pm_X5_leastBelow n) (31, 0, ((31 : Nat) : Int), 19, []) L st h := run_s rfl
theorem r_X5_leastBelow_19 : run E g mi_X5_leastBelow d lm RT F pm_X5_leastBelow (n + 1) 19 L st h = exI E d lm RT F (run E g mi_X5_leastBelow d lm RT F pm_X5_leastBelow n) (2, ((0 : Nat) : Int), 0, 20, []) L st h := run_s rfl
theorem r_X5_leastBelow_20 : run E g mi_X5_leastBelow d lm RT F pm_X5_leastBelow (n + 1) 20 L st h = exI E d lm RT F (run E g mi_X5_leastBelow d lm RT F pm_X5_leastBelow n) (35, ((5 : Nat) : Int), ((0 : Nat) : Int), 23, []) L st h := run_s rfl
theorem r_X5_leastBelow_23 : run E g mi_X5_leastBelow d lm RT F pm_X5_leastBelow (n + 1) 23 L st h = exI E d lm RT F (run E g mi_X5_leastBelow d lm RT F pm_X5_leastBelow n) (1, ((2 : Nat) : Int), 0, 24, []) L st h := run_s rfl
theorem r_X5_leastBelow_24 : run E g mi_X5_leastBelow d lm RT F pm_X5_leastBelow (n + 1) 24 L st h = exI E d lm RT F (run E g mi_X5_leastBelow d lm RT F pm_X5_leastBelow n) (38, 0, 0, 25, []) L st h := run_s rfl
theorem r_X5_leastBelow_25 : run E g mi_X5_leastBelow d lm RT F pm_X5_leastBelow (n + 1) 25 L st h = exI E d lm RT F (run E g mi_X5_leastBelow d lm RT F pm_X5_leastBelow n) (1, ((1 : Nat) : Int), 0, 26, []) L st h := run_s rfl
theorem r_X5_leastBelow_26 : run E g mi_X5_leastBelow d lm RT F pm_X5_leastBelow (n + 1) 26 L st h = exI E d lm RT F (run E g mi_X5_leastBelow d lm RT F pm_X5_leastBelow n) (32, 3, ((31 : Nat) : Int), 29, []) L st h := run_s rfl
theorem r_X5_leastBelow_29 : run E g mi_X5_leastBelow d lm RT F pm_X5_leastBelow (n + 1) 29 L st h = exI E d lm RT F (run E g mi_X5_leastBelow d lm RT F pm_X5_leastBelow n) (1, ((2 : Nat) : Int), 0, 30, []) L st h := run_s rfl
theorem r_X5_leastBelow_30 : run E g mi_X5_leastBelow d lm RT F pm_X5_leastBelow (n + 1) 30 L st h = exI E d lm RT F (run E g mi_X5_leastBelow d lm RT F pm_X5_leastBelow n) (48, 0, 0, 0, []) L st h := run_s rfl
theorem r_X5_leastBelow_31 : run E g mi_X5_leastBelow d lm RT F pm_X5_leastBelow (n + 1) 31 L st h = exI E d lm RT F (run E g mi_X5_leastBelow d lm RT F pm_X5_leastBelow n) (7, ((2 : Nat) : Int), 1, 34, []) L st h := run_s rfl
theorem r_X5_leastBelow_34 : run E g mi_X5_leastBelow d lm RT F pm_X5_leastBelow (n + 1) 34 L st h = exI E d lm RT F (run E g mi_X5_leastBelow d lm RT F pm_X5_leastBelow n) (33, ((2 : Nat) : Int), 0, 0, []) L st h := run_s rfl
theorem r_X5_leastBelow_37 : run E g mi_X5_leastBelow d lm RT F pm_X5_leastBelow (n + 1) 37 L st h = exI E d lm RT F (run E g mi_X5_leastBelow d lm RT F pm_X5_leastBelow n) (0, (-9), 0, 39, []) L st h := run_s rfl
theorem r_X5_leastBelow_39 : run E g mi_X5_leastBelow d lm RT F pm_X5_leastBelow (n + 1) 39 L st h = exI E d lm RT F (run E g mi_X5_leastBelow d lm RT F pm_X5_leastBelow n) (48, 0, 0, 0, []) L st h := run_s rfl
theorem e_X5_leastBelow (n : Nat) {pc : Nat} (hF : FOk E d F) (hx : run E g mi_X5_leastBelow d lm RT F pm_X5_leastBelow n pc L st h) : G E g mi_X5_leastBelow d lm RT pc L st h := run_sound hF pk_X5_leastBelow n pc L st h hx
end
def mi_X5_lift : MI := (5, cX5_lift, 5, 4, false)
theorem mo_X5_lift : miOk mi_X5_lift (mt 24) = true := by decide +kernel
def tl_X5_lift : List (Nat × PT) := [(0, (0, 0, 0, 1, [])),
  (1, (4, ((2 : Nat) : Int), 0, 2, [])),
  (2, (1, ((2 : Nat) : Int), 0, 3, [])),
  (3, (0, 1000, 0, 6, [])),
  (6, (32, 3, ((66 : Nat) : Int), 9, [])),
  (9, (2, ((0 : Nat) : Int), 0, 10, [])),
  (10, (1, ((1 : Nat) : Int), 0, 11, [])),
  (11, (51, ((23 : Nat) : Int), ((2 : Nat) : Int), 14, [5])),
  (14, (4, ((3 : Nat) : Int), 0, 15, [])),
  (15, (2, ((0 : Nat) : Int), 0, 16, [])),
  (16, (51, ((22 : Nat) : Int), ((1 : Nat) : Int), 19, [5])),
  (19, (4, ((4 : Nat) : Int), 0, 21, [])),
  (21, (1, ((3 : Nat) : Int), 0, 22, [])),
  (22, (0, (-9), 0, 24, [])),
  (24, (32, 0, ((34 : Nat) : Int), 27, [])),
  (27, (1, ((4 : Nat) : Int), 0, 29, [])),
  (29, (0, (-9), 0, 31, [])),
  (31, (32, 1, ((35 : Nat) : Int), 34, [])),
  (34, (48, 4, 0, 0, [])),
  (35, (2, ((0 : Nat) : Int), 0, 36, [])),
  (36, (35, ((5 : Nat) : Int), ((0 : Nat) : Int), 39, [])),
  (39, (1, ((4 : Nat) : Int), 0, 41, [])),
  (41, (29, 0, 0, 42, [])),
  (42, (38, 0, 0, 43, [])),
  (43, (1, ((1 : Nat) : Int), 0, 44, [])),
  (44, (2, ((0 : Nat) : Int), 0, 45, [])),
  (45, (35, ((5 : Nat) : Int), ((0 : Nat) : Int), 48, [])),
  (48, (1, ((3 : Nat) : Int), 0, 49, [])),
  (49, (38, 0, 0, 50, [])),
  (50, (9, 0, 0, 51, [])),
  (51, (9, 0, 0, 52, [])),
  (52, (39, 0, 0, 53, [])),
  (53, (2, ((0 : Nat) : Int), 0, 54, [])),
  (54, (35, ((5 : Nat) : Int), ((0 : Nat) : Int), 57, [])),
  (57, (1, ((3 : Nat) : Int), 0, 58, [])),
  (58, (1, ((1 : Nat) : Int), 0, 59, [])),
  (59, (39, 0, 0, 60, [])),
  (60, (7, ((2 : Nat) : Int), 1, 63, [])),
  (63, (33, ((2 : Nat) : Int), 0, 0, [])),
  (66, (48, 4, 0, 0, []))]
theorem tk_X5_lift : tOk mi_X5_lift tl_X5_lift = true := by decide +kernel
def pm_X5_lift (pc : Nat) : Option PT := if [2].contains pc then none else tl_X5_lift.lookup pc
theorem pk_X5_lift : ∀ pc pt, pm_X5_lift pc = some pt → okPt mi_X5_lift pc pt := fun pc pt h => tOk_pm tk_X5_lift h
section
variable {E : ET} {g : GT} {d : Nat} {lm : Nat × Nat} {RT : RTy} {F : FT} {n : Nat} {L : LV} {st : List AV} {h : AH}
theorem r_X5_lift_0 : run E g mi_X5_lift d lm RT F pm_X5_lift (n + 1) 0 L st h = exI E d lm RT F (run E g mi_X5_lift d lm RT F pm_X5_lift n) (0, 0, 0, 1, []) L st h := run_s rfl
theorem r_X5_lift_1 : run E g mi_X5_lift d lm RT F pm_X5_lift (n + 1) 1 L st h = exI E d lm RT F (run E g mi_X5_lift d lm RT F pm_X5_lift n) (4, ((2 : Nat) : Int), 0, 2, []) L st h := run_s rfl
theorem r_X5_lift_2 : run E g mi_X5_lift d lm RT F pm_X5_lift (n + 1) 2 L st h = G E g mi_X5_lift d lm RT 2 L st h := run_c rfl
theorem q_X5_lift_2 (n : Nat) (hF : FOk E d F) (hx : exI E d lm RT F (run E g mi_X5_lift d lm RT F pm_X5_lift n) (1, ((2 : Nat) : Int), 0, 3, []) L st h) : G E g mi_X5_lift d lm RT 2 L st h := sstep hF (tOk_spec tk_X5_lift (by decide +kernel)) (run_sound hF pk_X5_lift n) hx
theorem r_X5_lift_3 : run E g mi_X5_lift d lm RT F pm_X5_lift (n + 1) 3 L st h = exI E d lm RT F (run E g mi_X5_lift d lm RT F pm_X5_lift n) (0, 1000, 0, 6, []) L st h := run_s rfl
theorem r_X5_lift_6 : run E g mi_X5_lift d lm RT F pm_X5_lift (n + 1) 6 L st h = exI E d lm RT F (run E g mi_X5_lift d lm RT F pm_X5_lift n) (32, 3, ((66 : Nat) : Int), 9, []) L st h := run_s rfl
theorem r_X5_lift_9 : run E g mi_X5_lift d lm RT F pm_X5_lift (n + 1) 9 L st h = exI E d lm RT F (run E g mi_X5_lift d lm RT F pm_X5_lift n) (2, ((0 : Nat) : Int), 0, 10, []) L st h := run_s rfl
theorem r_X5_lift_10 : run E g mi_X5_lift d lm RT F pm_X5_lift (n + 1) 10 L st h = exI E d lm RT F (run E g mi_X5_lift d lm RT F pm_X5_lift n) (1, ((1 : Nat) : Int), 0, 11, []) L st h := run_s rfl
theorem r_X5_lift_11 : run E g mi_X5_lift d lm RT F pm_X5_lift (n + 1) 11 L st h = exI E d lm RT F (run E g mi_X5_lift d lm RT F pm_X5_lift n) (51, ((23 : Nat) : Int), ((2 : Nat) : Int), 14, [5]) L st h := run_s rfl
theorem r_X5_lift_14 : run E g mi_X5_lift d lm RT F pm_X5_lift (n + 1) 14 L st h = exI E d lm RT F (run E g mi_X5_lift d lm RT F pm_X5_lift n) (4, ((3 : Nat) : Int), 0, 15, []) L st h := run_s rfl
theorem r_X5_lift_15 : run E g mi_X5_lift d lm RT F pm_X5_lift (n + 1) 15 L st h = exI E d lm RT F (run E g mi_X5_lift d lm RT F pm_X5_lift n) (2, ((0 : Nat) : Int), 0, 16, []) L st h := run_s rfl
theorem r_X5_lift_16 : run E g mi_X5_lift d lm RT F pm_X5_lift (n + 1) 16 L st h = exI E d lm RT F (run E g mi_X5_lift d lm RT F pm_X5_lift n) (51, ((22 : Nat) : Int), ((1 : Nat) : Int), 19, [5]) L st h := run_s rfl
theorem r_X5_lift_19 : run E g mi_X5_lift d lm RT F pm_X5_lift (n + 1) 19 L st h = exI E d lm RT F (run E g mi_X5_lift d lm RT F pm_X5_lift n) (4, ((4 : Nat) : Int), 0, 21, []) L st h := run_s rfl
theorem r_X5_lift_21 : run E g mi_X5_lift d lm RT F pm_X5_lift (n + 1) 21 L st h = exI E d lm RT F (run E g mi_X5_lift d lm RT F pm_X5_lift n) (1, ((3 : Nat) : Int), 0, 22, []) L st h := run_s rfl
theorem r_X5_lift_22 : run E g mi_X5_lift d lm RT F pm_X5_lift (n + 1) 22 L st h = exI E d lm RT F (run E g mi_X5_lift d lm RT F pm_X5_lift n) (0, (-9), 0, 24, []) L st h := run_s rfl
theorem r_X5_lift_24 : run E g mi_X5_lift d lm RT F pm_X5_lift (n + 1) 24 L st h = exI E d lm RT F (run E g mi_X5_lift d lm RT F pm_X5_lift n) (32, 0, ((34 : Nat) : Int), 27, []) L st h := run_s rfl
theorem r_X5_lift_27 : run E g mi_X5_lift d lm RT F pm_X5_lift (n + 1) 27 L st h = exI E d lm RT F (run E g mi_X5_lift d lm RT F pm_X5_lift n) (1, ((4 : Nat) : Int), 0, 29, []) L st h := run_s rfl
theorem r_X5_lift_29 : run E g mi_X5_lift d lm RT F pm_X5_lift (n + 1) 29 L st h = exI E d lm RT F (run E g mi_X5_lift d lm RT F pm_X5_lift n) (0, (-9), 0, 31, []) L st h := run_s rfl
theorem r_X5_lift_31 : run E g mi_X5_lift d lm RT F pm_X5_lift (n + 1) 31 L st h = exI E d lm RT F (run E g mi_X5_lift d lm RT F pm_X5_lift n) (32, 1, ((35 : Nat) : Int), 34, []) L st h := run_s rfl
theorem r_X5_lift_34 : run E g mi_X5_lift d lm RT F pm_X5_lift (n + 1) 34 L st h = exI E d lm RT F (run E g mi_X5_lift d lm RT F pm_X5_lift n) (48, 4, 0, 0, []) L st h := run_s rfl
theorem r_X5_lift_35 : run E g mi_X5_lift d lm RT F pm_X5_lift (n + 1) 35 L st h = exI E d lm RT F (run E g mi_X5_lift d lm RT F pm_X5_lift n) (2, ((0 : Nat) : Int), 0, 36, []) L st h := run_s rfl
theorem r_X5_lift_36 : run E g mi_X5_lift d lm RT F pm_X5_lift (n + 1) 36 L st h = exI E d lm RT F (run E g mi_X5_lift d lm RT F pm_X5_lift n) (35, ((5 : Nat) : Int), ((0 : Nat) : Int), 39, []) L st h := run_s rfl
theorem r_X5_lift_39 : run E g mi_X5_lift d lm RT F pm_X5_lift (n + 1) 39 L st h = exI E d lm RT F (run E g mi_X5_lift d lm RT F pm_X5_lift n) (1, ((4 : Nat) : Int), 0, 41, []) L st h := run_s rfl
theorem r_X5_lift_41 : run E g mi_X5_lift d lm RT F pm_X5_lift (n + 1) 41 L st h = exI E d lm RT F (run E g mi_X5_lift d lm RT F pm_X5_lift n) (29, 0, 0, 42, []) L st h := run_s rfl
theorem r_X5_lift_42 : run E g mi_X5_lift d lm RT F pm_X5_lift (n + 1) 42 L st h = exI E d lm RT F (run E g mi_X5_lift d lm RT F pm_X5_lift n) (38, 0, 0, 43, []) L st h := run_s rfl
theorem r_X5_lift_43 : run E g mi_X5_lift d lm RT F pm_X5_lift (n + 1) 43 L st h = exI E d lm RT F (run E g mi_X5_lift d lm RT F pm_X5_lift n) (1, ((1 : Nat) : Int), 0, 44, []) L st h := run_s rfl
theorem r_X5_lift_44 : run E g mi_X5_lift d lm RT F pm_X5_lift (n + 1) 44 L st h = exI E d lm RT F (run E g mi_X5_lift d lm RT F pm_X5_lift n) (2, ((0 : Nat) : Int), 0, 45, []) L st h := run_s rfl
theorem r_X5_lift_45 : run E g mi_X5_lift d lm RT F pm_X5_lift (n + 1) 45 L st h = exI E d lm RT F (run E g mi_X5_lift d lm RT F pm_X5_lift n) (35, ((5 : Nat) : Int), ((0 : Nat) : Int), 48, []) L st h := run_s rfl
theorem r_X5_lift_48 : run E g mi_X5_lift d lm RT F pm_X5_lift (n + 1) 48 L st h = exI E d lm RT F (run E g mi_X5_lift d lm RT F pm_X5_lift n) (1, ((3 : Nat) : Int), 0, 49, []) L st h := run_s rfl
theorem r_X5_lift_49 : run E g mi_X5_lift d lm RT F pm_X5_lift (n + 1) 49 L st h = exI E d lm RT F (run E g mi_X5_lift d lm RT F pm_X5_lift n) (38, 0, 0, 50, []) L st h := run_s rfl
theorem r_X5_lift_50 : run E g mi_X5_lift d lm RT F pm_X5_lift (n + 1) 50 L st h = exI E d lm RT F (run E g mi_X5_lift d lm RT F pm_X5_lift n) (9, 0, 0, 51, []) L st h := run_s rfl
theorem r_X5_lift_51 : run E g mi_X5_lift d lm RT F pm_X5_lift (n + 1) 51 L st h = exI E d lm RT F (run E g mi_X5_lift d lm RT F pm_X5_lift n) (9, 0, 0, 52, []) L st h := run_s rfl
theorem r_X5_lift_52 : run E g mi_X5_lift d lm RT F pm_X5_lift (n + 1) 52 L st h = exI E d lm RT F (run E g mi_X5_lift d lm RT F pm_X5_lift n) (39, 0, 0, 53, []) L st h := run_s rfl
theorem r_X5_lift_53 : run E g mi_X5_lift d lm RT F pm_X5_lift (n + 1) 53 L st h = exI E d lm RT F (run E g mi_X5_lift d lm RT F pm_X5_lift n) (2, ((0 : Nat) : Int), 0, 54, []) L st h := run_s rfl
theorem r_X5_lift_54 : run E g mi_X5_lift d lm RT F pm_X5_lift (n + 1) 54 L st h = exI E d lm RT F (run E g mi_X5_lift d lm RT F pm_X5_lift n) (35, ((5 : Nat) : Int), ((0 : Nat) : Int), 57, []) L st h := run_s rfl
theorem r_X5_lift_57 : run E g mi_X5_lift d lm RT F pm_X5_lift (n + 1) 57 L st h = exI E d lm RT F (run E g mi_X5_lift d lm RT F pm_X5_lift n) (1, ((3 : Nat) : Int), 0, 58, []) L st h := run_s rfl
theorem r_X5_lift_58 : run E g mi_X5_lift d lm RT F pm_X5_lift (n + 1) 58 L st h = exI E d lm RT F (run E g mi_X5_lift d lm RT F pm_X5_lift n) (1, ((1 : Nat) : Int), 0, 59, []) L st h := run_s rfl
theorem r_X5_lift_59 : run E g mi_X5_lift d lm RT F pm_X5_lift (n + 1) 59 L st h = exI E d lm RT F (run E g mi_X5_lift d lm RT F pm_X5_lift n) (39, 0, 0, 60, []) L st h := run_s rfl
theorem r_X5_lift_60 : run E g mi_X5_lift d lm RT F pm_X5_lift (n + 1) 60 L st h = exI E d lm RT F (run E g mi_X5_lift d lm RT F pm_X5_lift n) (7, ((2 : Nat) : Int), 1, 63, []) L st h := run_s rfl
theorem r_X5_lift_63 : run E g mi_X5_lift d lm RT F pm_X5_lift (n + 1) 63 L st h = exI E d lm RT F (run E g mi_X5_lift d lm RT F pm_X5_lift n) (33, ((2 : Nat) : Int), 0, 0, []) L st h := run_s rfl
theorem r_X5_lift_66 : run E g mi_X5_lift d lm RT F pm_X5_lift (n + 1) 66 L st h = exI E d lm RT F (run E g mi_X5_lift d lm RT F pm_X5_lift n) (48, 4, 0, 0, []) L st h := run_s rfl
theorem e_X5_lift (n : Nat) {pc : Nat} (hF : FOk E d F) (hx : run E g mi_X5_lift d lm RT F pm_X5_lift n pc L st h) : G E g mi_X5_lift d lm RT pc L st h := run_sound hF pk_X5_lift n pc L st h hx
end
def mi_X5_raiseBy : MI := (5, cX5_raiseBy, 7, 4, false)
theorem mo_X5_raiseBy : miOk mi_X5_raiseBy (mt 25) = true := by decide +kernel
def tl_X5_raiseBy : List (Nat × PT) := [(0, (2, ((0 : Nat) : Int), 0, 1, [])),
  (1, (35, ((5 : Nat) : Int), ((2 : Nat) : Int), 4, [])),
  (4, (0, 1, 0, 5, [])),
  (5, (1, ((1 : Nat) : Int), 0, 6, [])),
  (6, (16, 0, 0, 7, [])),
  (7, (0, (-1), 0, 8, [])),
  (8, (15, 0, 0, 9, [])),
  (9, (13, 0, 0, 10, [])),
  (10, (4, ((5 : Nat) : Int), 0, 12, [])),
  (12, (1, ((5 : Nat) : Int), 0, 14, [])),
  (14, (31, 1, ((18 : Nat) : Int), 17, [])),
  (17, (48, 4, 0, 0, [])),
  (18, (0, 0, 0, 19, [])),
  (19, (4, ((6 : Nat) : Int), 0, 21, [])),
  (21, (1, ((6 : Nat) : Int), 0, 23, [])),
  (23, (0, 8, 0, 25, [])),
  (25, (32, 3, ((50 : Nat) : Int), 28, [])),
  (28, (2, ((4 : Nat) : Int), 0, 30, [])),
  (30, (35, ((6 : Nat) : Int), ((0 : Nat) : Int), 33, [])),
  (33, (1, ((6 : Nat) : Int), 0, 35, [])),
  (35, (2, ((0 : Nat) : Int), 0, 36, [])),
  (36, (35, ((5 : Nat) : Int), ((0 : Nat) : Int), 39, [])),
  (39, (1, ((6 : Nat) : Int), 0, 41, [])),
  (41, (38, 0, 0, 42, [])),
  (42, (25, 0, 0, 43, [])),
  (43, (39, 2, 0, 44, [])),
  (44, (7, ((6 : Nat) : Int), 1, 47, [])),
  (47, (33, ((21 : Nat) : Int), 0, 0, [])),
  (50, (2, ((0 : Nat) : Int), 0, 51, [])),
  (51, (35, ((5 : Nat) : Int), ((0 : Nat) : Int), 54, [])),
  (54, (1, ((1 : Nat) : Int), 0, 55, [])),
  (55, (29, 0, 0, 56, [])),
  (56, (38, 0, 0, 57, [])),
  (57, (0, 1000, 0, 60, [])),
  (60, (2, ((0 : Nat) : Int), 0, 61, [])),
  (61, (35, ((5 : Nat) : Int), ((0 : Nat) : Int), 64, [])),
  (64, (1, ((1 : Nat) : Int), 0, 65, [])),
  (65, (38, 0, 0, 66, [])),
  (66, (9, 0, 0, 67, [])),
  (67, (1, ((2 : Nat) : Int), 0, 68, [])),
  (68, (10, 0, 0, 69, [])),
  (69, (0, 1000, 0, 72, [])),
  (72, (11, 0, 0, 73, [])),
  (73, (8, 0, 0, 74, [])),
  (74, (39, 0, 0, 75, [])),
  (75, (2, ((4 : Nat) : Int), 0, 77, [])),
  (77, (0, 1000, 0, 80, [])),
  (80, (2, ((0 : Nat) : Int), 0, 81, [])),
  (81, (35, ((5 : Nat) : Int), ((0 : Nat) : Int), 84, [])),
  (84, (1, ((1 : Nat) : Int), 0, 85, [])),
  (85, (38, 0, 0, 86, [])),
  (86, (9, 0, 0, 87, [])),
  (87, (1, ((5 : Nat) : Int), 0, 89, [])),
  (89, (2, ((0 : Nat) : Int), 0, 90, [])),
  (90, (35, ((5 : Nat) : Int), ((0 : Nat) : Int), 93, [])),
  (93, (51, ((33 : Nat) : Int), ((4 : Nat) : Int), 96, [6])),
  (96, (2, ((0 : Nat) : Int), 0, 97, [])),
  (97, (1, ((3 : Nat) : Int), 0, 98, [])),
  (98, (51, ((24 : Nat) : Int), ((2 : Nat) : Int), 101, [5])),
  (101, (48, 4, 0, 0, []))]
theorem tk_X5_raiseBy_0 : tOk mi_X5_raiseBy ((tl_X5_raiseBy.drop 0).take 45) = true := by decide +kernel
theorem tk_X5_raiseBy_1 : tOk mi_X5_raiseBy ((tl_X5_raiseBy.drop 45).take 45) = true := by decide +kernel
theorem tk_X5_raiseBy : tOk mi_X5_raiseBy tl_X5_raiseBy = true := by
  refine tOk_cut 45 (by decide) (fun q hq => ?_)
  have hl : tl_X5_raiseBy.length = 60 := by decide +kernel
  rw [hl] at hq
  rcases (show q = 0 ∨ q = 1 by omega) with rfl | rfl
  · exact tk_X5_raiseBy_0
  · exact tk_X5_raiseBy_1
def pm_X5_raiseBy (pc : Nat) : Option PT := if [21].contains pc then none else tl_X5_raiseBy.lookup pc
theorem pk_X5_raiseBy : ∀ pc pt, pm_X5_raiseBy pc = some pt → okPt mi_X5_raiseBy pc pt := fun pc pt h => tOk_pm tk_X5_raiseBy h
section
variable {E : ET} {g : GT} {d : Nat} {lm : Nat × Nat} {RT : RTy} {F : FT} {n : Nat} {L : LV} {st : List AV} {h : AH}
theorem r_X5_raiseBy_0 : run E g mi_X5_raiseBy d lm RT F pm_X5_raiseBy (n + 1) 0 L st h = exI E d lm RT F (run E g mi_X5_raiseBy d lm RT F pm_X5_raiseBy n) (2, ((0 : Nat) : Int), 0, 1, []) L st h := run_s rfl
theorem r_X5_raiseBy_1 : run E g mi_X5_raiseBy d lm RT F pm_X5_raiseBy (n + 1) 1 L st h = exI E d lm RT F (run E g mi_X5_raiseBy d lm RT F pm_X5_raiseBy n) (35, ((5 : Nat) : Int), ((2 : Nat) : Int), 4, []) L st h := run_s rfl
theorem r_X5_raiseBy_4 : run E g mi_X5_raiseBy d lm RT F pm_X5_raiseBy (n + 1) 4 L st h = exI E d lm RT F (run E g mi_X5_raiseBy d lm RT F pm_X5_raiseBy n) (0, 1, 0, 5, []) L st h := run_s rfl
theorem r_X5_raiseBy_5 : run E g mi_X5_raiseBy d lm RT F pm_X5_raiseBy (n + 1) 5 L st h = exI E d lm RT F (run E g mi_X5_raiseBy d lm RT F pm_X5_raiseBy n) (1, ((1 : Nat) : Int), 0, 6, []) L st h := run_s rfl
theorem r_X5_raiseBy_6 : run E g mi_X5_raiseBy d lm RT F pm_X5_raiseBy (n + 1) 6 L st h = exI E d lm RT F (run E g mi_X5_raiseBy d lm RT F pm_X5_raiseBy n) (16, 0, 0, 7, []) L st h := run_s rfl
theorem r_X5_raiseBy_7 : run E g mi_X5_raiseBy d lm RT F pm_X5_raiseBy (n + 1) 7 L st h = exI E d lm RT F (run E g mi_X5_raiseBy d lm RT F pm_X5_raiseBy n) (0, (-1), 0, 8, []) L st h := run_s rfl
theorem r_X5_raiseBy_8 : run E g mi_X5_raiseBy d lm RT F pm_X5_raiseBy (n + 1) 8 L st h = exI E d lm RT F (run E g mi_X5_raiseBy d lm RT F pm_X5_raiseBy n) (15, 0, 0, 9, []) L st h := run_s rfl
theorem r_X5_raiseBy_9 : run E g mi_X5_raiseBy d lm RT F pm_X5_raiseBy (n + 1) 9 L st h = exI E d lm RT F (run E g mi_X5_raiseBy d lm RT F pm_X5_raiseBy n) (13, 0, 0, 10, []) L st h := run_s rfl
theorem r_X5_raiseBy_10 : run E g mi_X5_raiseBy d lm RT F pm_X5_raiseBy (n + 1) 10 L st h = exI E d lm RT F (run E g mi_X5_raiseBy d lm RT F pm_X5_raiseBy n) (4, ((5 : Nat) : Int), 0, 12, []) L st h := run_s rfl
theorem r_X5_raiseBy_12 : run E g mi_X5_raiseBy d lm RT F pm_X5_raiseBy (n + 1) 12 L st h = exI E d lm RT F (run E g mi_X5_raiseBy d lm RT F pm_X5_raiseBy n) (1, ((5 : Nat) : Int), 0, 14, []) L st h := run_s rfl
theorem r_X5_raiseBy_14 : run E g mi_X5_raiseBy d lm RT F pm_X5_raiseBy (n + 1) 14 L st h = exI E d lm RT F (run E g mi_X5_raiseBy d lm RT F pm_X5_raiseBy n) (31, 1, ((18 : Nat) : Int), 17, []) L st h := run_s rfl
theorem r_X5_raiseBy_17 : run E g mi_X5_raiseBy d lm RT F pm_X5_raiseBy (n + 1) 17 L st h = exI E d lm RT F (run E g mi_X5_raiseBy d lm RT F pm_X5_raiseBy n) (48, 4, 0, 0, []) L st h := run_s rfl
theorem r_X5_raiseBy_18 : run E g mi_X5_raiseBy d lm RT F pm_X5_raiseBy (n + 1) 18 L st h = exI E d lm RT F (run E g mi_X5_raiseBy d lm RT F pm_X5_raiseBy n) (0, 0, 0, 19, []) L st h := run_s rfl
theorem r_X5_raiseBy_19 : run E g mi_X5_raiseBy d lm RT F pm_X5_raiseBy (n + 1) 19 L st h = exI E d lm RT F (run E g mi_X5_raiseBy d lm RT F pm_X5_raiseBy n) (4, ((6 : Nat) : Int), 0, 21, []) L st h := run_s rfl
theorem r_X5_raiseBy_21 : run E g mi_X5_raiseBy d lm RT F pm_X5_raiseBy (n + 1) 21 L st h = G E g mi_X5_raiseBy d lm RT 21 L st h := run_c rfl
theorem q_X5_raiseBy_21 (n : Nat) (hF : FOk E d F) (hx : exI E d lm RT F (run E g mi_X5_raiseBy d lm RT F pm_X5_raiseBy n) (1, ((6 : Nat) : Int), 0, 23, []) L st h) : G E g mi_X5_raiseBy d lm RT 21 L st h := sstep hF (tOk_spec tk_X5_raiseBy (by decide +kernel)) (run_sound hF pk_X5_raiseBy n) hx
theorem r_X5_raiseBy_23 : run E g mi_X5_raiseBy d lm RT F pm_X5_raiseBy (n + 1) 23 L st h = exI E d lm RT F (run E g mi_X5_raiseBy d lm RT F pm_X5_raiseBy n) (0, 8, 0, 25, []) L st h := run_s rfl
theorem r_X5_raiseBy_25 : run E g mi_X5_raiseBy d lm RT F pm_X5_raiseBy (n + 1) 25 L st h = exI E d lm RT F (run E g mi_X5_raiseBy d lm RT F pm_X5_raiseBy n) (32, 3, ((50 : Nat) : Int), 28, []) L st h := run_s rfl
theorem r_X5_raiseBy_28 : run E g mi_X5_raiseBy d lm RT F pm_X5_raiseBy (n + 1) 28 L st h = exI E d lm RT F (run E g mi_X5_raiseBy d lm RT F pm_X5_raiseBy n) (2, ((4 : Nat) : Int), 0, 30, []) L st h := run_s rfl
theorem r_X5_raiseBy_30 : run E g mi_X5_raiseBy d lm RT F pm_X5_raiseBy (n + 1) 30 L st h = exI E d lm RT F (run E g mi_X5_raiseBy d lm RT F pm_X5_raiseBy n) (35, ((6 : Nat) : Int), ((0 : Nat) : Int), 33, []) L st h := run_s rfl
theorem r_X5_raiseBy_33 : run E g mi_X5_raiseBy d lm RT F pm_X5_raiseBy (n + 1) 33 L st h = exI E d lm RT F (run E g mi_X5_raiseBy d lm RT F pm_X5_raiseBy n) (1, ((6 : Nat) : Int), 0, 35, []) L st h := run_s rfl
theorem r_X5_raiseBy_35 : run E g mi_X5_raiseBy d lm RT F pm_X5_raiseBy (n + 1) 35 L st h = exI E d lm RT F (run E g mi_X5_raiseBy d lm RT F pm_X5_raiseBy n) (2, ((0 : Nat) : Int), 0, 36, []) L st h := run_s rfl
theorem r_X5_raiseBy_36 : run E g mi_X5_raiseBy d lm RT F pm_X5_raiseBy (n + 1) 36 L st h = exI E d lm RT F (run E g mi_X5_raiseBy d lm RT F pm_X5_raiseBy n) (35, ((5 : Nat) : Int), ((0 : Nat) : Int), 39, []) L st h := run_s rfl
theorem r_X5_raiseBy_39 : run E g mi_X5_raiseBy d lm RT F pm_X5_raiseBy (n + 1) 39 L st h = exI E d lm RT F (run E g mi_X5_raiseBy d lm RT F pm_X5_raiseBy n) (1, ((6 : Nat) : Int), 0, 41, []) L st h := run_s rfl
theorem r_X5_raiseBy_41 : run E g mi_X5_raiseBy d lm RT F pm_X5_raiseBy (n + 1) 41 L st h = exI E d lm RT F (run E g mi_X5_raiseBy d lm RT F pm_X5_raiseBy n) (38, 0, 0, 42, []) L st h := run_s rfl
theorem r_X5_raiseBy_42 : run E g mi_X5_raiseBy d lm RT F pm_X5_raiseBy (n + 1) 42 L st h = exI E d lm RT F (run E g mi_X5_raiseBy d lm RT F pm_X5_raiseBy n) (25, 0, 0, 43, []) L st h := run_s rfl
theorem r_X5_raiseBy_43 : run E g mi_X5_raiseBy d lm RT F pm_X5_raiseBy (n + 1) 43 L st h = exI E d lm RT F (run E g mi_X5_raiseBy d lm RT F pm_X5_raiseBy n) (39, 2, 0, 44, []) L st h := run_s rfl
theorem r_X5_raiseBy_44 : run E g mi_X5_raiseBy d lm RT F pm_X5_raiseBy (n + 1) 44 L st h = exI E d lm RT F (run E g mi_X5_raiseBy d lm RT F pm_X5_raiseBy n) (7, ((6 : Nat) : Int), 1, 47, []) L st h := run_s rfl
theorem r_X5_raiseBy_47 : run E g mi_X5_raiseBy d lm RT F pm_X5_raiseBy (n + 1) 47 L st h = exI E d lm RT F (run E g mi_X5_raiseBy d lm RT F pm_X5_raiseBy n) (33, ((21 : Nat) : Int), 0, 0, []) L st h := run_s rfl
theorem r_X5_raiseBy_50 : run E g mi_X5_raiseBy d lm RT F pm_X5_raiseBy (n + 1) 50 L st h = exI E d lm RT F (run E g mi_X5_raiseBy d lm RT F pm_X5_raiseBy n) (2, ((0 : Nat) : Int), 0, 51, []) L st h := run_s rfl
theorem r_X5_raiseBy_51 : run E g mi_X5_raiseBy d lm RT F pm_X5_raiseBy (n + 1) 51 L st h = exI E d lm RT F (run E g mi_X5_raiseBy d lm RT F pm_X5_raiseBy n) (35, ((5 : Nat) : Int), ((0 : Nat) : Int), 54, []) L st h := run_s rfl
theorem r_X5_raiseBy_54 : run E g mi_X5_raiseBy d lm RT F pm_X5_raiseBy (n + 1) 54 L st h = exI E d lm RT F (run E g mi_X5_raiseBy d lm RT F pm_X5_raiseBy n) (1, ((1 : Nat) : Int), 0, 55, []) L st h := run_s rfl
theorem r_X5_raiseBy_55 : run E g mi_X5_raiseBy d lm RT F pm_X5_raiseBy (n + 1) 55 L st h = exI E d lm RT F (run E g mi_X5_raiseBy d lm RT F pm_X5_raiseBy n) (29, 0, 0, 56, []) L st h := run_s rfl
theorem r_X5_raiseBy_56 : run E g mi_X5_raiseBy d lm RT F pm_X5_raiseBy (n + 1) 56 L st h = exI E d lm RT F (run E g mi_X5_raiseBy d lm RT F pm_X5_raiseBy n) (38, 0, 0, 57, []) L st h := run_s rfl
theorem r_X5_raiseBy_57 : run E g mi_X5_raiseBy d lm RT F pm_X5_raiseBy (n + 1) 57 L st h = exI E d lm RT F (run E g mi_X5_raiseBy d lm RT F pm_X5_raiseBy n) (0, 1000, 0, 60, []) L st h := run_s rfl
theorem r_X5_raiseBy_60 : run E g mi_X5_raiseBy d lm RT F pm_X5_raiseBy (n + 1) 60 L st h = exI E d lm RT F (run E g mi_X5_raiseBy d lm RT F pm_X5_raiseBy n) (2, ((0 : Nat) : Int), 0, 61, []) L st h := run_s rfl
theorem r_X5_raiseBy_61 : run E g mi_X5_raiseBy d lm RT F pm_X5_raiseBy (n + 1) 61 L st h = exI E d lm RT F (run E g mi_X5_raiseBy d lm RT F pm_X5_raiseBy n) (35, ((5 : Nat) : Int), ((0 : Nat) : Int), 64, []) L st h := run_s rfl
theorem r_X5_raiseBy_64 : run E g mi_X5_raiseBy d lm RT F pm_X5_raiseBy (n + 1) 64 L st h = exI E d lm RT F (run E g mi_X5_raiseBy d lm RT F pm_X5_raiseBy n) (1, ((1 : Nat) : Int), 0, 65, []) L st h := run_s rfl
theorem r_X5_raiseBy_65 : run E g mi_X5_raiseBy d lm RT F pm_X5_raiseBy (n + 1) 65 L st h = exI E d lm RT F (run E g mi_X5_raiseBy d lm RT F pm_X5_raiseBy n) (38, 0, 0, 66, []) L st h := run_s rfl
theorem r_X5_raiseBy_66 : run E g mi_X5_raiseBy d lm RT F pm_X5_raiseBy (n + 1) 66 L st h = exI E d lm RT F (run E g mi_X5_raiseBy d lm RT F pm_X5_raiseBy n) (9, 0, 0, 67, []) L st h := run_s rfl
theorem r_X5_raiseBy_67 : run E g mi_X5_raiseBy d lm RT F pm_X5_raiseBy (n + 1) 67 L st h = exI E d lm RT F (run E g mi_X5_raiseBy d lm RT F pm_X5_raiseBy n) (1, ((2 : Nat) : Int), 0, 68, []) L st h := run_s rfl
theorem r_X5_raiseBy_68 : run E g mi_X5_raiseBy d lm RT F pm_X5_raiseBy (n + 1) 68 L st h = exI E d lm RT F (run E g mi_X5_raiseBy d lm RT F pm_X5_raiseBy n) (10, 0, 0, 69, []) L st h := run_s rfl
theorem r_X5_raiseBy_69 : run E g mi_X5_raiseBy d lm RT F pm_X5_raiseBy (n + 1) 69 L st h = exI E d lm RT F (run E g mi_X5_raiseBy d lm RT F pm_X5_raiseBy n) (0, 1000, 0, 72, []) L st h := run_s rfl
theorem r_X5_raiseBy_72 : run E g mi_X5_raiseBy d lm RT F pm_X5_raiseBy (n + 1) 72 L st h = exI E d lm RT F (run E g mi_X5_raiseBy d lm RT F pm_X5_raiseBy n) (11, 0, 0, 73, []) L st h := run_s rfl
theorem r_X5_raiseBy_73 : run E g mi_X5_raiseBy d lm RT F pm_X5_raiseBy (n + 1) 73 L st h = exI E d lm RT F (run E g mi_X5_raiseBy d lm RT F pm_X5_raiseBy n) (8, 0, 0, 74, []) L st h := run_s rfl
theorem r_X5_raiseBy_74 : run E g mi_X5_raiseBy d lm RT F pm_X5_raiseBy (n + 1) 74 L st h = exI E d lm RT F (run E g mi_X5_raiseBy d lm RT F pm_X5_raiseBy n) (39, 0, 0, 75, []) L st h := run_s rfl
theorem r_X5_raiseBy_75 : run E g mi_X5_raiseBy d lm RT F pm_X5_raiseBy (n + 1) 75 L st h = exI E d lm RT F (run E g mi_X5_raiseBy d lm RT F pm_X5_raiseBy n) (2, ((4 : Nat) : Int), 0, 77, []) L st h := run_s rfl
theorem r_X5_raiseBy_77 : run E g mi_X5_raiseBy d lm RT F pm_X5_raiseBy (n + 1) 77 L st h = exI E d lm RT F (run E g mi_X5_raiseBy d lm RT F pm_X5_raiseBy n) (0, 1000, 0, 80, []) L st h := run_s rfl
theorem r_X5_raiseBy_80 : run E g mi_X5_raiseBy d lm RT F pm_X5_raiseBy (n + 1) 80 L st h = exI E d lm RT F (run E g mi_X5_raiseBy d lm RT F pm_X5_raiseBy n) (2, ((0 : Nat) : Int), 0, 81, []) L st h := run_s rfl
theorem r_X5_raiseBy_81 : run E g mi_X5_raiseBy d lm RT F pm_X5_raiseBy (n + 1) 81 L st h = exI E d lm RT F (run E g mi_X5_raiseBy d lm RT F pm_X5_raiseBy n) (35, ((5 : Nat) : Int), ((0 : Nat) : Int), 84, []) L st h := run_s rfl
theorem r_X5_raiseBy_84 : run E g mi_X5_raiseBy d lm RT F pm_X5_raiseBy (n + 1) 84 L st h = exI E d lm RT F (run E g mi_X5_raiseBy d lm RT F pm_X5_raiseBy n) (1, ((1 : Nat) : Int), 0, 85, []) L st h := run_s rfl
theorem r_X5_raiseBy_85 : run E g mi_X5_raiseBy d lm RT F pm_X5_raiseBy (n + 1) 85 L st h = exI E d lm RT F (run E g mi_X5_raiseBy d lm RT F pm_X5_raiseBy n) (38, 0, 0, 86, []) L st h := run_s rfl
theorem r_X5_raiseBy_86 : run E g mi_X5_raiseBy d lm RT F pm_X5_raiseBy (n + 1) 86 L st h = exI E d lm RT F (run E g mi_X5_raiseBy d lm RT F pm_X5_raiseBy n) (9, 0, 0, 87, []) L st h := run_s rfl
theorem r_X5_raiseBy_87 : run E g mi_X5_raiseBy d lm RT F pm_X5_raiseBy (n + 1) 87 L st h = exI E d lm RT F (run E g mi_X5_raiseBy d lm RT F pm_X5_raiseBy n) (1, ((5 : Nat) : Int), 0, 89, []) L st h := run_s rfl
theorem r_X5_raiseBy_89 : run E g mi_X5_raiseBy d lm RT F pm_X5_raiseBy (n + 1) 89 L st h = exI E d lm RT F (run E g mi_X5_raiseBy d lm RT F pm_X5_raiseBy n) (2, ((0 : Nat) : Int), 0, 90, []) L st h := run_s rfl
theorem r_X5_raiseBy_90 : run E g mi_X5_raiseBy d lm RT F pm_X5_raiseBy (n + 1) 90 L st h = exI E d lm RT F (run E g mi_X5_raiseBy d lm RT F pm_X5_raiseBy n) (35, ((5 : Nat) : Int), ((0 : Nat) : Int), 93, []) L st h := run_s rfl
theorem r_X5_raiseBy_93 : run E g mi_X5_raiseBy d lm RT F pm_X5_raiseBy (n + 1) 93 L st h = exI E d lm RT F (run E g mi_X5_raiseBy d lm RT F pm_X5_raiseBy n) (51, ((33 : Nat) : Int), ((4 : Nat) : Int), 96, [6]) L st h := run_s rfl
theorem r_X5_raiseBy_96 : run E g mi_X5_raiseBy d lm RT F pm_X5_raiseBy (n + 1) 96 L st h = exI E d lm RT F (run E g mi_X5_raiseBy d lm RT F pm_X5_raiseBy n) (2, ((0 : Nat) : Int), 0, 97, []) L st h := run_s rfl
theorem r_X5_raiseBy_97 : run E g mi_X5_raiseBy d lm RT F pm_X5_raiseBy (n + 1) 97 L st h = exI E d lm RT F (run E g mi_X5_raiseBy d lm RT F pm_X5_raiseBy n) (1, ((3 : Nat) : Int), 0, 98, []) L st h := run_s rfl
theorem r_X5_raiseBy_98 : run E g mi_X5_raiseBy d lm RT F pm_X5_raiseBy (n + 1) 98 L st h = exI E d lm RT F (run E g mi_X5_raiseBy d lm RT F pm_X5_raiseBy n) (51, ((24 : Nat) : Int), ((2 : Nat) : Int), 101, [5]) L st h := run_s rfl
theorem r_X5_raiseBy_101 : run E g mi_X5_raiseBy d lm RT F pm_X5_raiseBy (n + 1) 101 L st h = exI E d lm RT F (run E g mi_X5_raiseBy d lm RT F pm_X5_raiseBy n) (48, 4, 0, 0, []) L st h := run_s rfl
theorem e_X5_raiseBy (n : Nat) {pc : Nat} (hF : FOk E d F) (hx : run E g mi_X5_raiseBy d lm RT F pm_X5_raiseBy n pc L st h) : G E g mi_X5_raiseBy d lm RT pc L st h := run_sound hF pk_X5_raiseBy n pc L st h hx
end
def mi_X5_fadeBy : MI := (5, cX5_fadeBy, 7, 0, false)
theorem mo_X5_fadeBy : miOk mi_X5_fadeBy (mt 26) = true := by decide +kernel
def tl_X5_fadeBy : List (Nat × PT) := [(0, (2, ((0 : Nat) : Int), 0, 1, [])),
  (1, (35, ((5 : Nat) : Int), ((2 : Nat) : Int), 4, [])),
  (4, (45, ((145 : Nat) : Int), ((1 : Nat) : Int), 7, [])),
  (7, (4, ((4 : Nat) : Int), 0, 9, [])),
  (9, (0, 0, 0, 10, [])),
  (10, (4, ((5 : Nat) : Int), 0, 12, [])),
  (12, (1, ((5 : Nat) : Int), 0, 14, [])),
  (14, (0, 8, 0, 16, [])),
  (16, (32, 3, ((72 : Nat) : Int), 19, [])),
  (19, (2, ((3 : Nat) : Int), 0, 20, [])),
  (20, (35, ((6 : Nat) : Int), ((1 : Nat) : Int), 23, [])),
  (23, (1, ((5 : Nat) : Int), 0, 25, [])),
  (25, (2, ((0 : Nat) : Int), 0, 26, [])),
  (26, (35, ((5 : Nat) : Int), ((0 : Nat) : Int), 29, [])),
  (29, (1, ((5 : Nat) : Int), 0, 31, [])),
  (31, (38, 0, 0, 32, [])),
  (32, (39, 0, 0, 33, [])),
  (33, (2, ((3 : Nat) : Int), 0, 34, [])),
  (34, (35, ((6 : Nat) : Int), ((0 : Nat) : Int), 37, [])),
  (37, (1, ((5 : Nat) : Int), 0, 39, [])),
  (39, (2, ((0 : Nat) : Int), 0, 40, [])),
  (40, (35, ((5 : Nat) : Int), ((0 : Nat) : Int), 43, [])),
  (43, (1, ((5 : Nat) : Int), 0, 45, [])),
  (45, (38, 0, 0, 46, [])),
  (46, (25, 0, 0, 47, [])),
  (47, (0, 1000, 0, 50, [])),
  (50, (1, ((1 : Nat) : Int), 0, 51, [])),
  (51, (9, 0, 0, 52, [])),
  (52, (25, 0, 0, 53, [])),
  (53, (21, 0, 0, 54, [])),
  (54, (1, ((4 : Nat) : Int), 0, 56, [])),
  (56, (25, 0, 0, 57, [])),
  (57, (21, 0, 0, 58, [])),
  (58, (0, 1000, 0, 61, [])),
  (61, (1, ((1 : Nat) : Int), 0, 62, [])),
  (62, (10, 0, 0, 63, [])),
  (63, (25, 0, 0, 64, [])),
  (64, (19, 0, 0, 65, [])),
  (65, (39, 2, 0, 66, [])),
  (66, (7, ((5 : Nat) : Int), 1, 69, [])),
  (69, (33, ((12 : Nat) : Int), 0, 0, [])),
  (72, (2, ((3 : Nat) : Int), 0, 73, [])),
  (73, (0, 1000, 0, 76, [])),
  (76, (2, ((0 : Nat) : Int), 0, 77, [])),
  (77, (35, ((5 : Nat) : Int), ((2 : Nat) : Int), 80, [])),
  (80, (2, ((0 : Nat) : Int), 0, 81, [])),
  (81, (35, ((5 : Nat) : Int), ((0 : Nat) : Int), 84, [])),
  (84, (51, ((33 : Nat) : Int), ((4 : Nat) : Int), 87, [6])),
  (87, (2, ((0 : Nat) : Int), 0, 88, [])),
  (88, (1, ((2 : Nat) : Int), 0, 89, [])),
  (89, (51, ((24 : Nat) : Int), ((2 : Nat) : Int), 92, [5])),
  (92, (0, 0, 0, 93, [])),
  (93, (4, ((5 : Nat) : Int), 0, 95, [])),
  (95, (0, 0, 0, 96, [])),
  (96, (4, ((6 : Nat) : Int), 0, 98, [])),
  (98, (1, ((6 : Nat) : Int), 0, 100, [])),
  (100, (0, 8, 0, 102, [])),
  (102, (32, 3, ((143 : Nat) : Int), 105, [])),
  (105, (2, ((0 : Nat) : Int), 0, 106, [])),
  (106, (35, ((5 : Nat) : Int), ((2 : Nat) : Int), 109, [])),
  (109, (1, ((6 : Nat) : Int), 0, 111, [])),
  (111, (45, ((69 : Nat) : Int), ((2 : Nat) : Int), 114, [])),
  (114, (31, 0, ((137 : Nat) : Int), 117, [])),
  (117, (2, ((0 : Nat) : Int), 0, 118, [])),
  (118, (35, ((5 : Nat) : Int), ((0 : Nat) : Int), 121, [])),
  (121, (1, ((6 : Nat) : Int), 0, 123, [])),
  (123, (38, 0, 0, 124, [])),
  (124, (2, ((3 : Nat) : Int), 0, 125, [])),
  (125, (35, ((6 : Nat) : Int), ((1 : Nat) : Int), 128, [])),
  (128, (1, ((6 : Nat) : Int), 0, 130, [])),
  (130, (38, 0, 0, 131, [])),
  (131, (32, 0, ((137 : Nat) : Int), 134, [])),
  (134, (7, ((5 : Nat) : Int), 1, 137, [])),
  (137, (7, ((6 : Nat) : Int), 1, 140, [])),
  (140, (33, ((98 : Nat) : Int), 0, 0, [])),
  (143, (1, ((5 : Nat) : Int), 0, 145, [])),
  (145, (48, 0, 0, 0, []))]
theorem tk_X5_fadeBy_0 : tOk mi_X5_fadeBy ((tl_X5_fadeBy.drop 0).take 45) = true := by decide +kernel
theorem tk_X5_fadeBy_1 : tOk mi_X5_fadeBy ((tl_X5_fadeBy.drop 45).take 45) = true := by decide +kernel
theorem tk_X5_fadeBy : tOk mi_X5_fadeBy tl_X5_fadeBy = true := by
  refine tOk_cut 45 (by decide) (fun q hq => ?_)
  have hl : tl_X5_fadeBy.length = 77 := by decide +kernel
  rw [hl] at hq
  rcases (show q = 0 ∨ q = 1 by omega) with rfl | rfl
  · exact tk_X5_fadeBy_0
  · exact tk_X5_fadeBy_1
def pm_X5_fadeBy (pc : Nat) : Option PT := if [12, 98].contains pc then none else tl_X5_fadeBy.lookup pc
theorem pk_X5_fadeBy : ∀ pc pt, pm_X5_fadeBy pc = some pt → okPt mi_X5_fadeBy pc pt := fun pc pt h => tOk_pm tk_X5_fadeBy h
section
variable {E : ET} {g : GT} {d : Nat} {lm : Nat × Nat} {RT : RTy} {F : FT} {n : Nat} {L : LV} {st : List AV} {h : AH}
theorem r_X5_fadeBy_0 : run E g mi_X5_fadeBy d lm RT F pm_X5_fadeBy (n + 1) 0 L st h = exI E d lm RT F (run E g mi_X5_fadeBy d lm RT F pm_X5_fadeBy n) (2, ((0 : Nat) : Int), 0, 1, []) L st h := run_s rfl
theorem r_X5_fadeBy_1 : run E g mi_X5_fadeBy d lm RT F pm_X5_fadeBy (n + 1) 1 L st h = exI E d lm RT F (run E g mi_X5_fadeBy d lm RT F pm_X5_fadeBy n) (35, ((5 : Nat) : Int), ((2 : Nat) : Int), 4, []) L st h := run_s rfl
theorem r_X5_fadeBy_4 : run E g mi_X5_fadeBy d lm RT F pm_X5_fadeBy (n + 1) 4 L st h = exI E d lm RT F (run E g mi_X5_fadeBy d lm RT F pm_X5_fadeBy n) (45, ((145 : Nat) : Int), ((1 : Nat) : Int), 7, []) L st h := run_s rfl
theorem r_X5_fadeBy_7 : run E g mi_X5_fadeBy d lm RT F pm_X5_fadeBy (n + 1) 7 L st h = exI E d lm RT F (run E g mi_X5_fadeBy d lm RT F pm_X5_fadeBy n) (4, ((4 : Nat) : Int), 0, 9, []) L st h := run_s rfl
theorem r_X5_fadeBy_9 : run E g mi_X5_fadeBy d lm RT F pm_X5_fadeBy (n + 1) 9 L st h = exI E d lm RT F (run E g mi_X5_fadeBy d lm RT F pm_X5_fadeBy n) (0, 0, 0, 10, []) L st h := run_s rfl
theorem r_X5_fadeBy_10 : run E g mi_X5_fadeBy d lm RT F pm_X5_fadeBy (n + 1) 10 L st h = exI E d lm RT F (run E g mi_X5_fadeBy d lm RT F pm_X5_fadeBy n) (4, ((5 : Nat) : Int), 0, 12, []) L st h := run_s rfl
theorem r_X5_fadeBy_12 : run E g mi_X5_fadeBy d lm RT F pm_X5_fadeBy (n + 1) 12 L st h = G E g mi_X5_fadeBy d lm RT 12 L st h := run_c rfl
theorem q_X5_fadeBy_12 (n : Nat) (hF : FOk E d F) (hx : exI E d lm RT F (run E g mi_X5_fadeBy d lm RT F pm_X5_fadeBy n) (1, ((5 : Nat) : Int), 0, 14, []) L st h) : G E g mi_X5_fadeBy d lm RT 12 L st h := sstep hF (tOk_spec tk_X5_fadeBy (by decide +kernel)) (run_sound hF pk_X5_fadeBy n) hx
theorem r_X5_fadeBy_14 : run E g mi_X5_fadeBy d lm RT F pm_X5_fadeBy (n + 1) 14 L st h = exI E d lm RT F (run E g mi_X5_fadeBy d lm RT F pm_X5_fadeBy n) (0, 8, 0, 16, []) L st h := run_s rfl
theorem r_X5_fadeBy_16 : run E g mi_X5_fadeBy d lm RT F pm_X5_fadeBy (n + 1) 16 L st h = exI E d lm RT F (run E g mi_X5_fadeBy d lm RT F pm_X5_fadeBy n) (32, 3, ((72 : Nat) : Int), 19, []) L st h := run_s rfl
theorem r_X5_fadeBy_19 : run E g mi_X5_fadeBy d lm RT F pm_X5_fadeBy (n + 1) 19 L st h = exI E d lm RT F (run E g mi_X5_fadeBy d lm RT F pm_X5_fadeBy n) (2, ((3 : Nat) : Int), 0, 20, []) L st h := run_s rfl
theorem r_X5_fadeBy_20 : run E g mi_X5_fadeBy d lm RT F pm_X5_fadeBy (n + 1) 20 L st h = exI E d lm RT F (run E g mi_X5_fadeBy d lm RT F pm_X5_fadeBy n) (35, ((6 : Nat) : Int), ((1 : Nat) : Int), 23, []) L st h := run_s rfl
theorem r_X5_fadeBy_23 : run E g mi_X5_fadeBy d lm RT F pm_X5_fadeBy (n + 1) 23 L st h = exI E d lm RT F (run E g mi_X5_fadeBy d lm RT F pm_X5_fadeBy n) (1, ((5 : Nat) : Int), 0, 25, []) L st h := run_s rfl
theorem r_X5_fadeBy_25 : run E g mi_X5_fadeBy d lm RT F pm_X5_fadeBy (n + 1) 25 L st h = exI E d lm RT F (run E g mi_X5_fadeBy d lm RT F pm_X5_fadeBy n) (2, ((0 : Nat) : Int), 0, 26, []) L st h := run_s rfl
theorem r_X5_fadeBy_26 : run E g mi_X5_fadeBy d lm RT F pm_X5_fadeBy (n + 1) 26 L st h = exI E d lm RT F (run E g mi_X5_fadeBy d lm RT F pm_X5_fadeBy n) (35, ((5 : Nat) : Int), ((0 : Nat) : Int), 29, []) L st h := run_s rfl
theorem r_X5_fadeBy_29 : run E g mi_X5_fadeBy d lm RT F pm_X5_fadeBy (n + 1) 29 L st h = exI E d lm RT F (run E g mi_X5_fadeBy d lm RT F pm_X5_fadeBy n) (1, ((5 : Nat) : Int), 0, 31, []) L st h := run_s rfl
theorem r_X5_fadeBy_31 : run E g mi_X5_fadeBy d lm RT F pm_X5_fadeBy (n + 1) 31 L st h = exI E d lm RT F (run E g mi_X5_fadeBy d lm RT F pm_X5_fadeBy n) (38, 0, 0, 32, []) L st h := run_s rfl
theorem r_X5_fadeBy_32 : run E g mi_X5_fadeBy d lm RT F pm_X5_fadeBy (n + 1) 32 L st h = exI E d lm RT F (run E g mi_X5_fadeBy d lm RT F pm_X5_fadeBy n) (39, 0, 0, 33, []) L st h := run_s rfl
theorem r_X5_fadeBy_33 : run E g mi_X5_fadeBy d lm RT F pm_X5_fadeBy (n + 1) 33 L st h = exI E d lm RT F (run E g mi_X5_fadeBy d lm RT F pm_X5_fadeBy n) (2, ((3 : Nat) : Int), 0, 34, []) L st h := run_s rfl
theorem r_X5_fadeBy_34 : run E g mi_X5_fadeBy d lm RT F pm_X5_fadeBy (n + 1) 34 L st h = exI E d lm RT F (run E g mi_X5_fadeBy d lm RT F pm_X5_fadeBy n) (35, ((6 : Nat) : Int), ((0 : Nat) : Int), 37, []) L st h := run_s rfl
theorem r_X5_fadeBy_37 : run E g mi_X5_fadeBy d lm RT F pm_X5_fadeBy (n + 1) 37 L st h = exI E d lm RT F (run E g mi_X5_fadeBy d lm RT F pm_X5_fadeBy n) (1, ((5 : Nat) : Int), 0, 39, []) L st h := run_s rfl
theorem r_X5_fadeBy_39 : run E g mi_X5_fadeBy d lm RT F pm_X5_fadeBy (n + 1) 39 L st h = exI E d lm RT F (run E g mi_X5_fadeBy d lm RT F pm_X5_fadeBy n) (2, ((0 : Nat) : Int), 0, 40, []) L st h := run_s rfl
theorem r_X5_fadeBy_40 : run E g mi_X5_fadeBy d lm RT F pm_X5_fadeBy (n + 1) 40 L st h = exI E d lm RT F (run E g mi_X5_fadeBy d lm RT F pm_X5_fadeBy n) (35, ((5 : Nat) : Int), ((0 : Nat) : Int), 43, []) L st h := run_s rfl
theorem r_X5_fadeBy_43 : run E g mi_X5_fadeBy d lm RT F pm_X5_fadeBy (n + 1) 43 L st h = exI E d lm RT F (run E g mi_X5_fadeBy d lm RT F pm_X5_fadeBy n) (1, ((5 : Nat) : Int), 0, 45, []) L st h := run_s rfl
theorem r_X5_fadeBy_45 : run E g mi_X5_fadeBy d lm RT F pm_X5_fadeBy (n + 1) 45 L st h = exI E d lm RT F (run E g mi_X5_fadeBy d lm RT F pm_X5_fadeBy n) (38, 0, 0, 46, []) L st h := run_s rfl
theorem r_X5_fadeBy_46 : run E g mi_X5_fadeBy d lm RT F pm_X5_fadeBy (n + 1) 46 L st h = exI E d lm RT F (run E g mi_X5_fadeBy d lm RT F pm_X5_fadeBy n) (25, 0, 0, 47, []) L st h := run_s rfl
theorem r_X5_fadeBy_47 : run E g mi_X5_fadeBy d lm RT F pm_X5_fadeBy (n + 1) 47 L st h = exI E d lm RT F (run E g mi_X5_fadeBy d lm RT F pm_X5_fadeBy n) (0, 1000, 0, 50, []) L st h := run_s rfl
theorem r_X5_fadeBy_50 : run E g mi_X5_fadeBy d lm RT F pm_X5_fadeBy (n + 1) 50 L st h = exI E d lm RT F (run E g mi_X5_fadeBy d lm RT F pm_X5_fadeBy n) (1, ((1 : Nat) : Int), 0, 51, []) L st h := run_s rfl
theorem r_X5_fadeBy_51 : run E g mi_X5_fadeBy d lm RT F pm_X5_fadeBy (n + 1) 51 L st h = exI E d lm RT F (run E g mi_X5_fadeBy d lm RT F pm_X5_fadeBy n) (9, 0, 0, 52, []) L st h := run_s rfl
theorem r_X5_fadeBy_52 : run E g mi_X5_fadeBy d lm RT F pm_X5_fadeBy (n + 1) 52 L st h = exI E d lm RT F (run E g mi_X5_fadeBy d lm RT F pm_X5_fadeBy n) (25, 0, 0, 53, []) L st h := run_s rfl
theorem r_X5_fadeBy_53 : run E g mi_X5_fadeBy d lm RT F pm_X5_fadeBy (n + 1) 53 L st h = exI E d lm RT F (run E g mi_X5_fadeBy d lm RT F pm_X5_fadeBy n) (21, 0, 0, 54, []) L st h := run_s rfl
theorem r_X5_fadeBy_54 : run E g mi_X5_fadeBy d lm RT F pm_X5_fadeBy (n + 1) 54 L st h = exI E d lm RT F (run E g mi_X5_fadeBy d lm RT F pm_X5_fadeBy n) (1, ((4 : Nat) : Int), 0, 56, []) L st h := run_s rfl
theorem r_X5_fadeBy_56 : run E g mi_X5_fadeBy d lm RT F pm_X5_fadeBy (n + 1) 56 L st h = exI E d lm RT F (run E g mi_X5_fadeBy d lm RT F pm_X5_fadeBy n) (25, 0, 0, 57, []) L st h := run_s rfl
theorem r_X5_fadeBy_57 : run E g mi_X5_fadeBy d lm RT F pm_X5_fadeBy (n + 1) 57 L st h = exI E d lm RT F (run E g mi_X5_fadeBy d lm RT F pm_X5_fadeBy n) (21, 0, 0, 58, []) L st h := run_s rfl
theorem r_X5_fadeBy_58 : run E g mi_X5_fadeBy d lm RT F pm_X5_fadeBy (n + 1) 58 L st h = exI E d lm RT F (run E g mi_X5_fadeBy d lm RT F pm_X5_fadeBy n) (0, 1000, 0, 61, []) L st h := run_s rfl
theorem r_X5_fadeBy_61 : run E g mi_X5_fadeBy d lm RT F pm_X5_fadeBy (n + 1) 61 L st h = exI E d lm RT F (run E g mi_X5_fadeBy d lm RT F pm_X5_fadeBy n) (1, ((1 : Nat) : Int), 0, 62, []) L st h := run_s rfl
theorem r_X5_fadeBy_62 : run E g mi_X5_fadeBy d lm RT F pm_X5_fadeBy (n + 1) 62 L st h = exI E d lm RT F (run E g mi_X5_fadeBy d lm RT F pm_X5_fadeBy n) (10, 0, 0, 63, []) L st h := run_s rfl
theorem r_X5_fadeBy_63 : run E g mi_X5_fadeBy d lm RT F pm_X5_fadeBy (n + 1) 63 L st h = exI E d lm RT F (run E g mi_X5_fadeBy d lm RT F pm_X5_fadeBy n) (25, 0, 0, 64, []) L st h := run_s rfl
theorem r_X5_fadeBy_64 : run E g mi_X5_fadeBy d lm RT F pm_X5_fadeBy (n + 1) 64 L st h = exI E d lm RT F (run E g mi_X5_fadeBy d lm RT F pm_X5_fadeBy n) (19, 0, 0, 65, []) L st h := run_s rfl
theorem r_X5_fadeBy_65 : run E g mi_X5_fadeBy d lm RT F pm_X5_fadeBy (n + 1) 65 L st h = exI E d lm RT F (run E g mi_X5_fadeBy d lm RT F pm_X5_fadeBy n) (39, 2, 0, 66, []) L st h := run_s rfl
theorem r_X5_fadeBy_66 : run E g mi_X5_fadeBy d lm RT F pm_X5_fadeBy (n + 1) 66 L st h = exI E d lm RT F (run E g mi_X5_fadeBy d lm RT F pm_X5_fadeBy n) (7, ((5 : Nat) : Int), 1, 69, []) L st h := run_s rfl
theorem r_X5_fadeBy_69 : run E g mi_X5_fadeBy d lm RT F pm_X5_fadeBy (n + 1) 69 L st h = exI E d lm RT F (run E g mi_X5_fadeBy d lm RT F pm_X5_fadeBy n) (33, ((12 : Nat) : Int), 0, 0, []) L st h := run_s rfl
theorem r_X5_fadeBy_72 : run E g mi_X5_fadeBy d lm RT F pm_X5_fadeBy (n + 1) 72 L st h = exI E d lm RT F (run E g mi_X5_fadeBy d lm RT F pm_X5_fadeBy n) (2, ((3 : Nat) : Int), 0, 73, []) L st h := run_s rfl
theorem r_X5_fadeBy_73 : run E g mi_X5_fadeBy d lm RT F pm_X5_fadeBy (n + 1) 73 L st h = exI E d lm RT F (run E g mi_X5_fadeBy d lm RT F pm_X5_fadeBy n) (0, 1000, 0, 76, []) L st h := run_s rfl
theorem r_X5_fadeBy_76 : run E g mi_X5_fadeBy d lm RT F pm_X5_fadeBy (n + 1) 76 L st h = exI E d lm RT F (run E g mi_X5_fadeBy d lm RT F pm_X5_fadeBy n) (2, ((0 : Nat) : Int), 0, 77, []) L st h := run_s rfl
theorem r_X5_fadeBy_77 : run E g mi_X5_fadeBy d lm RT F pm_X5_fadeBy (n + 1) 77 L st h = exI E d lm RT F (run E g mi_X5_fadeBy d lm RT F pm_X5_fadeBy n) (35, ((5 : Nat) : Int), ((2 : Nat) : Int), 80, []) L st h := run_s rfl
theorem r_X5_fadeBy_80 : run E g mi_X5_fadeBy d lm RT F pm_X5_fadeBy (n + 1) 80 L st h = exI E d lm RT F (run E g mi_X5_fadeBy d lm RT F pm_X5_fadeBy n) (2, ((0 : Nat) : Int), 0, 81, []) L st h := run_s rfl
theorem r_X5_fadeBy_81 : run E g mi_X5_fadeBy d lm RT F pm_X5_fadeBy (n + 1) 81 L st h = exI E d lm RT F (run E g mi_X5_fadeBy d lm RT F pm_X5_fadeBy n) (35, ((5 : Nat) : Int), ((0 : Nat) : Int), 84, []) L st h := run_s rfl
theorem r_X5_fadeBy_84 : run E g mi_X5_fadeBy d lm RT F pm_X5_fadeBy (n + 1) 84 L st h = exI E d lm RT F (run E g mi_X5_fadeBy d lm RT F pm_X5_fadeBy n) (51, ((33 : Nat) : Int), ((4 : Nat) : Int), 87, [6]) L st h := run_s rfl
theorem r_X5_fadeBy_87 : run E g mi_X5_fadeBy d lm RT F pm_X5_fadeBy (n + 1) 87 L st h = exI E d lm RT F (run E g mi_X5_fadeBy d lm RT F pm_X5_fadeBy n) (2, ((0 : Nat) : Int), 0, 88, []) L st h := run_s rfl
theorem r_X5_fadeBy_88 : run E g mi_X5_fadeBy d lm RT F pm_X5_fadeBy (n + 1) 88 L st h = exI E d lm RT F (run E g mi_X5_fadeBy d lm RT F pm_X5_fadeBy n) (1, ((2 : Nat) : Int), 0, 89, []) L st h := run_s rfl
theorem r_X5_fadeBy_89 : run E g mi_X5_fadeBy d lm RT F pm_X5_fadeBy (n + 1) 89 L st h = exI E d lm RT F (run E g mi_X5_fadeBy d lm RT F pm_X5_fadeBy n) (51, ((24 : Nat) : Int), ((2 : Nat) : Int), 92, [5]) L st h := run_s rfl
theorem r_X5_fadeBy_92 : run E g mi_X5_fadeBy d lm RT F pm_X5_fadeBy (n + 1) 92 L st h = exI E d lm RT F (run E g mi_X5_fadeBy d lm RT F pm_X5_fadeBy n) (0, 0, 0, 93, []) L st h := run_s rfl
theorem r_X5_fadeBy_93 : run E g mi_X5_fadeBy d lm RT F pm_X5_fadeBy (n + 1) 93 L st h = exI E d lm RT F (run E g mi_X5_fadeBy d lm RT F pm_X5_fadeBy n) (4, ((5 : Nat) : Int), 0, 95, []) L st h := run_s rfl
theorem r_X5_fadeBy_95 : run E g mi_X5_fadeBy d lm RT F pm_X5_fadeBy (n + 1) 95 L st h = exI E d lm RT F (run E g mi_X5_fadeBy d lm RT F pm_X5_fadeBy n) (0, 0, 0, 96, []) L st h := run_s rfl
theorem r_X5_fadeBy_96 : run E g mi_X5_fadeBy d lm RT F pm_X5_fadeBy (n + 1) 96 L st h = exI E d lm RT F (run E g mi_X5_fadeBy d lm RT F pm_X5_fadeBy n) (4, ((6 : Nat) : Int), 0, 98, []) L st h := run_s rfl
theorem r_X5_fadeBy_98 : run E g mi_X5_fadeBy d lm RT F pm_X5_fadeBy (n + 1) 98 L st h = G E g mi_X5_fadeBy d lm RT 98 L st h := run_c rfl
theorem q_X5_fadeBy_98 (n : Nat) (hF : FOk E d F) (hx : exI E d lm RT F (run E g mi_X5_fadeBy d lm RT F pm_X5_fadeBy n) (1, ((6 : Nat) : Int), 0, 100, []) L st h) : G E g mi_X5_fadeBy d lm RT 98 L st h := sstep hF (tOk_spec tk_X5_fadeBy (by decide +kernel)) (run_sound hF pk_X5_fadeBy n) hx
theorem r_X5_fadeBy_100 : run E g mi_X5_fadeBy d lm RT F pm_X5_fadeBy (n + 1) 100 L st h = exI E d lm RT F (run E g mi_X5_fadeBy d lm RT F pm_X5_fadeBy n) (0, 8, 0, 102, []) L st h := run_s rfl
theorem r_X5_fadeBy_102 : run E g mi_X5_fadeBy d lm RT F pm_X5_fadeBy (n + 1) 102 L st h = exI E d lm RT F (run E g mi_X5_fadeBy d lm RT F pm_X5_fadeBy n) (32, 3, ((143 : Nat) : Int), 105, []) L st h := run_s rfl
theorem r_X5_fadeBy_105 : run E g mi_X5_fadeBy d lm RT F pm_X5_fadeBy (n + 1) 105 L st h = exI E d lm RT F (run E g mi_X5_fadeBy d lm RT F pm_X5_fadeBy n) (2, ((0 : Nat) : Int), 0, 106, []) L st h := run_s rfl
theorem r_X5_fadeBy_106 : run E g mi_X5_fadeBy d lm RT F pm_X5_fadeBy (n + 1) 106 L st h = exI E d lm RT F (run E g mi_X5_fadeBy d lm RT F pm_X5_fadeBy n) (35, ((5 : Nat) : Int), ((2 : Nat) : Int), 109, []) L st h := run_s rfl
theorem r_X5_fadeBy_109 : run E g mi_X5_fadeBy d lm RT F pm_X5_fadeBy (n + 1) 109 L st h = exI E d lm RT F (run E g mi_X5_fadeBy d lm RT F pm_X5_fadeBy n) (1, ((6 : Nat) : Int), 0, 111, []) L st h := run_s rfl
theorem r_X5_fadeBy_111 : run E g mi_X5_fadeBy d lm RT F pm_X5_fadeBy (n + 1) 111 L st h = exI E d lm RT F (run E g mi_X5_fadeBy d lm RT F pm_X5_fadeBy n) (45, ((69 : Nat) : Int), ((2 : Nat) : Int), 114, []) L st h := run_s rfl
theorem r_X5_fadeBy_114 : run E g mi_X5_fadeBy d lm RT F pm_X5_fadeBy (n + 1) 114 L st h = exI E d lm RT F (run E g mi_X5_fadeBy d lm RT F pm_X5_fadeBy n) (31, 0, ((137 : Nat) : Int), 117, []) L st h := run_s rfl
theorem r_X5_fadeBy_117 : run E g mi_X5_fadeBy d lm RT F pm_X5_fadeBy (n + 1) 117 L st h = exI E d lm RT F (run E g mi_X5_fadeBy d lm RT F pm_X5_fadeBy n) (2, ((0 : Nat) : Int), 0, 118, []) L st h := run_s rfl
theorem r_X5_fadeBy_118 : run E g mi_X5_fadeBy d lm RT F pm_X5_fadeBy (n + 1) 118 L st h = exI E d lm RT F (run E g mi_X5_fadeBy d lm RT F pm_X5_fadeBy n) (35, ((5 : Nat) : Int), ((0 : Nat) : Int), 121, []) L st h := run_s rfl
theorem r_X5_fadeBy_121 : run E g mi_X5_fadeBy d lm RT F pm_X5_fadeBy (n + 1) 121 L st h = exI E d lm RT F (run E g mi_X5_fadeBy d lm RT F pm_X5_fadeBy n) (1, ((6 : Nat) : Int), 0, 123, []) L st h := run_s rfl
theorem r_X5_fadeBy_123 : run E g mi_X5_fadeBy d lm RT F pm_X5_fadeBy (n + 1) 123 L st h = exI E d lm RT F (run E g mi_X5_fadeBy d lm RT F pm_X5_fadeBy n) (38, 0, 0, 124, []) L st h := run_s rfl
theorem r_X5_fadeBy_124 : run E g mi_X5_fadeBy d lm RT F pm_X5_fadeBy (n + 1) 124 L st h = exI E d lm RT F (run E g mi_X5_fadeBy d lm RT F pm_X5_fadeBy n) (2, ((3 : Nat) : Int), 0, 125, []) L st h := run_s rfl
theorem r_X5_fadeBy_125 : run E g mi_X5_fadeBy d lm RT F pm_X5_fadeBy (n + 1) 125 L st h = exI E d lm RT F (run E g mi_X5_fadeBy d lm RT F pm_X5_fadeBy n) (35, ((6 : Nat) : Int), ((1 : Nat) : Int), 128, []) L st h := run_s rfl
theorem r_X5_fadeBy_128 : run E g mi_X5_fadeBy d lm RT F pm_X5_fadeBy (n + 1) 128 L st h = exI E d lm RT F (run E g mi_X5_fadeBy d lm RT F pm_X5_fadeBy n) (1, ((6 : Nat) : Int), 0, 130, []) L st h := run_s rfl
theorem r_X5_fadeBy_130 : run E g mi_X5_fadeBy d lm RT F pm_X5_fadeBy (n + 1) 130 L st h = exI E d lm RT F (run E g mi_X5_fadeBy d lm RT F pm_X5_fadeBy n) (38, 0, 0, 131, []) L st h := run_s rfl
theorem r_X5_fadeBy_131 : run E g mi_X5_fadeBy d lm RT F pm_X5_fadeBy (n + 1) 131 L st h = exI E d lm RT F (run E g mi_X5_fadeBy d lm RT F pm_X5_fadeBy n) (32, 0, ((137 : Nat) : Int), 134, []) L st h := run_s rfl
theorem r_X5_fadeBy_134 : run E g mi_X5_fadeBy d lm RT F pm_X5_fadeBy (n + 1) 134 L st h = exI E d lm RT F (run E g mi_X5_fadeBy d lm RT F pm_X5_fadeBy n) (7, ((5 : Nat) : Int), 1, 137, []) L st h := run_s rfl
theorem r_X5_fadeBy_137 : run E g mi_X5_fadeBy d lm RT F pm_X5_fadeBy (n + 1) 137 L st h = exI E d lm RT F (run E g mi_X5_fadeBy d lm RT F pm_X5_fadeBy n) (7, ((6 : Nat) : Int), 1, 140, []) L st h := run_s rfl
theorem r_X5_fadeBy_140 : run E g mi_X5_fadeBy d lm RT F pm_X5_fadeBy (n + 1) 140 L st h = exI E d lm RT F (run E g mi_X5_fadeBy d lm RT F pm_X5_fadeBy n) (33, ((98 : Nat) : Int), 0, 0, []) L st h := run_s rfl
theorem r_X5_fadeBy_143 : run E g mi_X5_fadeBy d lm RT F pm_X5_fadeBy (n + 1) 143 L st h = exI E d lm RT F (run E g mi_X5_fadeBy d lm RT F pm_X5_fadeBy n) (1, ((5 : Nat) : Int), 0, 145, []) L st h := run_s rfl
theorem r_X5_fadeBy_145 : run E g mi_X5_fadeBy d lm RT F pm_X5_fadeBy (n + 1) 145 L st h = exI E d lm RT F (run E g mi_X5_fadeBy d lm RT F pm_X5_fadeBy n) (48, 0, 0, 0, []) L st h := run_s rfl
theorem e_X5_fadeBy (n : Nat) {pc : Nat} (hF : FOk E d F) (hx : run E g mi_X5_fadeBy d lm RT F pm_X5_fadeBy n pc L st h) : G E g mi_X5_fadeBy d lm RT pc L st h := run_sound hF pk_X5_fadeBy n pc L st h hx
end
def mi_X5_note : MI := (5, cX5_note, 2, 4, false)
theorem mo_X5_note : miOk mi_X5_note (mt 27) = true := by decide +kernel
def tl_X5_note : List (Nat × PT) := [(0, (2, ((0 : Nat) : Int), 0, 1, [])),
  (1, (35, ((5 : Nat) : Int), ((1 : Nat) : Int), 4, [])),
  (4, (2, ((0 : Nat) : Int), 0, 5, [])),
  (5, (35, ((5 : Nat) : Int), ((4 : Nat) : Int), 8, [])),
  (8, (1, ((1 : Nat) : Int), 0, 9, [])),
  (9, (39, 0, 0, 10, [])),
  (10, (2, ((0 : Nat) : Int), 0, 11, [])),
  (11, (2, ((0 : Nat) : Int), 0, 12, [])),
  (12, (35, ((5 : Nat) : Int), ((4 : Nat) : Int), 15, [])),
  (15, (0, 1, 0, 16, [])),
  (16, (8, 0, 0, 17, [])),
  (17, (0, 8, 0, 19, [])),
  (19, (12, 0, 0, 20, [])),
  (20, (36, ((5 : Nat) : Int), ((4 : Nat) : Int), 23, [0])),
  (23, (2, ((0 : Nat) : Int), 0, 24, [])),
  (24, (2, ((0 : Nat) : Int), 0, 25, [])),
  (25, (35, ((5 : Nat) : Int), ((3 : Nat) : Int), 28, [])),
  (28, (0, 1, 0, 29, [])),
  (29, (8, 0, 0, 30, [])),
  (30, (0, 8, 0, 32, [])),
  (32, (45, ((147 : Nat) : Int), ((2 : Nat) : Int), 35, [])),
  (35, (36, ((5 : Nat) : Int), ((3 : Nat) : Int), 38, [0])),
  (38, (48, 4, 0, 0, []))]
theorem tk_X5_note : tOk mi_X5_note tl_X5_note = true := by decide +kernel
def pm_X5_note (pc : Nat) : Option PT := if [].contains pc then none else tl_X5_note.lookup pc
theorem pk_X5_note : ∀ pc pt, pm_X5_note pc = some pt → okPt mi_X5_note pc pt := fun pc pt h => tOk_pm tk_X5_note h
section
variable {E : ET} {g : GT} {d : Nat} {lm : Nat × Nat} {RT : RTy} {F : FT} {n : Nat} {L : LV} {st : List AV} {h : AH}
theorem r_X5_note_0 : run E g mi_X5_note d lm RT F pm_X5_note (n + 1) 0 L st h = exI E d lm RT F (run E g mi_X5_note d lm RT F pm_X5_note n) (2, ((0 : Nat) : Int), 0, 1, []) L st h := run_s rfl
theorem r_X5_note_1 : run E g mi_X5_note d lm RT F pm_X5_note (n + 1) 1 L st h = exI E d lm RT F (run E g mi_X5_note d lm RT F pm_X5_note n) (35, ((5 : Nat) : Int), ((1 : Nat) : Int), 4, []) L st h := run_s rfl
theorem r_X5_note_4 : run E g mi_X5_note d lm RT F pm_X5_note (n + 1) 4 L st h = exI E d lm RT F (run E g mi_X5_note d lm RT F pm_X5_note n) (2, ((0 : Nat) : Int), 0, 5, []) L st h := run_s rfl
theorem r_X5_note_5 : run E g mi_X5_note d lm RT F pm_X5_note (n + 1) 5 L st h = exI E d lm RT F (run E g mi_X5_note d lm RT F pm_X5_note n) (35, ((5 : Nat) : Int), ((4 : Nat) : Int), 8, []) L st h := run_s rfl
theorem r_X5_note_8 : run E g mi_X5_note d lm RT F pm_X5_note (n + 1) 8 L st h = exI E d lm RT F (run E g mi_X5_note d lm RT F pm_X5_note n) (1, ((1 : Nat) : Int), 0, 9, []) L st h := run_s rfl
theorem r_X5_note_9 : run E g mi_X5_note d lm RT F pm_X5_note (n + 1) 9 L st h = exI E d lm RT F (run E g mi_X5_note d lm RT F pm_X5_note n) (39, 0, 0, 10, []) L st h := run_s rfl
theorem r_X5_note_10 : run E g mi_X5_note d lm RT F pm_X5_note (n + 1) 10 L st h = exI E d lm RT F (run E g mi_X5_note d lm RT F pm_X5_note n) (2, ((0 : Nat) : Int), 0, 11, []) L st h := run_s rfl
theorem r_X5_note_11 : run E g mi_X5_note d lm RT F pm_X5_note (n + 1) 11 L st h = exI E d lm RT F (run E g mi_X5_note d lm RT F pm_X5_note n) (2, ((0 : Nat) : Int), 0, 12, []) L st h := run_s rfl
theorem r_X5_note_12 : run E g mi_X5_note d lm RT F pm_X5_note (n + 1) 12 L st h = exI E d lm RT F (run E g mi_X5_note d lm RT F pm_X5_note n) (35, ((5 : Nat) : Int), ((4 : Nat) : Int), 15, []) L st h := run_s rfl
theorem r_X5_note_15 : run E g mi_X5_note d lm RT F pm_X5_note (n + 1) 15 L st h = exI E d lm RT F (run E g mi_X5_note d lm RT F pm_X5_note n) (0, 1, 0, 16, []) L st h := run_s rfl
theorem r_X5_note_16 : run E g mi_X5_note d lm RT F pm_X5_note (n + 1) 16 L st h = exI E d lm RT F (run E g mi_X5_note d lm RT F pm_X5_note n) (8, 0, 0, 17, []) L st h := run_s rfl
theorem r_X5_note_17 : run E g mi_X5_note d lm RT F pm_X5_note (n + 1) 17 L st h = exI E d lm RT F (run E g mi_X5_note d lm RT F pm_X5_note n) (0, 8, 0, 19, []) L st h := run_s rfl
theorem r_X5_note_19 : run E g mi_X5_note d lm RT F pm_X5_note (n + 1) 19 L st h = exI E d lm RT F (run E g mi_X5_note d lm RT F pm_X5_note n) (12, 0, 0, 20, []) L st h := run_s rfl
theorem r_X5_note_20 : run E g mi_X5_note d lm RT F pm_X5_note (n + 1) 20 L st h = exI E d lm RT F (run E g mi_X5_note d lm RT F pm_X5_note n) (36, ((5 : Nat) : Int), ((4 : Nat) : Int), 23, [0]) L st h := run_s rfl
theorem r_X5_note_23 : run E g mi_X5_note d lm RT F pm_X5_note (n + 1) 23 L st h = exI E d lm RT F (run E g mi_X5_note d lm RT F pm_X5_note n) (2, ((0 : Nat) : Int), 0, 24, []) L st h := run_s rfl
theorem r_X5_note_24 : run E g mi_X5_note d lm RT F pm_X5_note (n + 1) 24 L st h = exI E d lm RT F (run E g mi_X5_note d lm RT F pm_X5_note n) (2, ((0 : Nat) : Int), 0, 25, []) L st h := run_s rfl
theorem r_X5_note_25 : run E g mi_X5_note d lm RT F pm_X5_note (n + 1) 25 L st h = exI E d lm RT F (run E g mi_X5_note d lm RT F pm_X5_note n) (35, ((5 : Nat) : Int), ((3 : Nat) : Int), 28, []) L st h := run_s rfl
theorem r_X5_note_28 : run E g mi_X5_note d lm RT F pm_X5_note (n + 1) 28 L st h = exI E d lm RT F (run E g mi_X5_note d lm RT F pm_X5_note n) (0, 1, 0, 29, []) L st h := run_s rfl
theorem r_X5_note_29 : run E g mi_X5_note d lm RT F pm_X5_note (n + 1) 29 L st h = exI E d lm RT F (run E g mi_X5_note d lm RT F pm_X5_note n) (8, 0, 0, 30, []) L st h := run_s rfl
theorem r_X5_note_30 : run E g mi_X5_note d lm RT F pm_X5_note (n + 1) 30 L st h = exI E d lm RT F (run E g mi_X5_note d lm RT F pm_X5_note n) (0, 8, 0, 32, []) L st h := run_s rfl
theorem r_X5_note_32 : run E g mi_X5_note d lm RT F pm_X5_note (n + 1) 32 L st h = exI E d lm RT F (run E g mi_X5_note d lm RT F pm_X5_note n) (45, ((147 : Nat) : Int), ((2 : Nat) : Int), 35, []) L st h := run_s rfl
theorem r_X5_note_35 : run E g mi_X5_note d lm RT F pm_X5_note (n + 1) 35 L st h = exI E d lm RT F (run E g mi_X5_note d lm RT F pm_X5_note n) (36, ((5 : Nat) : Int), ((3 : Nat) : Int), 38, [0]) L st h := run_s rfl
theorem r_X5_note_38 : run E g mi_X5_note d lm RT F pm_X5_note (n + 1) 38 L st h = exI E d lm RT F (run E g mi_X5_note d lm RT F pm_X5_note n) (48, 4, 0, 0, []) L st h := run_s rfl
theorem e_X5_note (n : Nat) {pc : Nat} (hF : FOk E d F) (hx : run E g mi_X5_note d lm RT F pm_X5_note n pc L st h) : G E g mi_X5_note d lm RT pc L st h := run_sound hF pk_X5_note n pc L st h hx
end
