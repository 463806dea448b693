def mi_X8_share : MI := (8, cX8_share, 4, 0, false)
theorem mo_X8_share : miOk mi_X8_share (mt 49) = true := by decide +kernel
def tl_X8_share : List (Nat × PT) := [(0, (1, ((1 : Nat) : Int), 0, 1, [])),
  (1, (45, ((65 : Nat) : Int), ((1 : Nat) : Int), 4, [])),
  (4, (31, 0, ((21 : Nat) : Int), 7, [])),
  (7, (1, ((2 : Nat) : Int), 0, 8, [])),
  (8, (45, ((65 : Nat) : Int), ((1 : Nat) : Int), 11, [])),
  (11, (31, 0, ((21 : Nat) : Int), 14, [])),
  (14, (1, ((3 : Nat) : Int), 0, 15, [])),
  (15, (45, ((65 : Nat) : Int), ((1 : Nat) : Int), 18, [])),
  (18, (31, 1, ((23 : Nat) : Int), 21, [])),
  (21, (0, (-1), 0, 22, [])),
  (22, (48, 0, 0, 0, [])),
  (23, (1, ((1 : Nat) : Int), 0, 24, [])),
  (24, (1, ((2 : Nat) : Int), 0, 25, [])),
  (25, (32, 1, ((31 : Nat) : Int), 28, [])),
  (28, (0, (-3), 0, 30, [])),
  (30, (48, 0, 0, 0, [])),
  (31, (2, ((0 : Nat) : Int), 0, 32, [])),
  (32, (35, ((8 : Nat) : Int), ((0 : Nat) : Int), 35, [])),
  (35, (35, ((3 : Nat) : Int), ((3 : Nat) : Int), 38, [])),
  (38, (1, ((1 : Nat) : Int), 0, 39, [])),
  (39, (38, 0, 0, 40, [])),
  (40, (1, ((3 : Nat) : Int), 0, 41, [])),
  (41, (45, ((69 : Nat) : Int), ((2 : Nat) : Int), 44, [])),
  (44, (31, 0, ((61 : Nat) : Int), 47, [])),
  (47, (2, ((0 : Nat) : Int), 0, 48, [])),
  (48, (1, ((1 : Nat) : Int), 0, 49, [])),
  (49, (1, ((2 : Nat) : Int), 0, 50, [])),
  (50, (52, ((70 : Nat) : Int), ((3 : Nat) : Int), 53, [8])),
  (53, (35, ((5 : Nat) : Int), ((0 : Nat) : Int), 56, [])),
  (56, (1, ((3 : Nat) : Int), 0, 57, [])),
  (57, (38, 0, 0, 58, [])),
  (58, (33, ((63 : Nat) : Int), 0, 0, [])),
  (61, (0, (-9), 0, 63, [])),
  (63, (48, 0, 0, 0, []))]
theorem tk_X8_share : tOk mi_X8_share tl_X8_share = true := by decide +kernel
def pm_X8_share (pc : Nat) : Option PT := if [].contains pc then none else tl_X8_share.lookup pc
theorem pk_X8_share : ∀ pc pt, pm_X8_share pc = some pt → okPt mi_X8_share pc pt := fun pc pt h => tOk_pm tk_X8_share h
section
variable {E : ET} {g : GT} {d : Nat} {lm : Nat × Nat} {RT : RTy} {F : FT} {n : Nat} {L : LV} {st : List AV} {h : AH}
theorem r_X8_share_0 : run E g mi_X8_share d lm RT F pm_X8_share (n + 1) 0 L st h = exI E d lm RT F (run E g mi_X8_share d lm RT F pm_X8_share n) (1, ((1 : Nat) : Int), 0, 1, []) L st h := run_s rfl
theorem r_X8_share_1 : run E g mi_X8_share d lm RT F pm_X8_share (n + 1) 1 L st h = exI E d lm RT F (run E g mi_X8_share d lm RT F pm_X8_share n) (45, ((65 : Nat) : Int), ((1 : Nat) : Int), 4, []) L st h := run_s rfl
theorem r_X8_share_4 : run E g mi_X8_share d lm RT F pm_X8_share (n + 1) 4 L st h = exI E d lm RT F (run E g mi_X8_share d lm RT F pm_X8_share n) (31, 0, ((21 : Nat) : Int), 7, []) L st h := run_s rfl
theorem r_X8_share_7 : run E g mi_X8_share d lm RT F pm_X8_share (n + 1) 7 L st h = exI E d lm RT F (run E g mi_X8_share d lm RT F pm_X8_share n) (1, ((2 : Nat) : Int), 0, 8, []) L st h := run_s rfl
theorem r_X8_share_8 : run E g mi_X8_share d lm RT F pm_X8_share (n + 1) 8 L st h = exI E d lm RT F (run E g mi_X8_share d lm RT F pm_X8_share n) (45, ((65 : Nat) : Int), ((1 : Nat) : Int), 11, []) L st h := run_s rfl
theorem r_X8_share_11 : run E g mi_X8_share d lm RT F pm_X8_share (n + 1) 11 L st h = exI E d lm RT F (run E g mi_X8_share d lm RT F pm_X8_share n) (31, 0, ((21 : Nat) : Int), 14, []) L st h := run_s rfl
theorem r_X8_share_14 : run E g mi_X8_share d lm RT F pm_X8_share (n + 1) 14 L st h = exI E d lm RT F (run E g mi_X8_share d lm RT F pm_X8_share n) (1, ((3 : Nat) : Int), 0, 15, []) L st h := run_s rfl
theorem r_X8_share_15 : run E g mi_X8_share d lm RT F pm_X8_share (n + 1) 15 L st h = exI E d lm RT F (run E g mi_X8_share d lm RT F pm_X8_share n) (45, ((65 : Nat) : Int), ((1 : Nat) : Int), 18, []) L st h := run_s rfl
theorem r_X8_share_18 : run E g mi_X8_share d lm RT F pm_X8_share (n + 1) 18 L st h = exI E d lm RT F (run E g mi_X8_share d lm RT F pm_X8_share n) (31, 1, ((23 : Nat) : Int), 21, []) L st h := run_s rfl
theorem r_X8_share_21 : run E g mi_X8_share d lm RT F pm_X8_share (n + 1) 21 L st h = exI E d lm RT F (run E g mi_X8_share d lm RT F pm_X8_share n) (0, (-1), 0, 22, []) L st h := run_s rfl
theorem r_X8_share_22 : run E g mi_X8_share d lm RT F pm_X8_share (n + 1) 22 L st h = exI E d lm RT F (run E g mi_X8_share d lm RT F pm_X8_share n) (48, 0, 0, 0, []) L st h := run_s rfl
theorem r_X8_share_23 : run E g mi_X8_share d lm RT F pm_X8_share (n + 1) 23 L st h = exI E d lm RT F (run E g mi_X8_share d lm RT F pm_X8_share n) (1, ((1 : Nat) : Int), 0, 24, []) L st h := run_s rfl
theorem r_X8_share_24 : run E g mi_X8_share d lm RT F pm_X8_share (n + 1) 24 L st h = exI E d lm RT F (run E g mi_X8_share d lm RT F pm_X8_share n) (1, ((2 : Nat) : Int), 0, 25, []) L st h := run_s rfl
theorem r_X8_share_25 : run E g mi_X8_share d lm RT F pm_X8_share (n + 1) 25 L st h = exI E d lm RT F (run E g mi_X8_share d lm RT F pm_X8_share n) (32, 1, ((31 : Nat) : Int), 28, []) L st h := run_s rfl
theorem r_X8_share_28 : run E g mi_X8_share d lm RT F pm_X8_share (n + 1) 28 L st h = exI E d lm RT F (run E g mi_X8_share d lm RT F pm_X8_share n) (0, (-3), 0, 30, []) L st h := run_s rfl
theorem r_X8_share_30 : run E g mi_X8_share d lm RT F pm_X8_share (n + 1) 30 L st h = exI E d lm RT F (run E g mi_X8_share d lm RT F pm_X8_share n) (48, 0, 0, 0, []) L st h := run_s rfl
theorem r_X8_share_31 : run E g mi_X8_share d lm RT F pm_X8_share (n + 1) 31 L st h = exI E d lm RT F (run E g mi_X8_share d lm RT F pm_X8_share n) (2, ((0 : Nat) : Int), 0, 32, []) L st h := run_s rfl
theorem r_X8_share_32 : run E g mi_X8_share d lm RT F pm_X8_share (n + 1) 32 L st h = exI E d lm RT F (run E g mi_X8_share d lm RT F pm_X8_share n) (35, ((8 : Nat) : Int), ((0 : Nat) : Int), 35, []) L st h := run_s rfl
theorem r_X8_share_35 : run E g mi_X8_share d lm RT F pm_X8_share (n + 1) 35 L st h = exI E d lm RT F (run E g mi_X8_share d lm RT F pm_X8_share n) (35, ((3 : Nat) : Int), ((3 : Nat) : Int), 38, []) L st h := run_s rfl
theorem r_X8_share_38 : run E g mi_X8_share d lm RT F pm_X8_share (n + 1) 38 L st h = exI E d lm RT F (run E g mi_X8_share d lm RT F pm_X8_share n) (1, ((1 : Nat) : Int), 0, 39, []) L st h := run_s rfl
theorem r_X8_share_39 : run E g mi_X8_share d lm RT F pm_X8_share (n + 1) 39 L st h = exI E d lm RT F (run E g mi_X8_share d lm RT F pm_X8_share n) (38, 0, 0, 40, []) L st h := run_s rfl
theorem r_X8_share_40 : run E g mi_X8_share d lm RT F pm_X8_share (n + 1) 40 L st h = exI E d lm RT F (run E g mi_X8_share d lm RT F pm_X8_share n) (1, ((3 : Nat) : Int), 0, 41, []) L st h := run_s rfl
theorem r_X8_share_41 : run E g mi_X8_share d lm RT F pm_X8_share (n + 1) 41 L st h = exI E d lm RT F (run E g mi_X8_share d lm RT F pm_X8_share n) (45, ((69 : Nat) : Int), ((2 : Nat) : Int), 44, []) L st h := run_s rfl
theorem r_X8_share_44 : run E g mi_X8_share d lm RT F pm_X8_share (n + 1) 44 L st h = exI E d lm RT F (run E g mi_X8_share d lm RT F pm_X8_share n) (31, 0, ((61 : Nat) : Int), 47, []) L st h := run_s rfl
theorem r_X8_share_47 : run E g mi_X8_share d lm RT F pm_X8_share (n + 1) 47 L st h = exI E d lm RT F (run E g mi_X8_share d lm RT F pm_X8_share n) (2, ((0 : Nat) : Int), 0, 48, []) L st h := run_s rfl
theorem r_X8_share_48 : run E g mi_X8_share d lm RT F pm_X8_share (n + 1) 48 L st h = exI E d lm RT F (run E g mi_X8_share d lm RT F pm_X8_share n) (1, ((1 : Nat) : Int), 0, 49, []) L st h := run_s rfl
theorem r_X8_share_49 : run E g mi_X8_share d lm RT F pm_X8_share (n + 1) 49 L st h = exI E d lm RT F (run E g mi_X8_share d lm RT F pm_X8_share n) (1, ((2 : Nat) : Int), 0, 50, []) L st h := run_s rfl
theorem r_X8_share_50 : run E g mi_X8_share d lm RT F pm_X8_share (n + 1) 50 L st h = exI E d lm RT F (run E g mi_X8_share d lm RT F pm_X8_share n) (52, ((70 : Nat) : Int), ((3 : Nat) : Int), 53, [8]) L st h := run_s rfl
theorem r_X8_share_53 : run E g mi_X8_share d lm RT F pm_X8_share (n + 1) 53 L st h = exI E d lm RT F (run E g mi_X8_share d lm RT F pm_X8_share n) (35, ((5 : Nat) : Int), ((0 : Nat) : Int), 56, []) L st h := run_s rfl
theorem r_X8_share_56 : run E g mi_X8_share d lm RT F pm_X8_share (n + 1) 56 L st h = exI E d lm RT F (run E g mi_X8_share d lm RT F pm_X8_share n) (1, ((3 : Nat) : Int), 0, 57, []) L st h := run_s rfl
theorem r_X8_share_57 : run E g mi_X8_share d lm RT F pm_X8_share (n + 1) 57 L st h = exI E d lm RT F (run E g mi_X8_share d lm RT F pm_X8_share n) (38, 0, 0, 58, []) L st h := run_s rfl
theorem r_X8_share_58 : run E g mi_X8_share d lm RT F pm_X8_share (n + 1) 58 L st h = exI E d lm RT F (run E g mi_X8_share d lm RT F pm_X8_share n) (33, ((63 : Nat) : Int), 0, 0, []) L st h := run_s rfl
theorem r_X8_share_61 : run E g mi_X8_share d lm RT F pm_X8_share (n + 1) 61 L st h = exI E d lm RT F (run E g mi_X8_share d lm RT F pm_X8_share n) (0, (-9), 0, 63, []) L st h := run_s rfl
theorem r_X8_share_63 : run E g mi_X8_share d lm RT F pm_X8_share (n + 1) 63 L st h = exI E d lm RT F (run E g mi_X8_share d lm RT F pm_X8_share n) (48, 0, 0, 0, []) L st h := run_s rfl
theorem e_X8_share (n : Nat) {pc : Nat} (hF : FOk E d F) (hx : run E g mi_X8_share d lm RT F pm_X8_share n pc L st h) : G E g mi_X8_share d lm RT pc L st h := run_sound hF pk_X8_share n pc L st h hx
end
def mi_X8_floor : MI := (8, cX8_floor, 3, 0, false)
theorem mo_X8_floor : miOk mi_X8_floor (mt 50) = true := by decide +kernel
def tl_X8_floor : List (Nat × PT) := [(0, (1, ((1 : Nat) : Int), 0, 1, [])),
  (1, (31, 2, ((10 : Nat) : Int), 4, [])),
  (4, (1, ((1 : Nat) : Int), 0, 5, [])),
  (5, (0, 100, 0, 7, [])),
  (7, (32, 5, ((13 : Nat) : Int), 10, [])),
  (10, (0, (-2), 0, 12, [])),
  (12, (48, 0, 0, 0, [])),
  (13, (2, ((0 : Nat) : Int), 0, 14, [])),
  (14, (35, ((8 : Nat) : Int), ((8 : Nat) : Int), 17, [])),
  (17, (4, ((2 : Nat) : Int), 0, 18, [])),
  (18, (2, ((0 : Nat) : Int), 0, 19, [])),
  (19, (1, ((1 : Nat) : Int), 0, 20, [])),
  (20, (36, ((8 : Nat) : Int), ((8 : Nat) : Int), 23, [0])),
  (23, (1, ((2 : Nat) : Int), 0, 24, [])),
  (24, (48, 0, 0, 0, []))]
theorem tk_X8_floor : tOk mi_X8_floor tl_X8_floor = true := by decide +kernel
def pm_X8_floor (pc : Nat) : Option PT := if [].contains pc then none else tl_X8_floor.lookup pc
theorem pk_X8_floor : ∀ pc pt, pm_X8_floor pc = some pt → okPt mi_X8_floor pc pt := fun pc pt h => tOk_pm tk_X8_floor h
section
variable {E : ET} {g : GT} {d : Nat} {lm : Nat × Nat} {RT : RTy} {F : FT} {n : Nat} {L : LV} {st : List AV} {h : AH}
theorem r_X8_floor_0 : run E g mi_X8_floor d lm RT F pm_X8_floor (n + 1) 0 L st h = exI E d lm RT F (run E g mi_X8_floor d lm RT F pm_X8_floor n) (1, ((1 : Nat) : Int), 0, 1, []) L st h := run_s rfl
theorem r_X8_floor_1 : run E g mi_X8_floor d lm RT F pm_X8_floor (n + 1) 1 L st h = exI E d lm RT F (run E g mi_X8_floor d lm RT F pm_X8_floor n) (31, 2, ((10 : Nat) : Int), 4, []) L st h := run_s rfl
theorem r_X8_floor_4 : run E g mi_X8_floor d lm RT F pm_X8_floor (n + 1) 4 L st h = exI E d lm RT F (run E g mi_X8_floor d lm RT F pm_X8_floor n) (1, ((1 : Nat) : Int), 0, 5, []) L st h := run_s rfl
theorem r_X8_floor_5 : run E g mi_X8_floor d lm RT F pm_X8_floor (n + 1) 5 L st h = exI E d lm RT F (run E g mi_X8_floor d lm RT F pm_X8_floor n) (0, 100, 0, 7, []) L st h := run_s rfl
theorem r_X8_floor_7 : run E g mi_X8_floor d lm RT F pm_X8_floor (n + 1) 7 L st h = exI E d lm RT F (run E g mi_X8_floor d lm RT F pm_X8_floor n) (32, 5, ((13 : Nat) : Int), 10, []) L st h := run_s rfl
theorem r_X8_floor_10 : run E g mi_X8_floor d lm RT F pm_X8_floor (n + 1) 10 L st h = exI E d lm RT F (run E g mi_X8_floor d lm RT F pm_X8_floor n) (0, (-2), 0, 12, []) L st h := run_s rfl
theorem r_X8_floor_12 : run E g mi_X8_floor d lm RT F pm_X8_floor (n + 1) 12 L st h = exI E d lm RT F (run E g mi_X8_floor d lm RT F pm_X8_floor n) (48, 0, 0, 0, []) L st h := run_s rfl
theorem r_X8_floor_13 : run E g mi_X8_floor d lm RT F pm_X8_floor (n + 1) 13 L st h = exI E d lm RT F (run E g mi_X8_floor d lm RT F pm_X8_floor n) (2, ((0 : Nat) : Int), 0, 14, []) L st h := run_s rfl
theorem r_X8_floor_14 : run E g mi_X8_floor d lm RT F pm_X8_floor (n + 1) 14 L st h = exI E d lm RT F (run E g mi_X8_floor d lm RT F pm_X8_floor n) (35, ((8 : Nat) : Int), ((8 : Nat) : Int), 17, []) L st h := run_s rfl
theorem r_X8_floor_17 : run E g mi_X8_floor d lm RT F pm_X8_floor (n + 1) 17 L st h = exI E d lm RT F (run E g mi_X8_floor d lm RT F pm_X8_floor n) (4, ((2 : Nat) : Int), 0, 18, []) L st h := run_s rfl
theorem r_X8_floor_18 : run E g mi_X8_floor d lm RT F pm_X8_floor (n + 1) 18 L st h = exI E d lm RT F (run E g mi_X8_floor d lm RT F pm_X8_floor n) (2, ((0 : Nat) : Int), 0, 19, []) L st h := run_s rfl
theorem r_X8_floor_19 : run E g mi_X8_floor d lm RT F pm_X8_floor (n + 1) 19 L st h = exI E d lm RT F (run E g mi_X8_floor d lm RT F pm_X8_floor n) (1, ((1 : Nat) : Int), 0, 20, []) L st h := run_s rfl
theorem r_X8_floor_20 : run E g mi_X8_floor d lm RT F pm_X8_floor (n + 1) 20 L st h = exI E d lm RT F (run E g mi_X8_floor d lm RT F pm_X8_floor n) (36, ((8 : Nat) : Int), ((8 : Nat) : Int), 23, [0]) L st h := run_s rfl
theorem r_X8_floor_23 : run E g mi_X8_floor d lm RT F pm_X8_floor (n + 1) 23 L st h = exI E d lm RT F (run E g mi_X8_floor d lm RT F pm_X8_floor n) (1, ((2 : Nat) : Int), 0, 24, []) L st h := run_s rfl
theorem r_X8_floor_24 : run E g mi_X8_floor d lm RT F pm_X8_floor (n + 1) 24 L st h = exI E d lm RT F (run E g mi_X8_floor d lm RT F pm_X8_floor n) (48, 0, 0, 0, []) L st h := run_s rfl
theorem e_X8_floor (n : Nat) {pc : Nat} (hF : FOk E d F) (hx : run E g mi_X8_floor d lm RT F pm_X8_floor n pc L st h) : G E g mi_X8_floor d lm RT pc L st h := run_sound hF pk_X8_floor n pc L st h hx
end
def mi_X8_gain : MI := (8, cX8_gain, 3, 0, false)
theorem mo_X8_gain : miOk mi_X8_gain (mt 51) = true := by decide +kernel
def tl_X8_gain : List (Nat × PT) := [(0, (1, ((1 : Nat) : Int), 0, 1, [])),
  (1, (45, ((67 : Nat) : Int), ((1 : Nat) : Int), 4, [])),
  (4, (31, 1, ((10 : Nat) : Int), 7, [])),
  (7, (0, (-2), 0, 9, [])),
  (9, (48, 0, 0, 0, [])),
  (10, (2, ((0 : Nat) : Int), 0, 11, [])),
  (11, (35, ((8 : Nat) : Int), ((9 : Nat) : Int), 14, [])),
  (14, (4, ((2 : Nat) : Int), 0, 15, [])),
  (15, (2, ((0 : Nat) : Int), 0, 16, [])),
  (16, (1, ((1 : Nat) : Int), 0, 17, [])),
  (17, (36, ((8 : Nat) : Int), ((9 : Nat) : Int), 20, [0])),
  (20, (1, ((2 : Nat) : Int), 0, 21, [])),
  (21, (48, 0, 0, 0, []))]
theorem tk_X8_gain : tOk mi_X8_gain tl_X8_gain = true := by decide +kernel
def pm_X8_gain (pc : Nat) : Option PT := if [].contains pc then none else tl_X8_gain.lookup pc
theorem pk_X8_gain : ∀ pc pt, pm_X8_gain pc = some pt → okPt mi_X8_gain pc pt := fun pc pt h => tOk_pm tk_X8_gain h
section
variable {E : ET} {g : GT} {d : Nat} {lm : Nat × Nat} {RT : RTy} {F : FT} {n : Nat} {L : LV} {st : List AV} {h : AH}
theorem r_X8_gain_0 : run E g mi_X8_gain d lm RT F pm_X8_gain (n + 1) 0 L st h = exI E d lm RT F (run E g mi_X8_gain d lm RT F pm_X8_gain n) (1, ((1 : Nat) : Int), 0, 1, []) L st h := run_s rfl
theorem r_X8_gain_1 : run E g mi_X8_gain d lm RT F pm_X8_gain (n + 1) 1 L st h = exI E d lm RT F (run E g mi_X8_gain d lm RT F pm_X8_gain n) (45, ((67 : Nat) : Int), ((1 : Nat) : Int), 4, []) L st h := run_s rfl
theorem r_X8_gain_4 : run E g mi_X8_gain d lm RT F pm_X8_gain (n + 1) 4 L st h = exI E d lm RT F (run E g mi_X8_gain d lm RT F pm_X8_gain n) (31, 1, ((10 : Nat) : Int), 7, []) L st h := run_s rfl
theorem r_X8_gain_7 : run E g mi_X8_gain d lm RT F pm_X8_gain (n + 1) 7 L st h = exI E d lm RT F (run E g mi_X8_gain d lm RT F pm_X8_gain n) (0, (-2), 0, 9, []) L st h := run_s rfl
theorem r_X8_gain_9 : run E g mi_X8_gain d lm RT F pm_X8_gain (n + 1) 9 L st h = exI E d lm RT F (run E g mi_X8_gain d lm RT F pm_X8_gain n) (48, 0, 0, 0, []) L st h := run_s rfl
theorem r_X8_gain_10 : run E g mi_X8_gain d lm RT F pm_X8_gain (n + 1) 10 L st h = exI E d lm RT F (run E g mi_X8_gain d lm RT F pm_X8_gain n) (2, ((0 : Nat) : Int), 0, 11, []) L st h := run_s rfl
theorem r_X8_gain_11 : run E g mi_X8_gain d lm RT F pm_X8_gain (n + 1) 11 L st h = exI E d lm RT F (run E g mi_X8_gain d lm RT F pm_X8_gain n) (35, ((8 : Nat) : Int), ((9 : Nat) : Int), 14, []) L st h := run_s rfl
theorem r_X8_gain_14 : run E g mi_X8_gain d lm RT F pm_X8_gain (n + 1) 14 L st h = exI E d lm RT F (run E g mi_X8_gain d lm RT F pm_X8_gain n) (4, ((2 : Nat) : Int), 0, 15, []) L st h := run_s rfl
theorem r_X8_gain_15 : run E g mi_X8_gain d lm RT F pm_X8_gain (n + 1) 15 L st h = exI E d lm RT F (run E g mi_X8_gain d lm RT F pm_X8_gain n) (2, ((0 : Nat) : Int), 0, 16, []) L st h := run_s rfl
theorem r_X8_gain_16 : run E g mi_X8_gain d lm RT F pm_X8_gain (n + 1) 16 L st h = exI E d lm RT F (run E g mi_X8_gain d lm RT F pm_X8_gain n) (1, ((1 : Nat) : Int), 0, 17, []) L st h := run_s rfl
theorem r_X8_gain_17 : run E g mi_X8_gain d lm RT F pm_X8_gain (n + 1) 17 L st h = exI E d lm RT F (run E g mi_X8_gain d lm RT F pm_X8_gain n) (36, ((8 : Nat) : Int), ((9 : Nat) : Int), 20, [0]) L st h := run_s rfl
theorem r_X8_gain_20 : run E g mi_X8_gain d lm RT F pm_X8_gain (n + 1) 20 L st h = exI E d lm RT F (run E g mi_X8_gain d lm RT F pm_X8_gain n) (1, ((2 : Nat) : Int), 0, 21, []) L st h := run_s rfl
theorem r_X8_gain_21 : run E g mi_X8_gain d lm RT F pm_X8_gain (n + 1) 21 L st h = exI E d lm RT F (run E g mi_X8_gain d lm RT F pm_X8_gain n) (48, 0, 0, 0, []) L st h := run_s rfl
theorem e_X8_gain (n : Nat) {pc : Nat} (hF : FOk E d F) (hx : run E g mi_X8_gain d lm RT F pm_X8_gain n pc L st h) : G E g mi_X8_gain d lm RT pc L st h := run_sound hF pk_X8_gain n pc L st h hx
end
def mi_X8_fade : MI := (8, cX8_fade, 5, 0, false)
theorem mo_X8_fade : miOk mi_X8_fade (mt 52) = true := by decide +kernel
def tl_X8_fade : List (Nat × PT) := [(0, (1, ((1 : Nat) : Int), 0, 1, [])),
  (1, (45, ((67 : Nat) : Int), ((1 : Nat) : Int), 4, [])),
  (4, (31, 1, ((10 : Nat) : Int), 7, [])),
  (7, (0, (-2), 0, 9, [])),
  (9, (48, 0, 0, 0, [])),
  (10, (0, 0, 0, 11, [])),
  (11, (4, ((2 : Nat) : Int), 0, 12, [])),
  (12, (0, 0, 0, 13, [])),
  (13, (4, ((3 : Nat) : Int), 0, 14, [])),
  (14, (1, ((3 : Nat) : Int), 0, 15, [])),
  (15, (0, 8, 0, 17, [])),
  (17, (32, 3, ((70 : Nat) : Int), 20, [])),
  (20, (0, 0, 0, 21, [])),
  (21, (4, ((4 : Nat) : Int), 0, 23, [])),
  (23, (1, ((4 : Nat) : Int), 0, 25, [])),
  (25, (0, 8, 0, 27, [])),
  (27, (32, 3, ((64 : Nat) : Int), 30, [])),
  (30, (1, ((3 : Nat) : Int), 0, 31, [])),
  (31, (1, ((4 : Nat) : Int), 0, 33, [])),
  (33, (32, 0, ((58 : Nat) : Int), 36, [])),
  (36, (1, ((2 : Nat) : Int), 0, 37, [])),
  (37, (2, ((0 : Nat) : Int), 0, 38, [])),
  (38, (1, ((3 : Nat) : Int), 0, 39, [])),
  (39, (1, ((4 : Nat) : Int), 0, 41, [])),
  (41, (52, ((70 : Nat) : Int), ((3 : Nat) : Int), 44, [8])),
  (44, (1, ((1 : Nat) : Int), 0, 45, [])),
  (45, (2, ((0 : Nat) : Int), 0, 46, [])),
  (46, (35, ((8 : Nat) : Int), ((8 : Nat) : Int), 49, [])),
  (49, (2, ((0 : Nat) : Int), 0, 50, [])),
  (50, (35, ((8 : Nat) : Int), ((2 : Nat) : Int), 53, [])),
  (53, (51, ((26 : Nat) : Int), ((4 : Nat) : Int), 56, [5])),
  (56, (8, 0, 0, 57, [])),
  (57, (4, ((2 : Nat) : Int), 0, 58, [])),
  (58, (7, ((4 : Nat) : Int), 1, 61, [])),
  (61, (33, ((23 : Nat) : Int), 0, 0, [])),
  (64, (7, ((3 : Nat) : Int), 1, 67, [])),
  (67, (33, ((14 : Nat) : Int), 0, 0, [])),
  (70, (1, ((2 : Nat) : Int), 0, 71, [])),
  (71, (48, 0, 0, 0, []))]
theorem tk_X8_fade : tOk mi_X8_fade tl_X8_fade = true := by decide +kernel
def pm_X8_fade (pc : Nat) : Option PT := if [14, 23].contains pc then none else tl_X8_fade.lookup pc
theorem pk_X8_fade : ∀ pc pt, pm_X8_fade pc = some pt → okPt mi_X8_fade pc pt := fun pc pt h => tOk_pm tk_X8_fade h
section
variable {E : ET} {g : GT} {d : Nat} {lm : Nat × Nat} {RT : RTy} {F : FT} {n : Nat} {L : LV} {st : List AV} {h : AH}
theorem r_X8_fade_0 : run E g mi_X8_fade d lm RT F pm_X8_fade (n + 1) 0 L st h = exI E d lm RT F (run E g mi_X8_fade d lm RT F pm_X8_fade n) (1, ((1 : Nat) : Int), 0, 1, []) L st h := run_s rfl
theorem r_X8_fade_1 : run E g mi_X8_fade d lm RT F pm_X8_fade (n + 1) 1 L st h = exI E d lm RT F (run E g mi_X8_fade d lm RT F pm_X8_fade n) (45, ((67 : Nat) : Int), ((1 : Nat) : Int), 4, []) L st h := run_s rfl
theorem r_X8_fade_4 : run E g mi_X8_fade d lm RT F pm_X8_fade (n + 1) 4 L st h = exI E d lm RT F (run E g mi_X8_fade d lm RT F pm_X8_fade n) (31, 1, ((10 : Nat) : Int), 7, []) L st h := run_s rfl
theorem r_X8_fade_7 : run E g mi_X8_fade d lm RT F pm_X8_fade (n + 1) 7 L st h = exI E d lm RT F (run E g mi_X8_fade d lm RT F pm_X8_fade n) (0, (-2), 0, 9, []) L st h := run_s rfl
theorem r_X8_fade_9 : run E g mi_X8_fade d lm RT F pm_X8_fade (n + 1) 9 L st h = exI E d lm RT F (run E g mi_X8_fade d lm RT F pm_X8_fade n) (48, 0, 0, 0, []) L st h := run_s rfl
theorem r_X8_fade_10 : run E g mi_X8_fade d lm RT F pm_X8_fade (n + 1) 10 L st h = exI E d lm RT F (run E g mi_X8_fade d lm RT F pm_X8_fade n) (0, 0, 0, 11, []) L st h := run_s rfl
theorem r_X8_fade_11 : run E g mi_X8_fade d lm RT F pm_X8_fade (n + 1) 11 L st h = exI E d lm RT F (run E g mi_X8_fade d lm RT F pm_X8_fade n) (4, ((2 : Nat) : Int), 0, 12, []) L st h := run_s rfl
theorem r_X8_fade_12 : run E g mi_X8_fade d lm RT F pm_X8_fade (n + 1) 12 L st h = exI E d lm RT F (run E g mi_X8_fade d lm RT F pm_X8_fade n) (0, 0, 0, 13, []) L st h := run_s rfl
theorem r_X8_fade_13 : run E g mi_X8_fade d lm RT F pm_X8_fade (n + 1) 13 L st h = exI E d lm RT F (run E g mi_X8_fade d lm RT F pm_X8_fade n) (4, ((3 : Nat) : Int), 0, 14, []) L st h := run_s rfl
theorem r_X8_fade_14 : run E g mi_X8_fade d lm RT F pm_X8_fade (n + 1) 14 L st h = G E g mi_X8_fade d lm RT 14 L st h := run_c rfl
theorem q_X8_fade_14 (n : Nat) (hF : FOk E d F) (hx : exI E d lm RT F (run E g mi_X8_fade d lm RT F pm_X8_fade n) (1, ((3 : Nat) : Int), 0, 15, []) L st h) : G E g mi_X8_fade d lm RT 14 L st h := sstep hF (tOk_spec tk_X8_fade (by decide +kernel)) (run_sound hF pk_X8_fade n) hx
theorem r_X8_fade_15 : run E g mi_X8_fade d lm RT F pm_X8_fade (n + 1) 15 L st h = exI E d lm RT F (run E g mi_X8_fade d lm RT F pm_X8_fade n) (0, 8, 0, 17, []) L st h := run_s rfl
theorem r_X8_fade_17 : run E g mi_X8_fade d lm RT F pm_X8_fade (n + 1) 17 L st h = exI E d lm RT F (run E g mi_X8_fade d lm RT F pm_X8_fade n) (32, 3, ((70 : Nat) : Int), 20, []) L st h := run_s rfl
theorem r_X8_fade_20 : run E g mi_X8_fade d lm RT F pm_X8_fade (n + 1) 20 L st h = exI E d lm RT F (run E g mi_X8_fade d lm RT F pm_X8_fade n) (0, 0, 0, 21, []) L st h := run_s rfl
theorem r_X8_fade_21 : run E g mi_X8_fade d lm RT F pm_X8_fade (n + 1) 21 L st h = exI E d lm RT F (run E g mi_X8_fade d lm RT F pm_X8_fade n) (4, ((4 : Nat) : Int), 0, 23, []) L st h := run_s rfl
theorem r_X8_fade_23 : run E g mi_X8_fade d lm RT F pm_X8_fade (n + 1) 23 L st h = G E g mi_X8_fade d lm RT 23 L st h := run_c rfl
theorem q_X8_fade_23 (n : Nat) (hF : FOk E d F) (hx : exI E d lm RT F (run E g mi_X8_fade d lm RT F pm_X8_fade n) (1, ((4 : Nat) : Int), 0, 25, []) L st h) : G E g mi_X8_fade d lm RT 23 L st h := sstep hF (tOk_spec tk_X8_fade (by decide +kernel)) (run_sound hF pk_X8_fade n) hx
theorem r_X8_fade_25 : run E g mi_X8_fade d lm RT F pm_X8_fade (n + 1) 25 L st h = exI E d lm RT F (run E g mi_X8_fade d lm RT F pm_X8_fade n) (0, 8, 0, 27, []) L st h := run_s rfl
theorem r_X8_fade_27 : run E g mi_X8_fade d lm RT F pm_X8_fade (n + 1) 27 L st h = exI E d lm RT F (run E g mi_X8_fade d lm RT F pm_X8_fade n) (32, 3, ((64 : Nat) : Int), 30, []) L st h := run_s rfl
theorem r_X8_fade_30 : run E g mi_X8_fade d lm RT F pm_X8_fade (n + 1) 30 L st h = exI E d lm RT F (run E g mi_X8_fade d lm RT F pm_X8_fade n) (1, ((3 : Nat) : Int), 0, 31, []) L st h := run_s rfl
theorem r_X8_fade_31 : run E g mi_X8_fade d lm RT F pm_X8_fade (n + 1) 31 L st h = exI E d lm RT F (run E g mi_X8_fade d lm RT F pm_X8_fade n) (1, ((4 : Nat) : Int), 0, 33, []) L st h := run_s rfl
theorem r_X8_fade_33 : run E g mi_X8_fade d lm RT F pm_X8_fade (n + 1) 33 L st h = exI E d lm RT F (run E g mi_X8_fade d lm RT F pm_X8_fade n) (32, 0, ((58 : Nat) : Int), 36, []) L st h := run_s rfl
theorem r_X8_fade_36 : run E g mi_X8_fade d lm RT F pm_X8_fade (n + 1) 36 L st h = exI E d lm RT F (run E g mi_X8_fade d lm RT F pm_X8_fade n) (1, ((2 : Nat) : Int), 0, 37, []) L st h := run_s rfl
theorem r_X8_fade_37 : run E g mi_X8_fade d lm RT F pm_X8_fade (n + 1) 37 L st h = exI E d lm RT F (run E g mi_X8_fade d lm RT F pm_X8_fade n) (2, ((0 : Nat) : Int), 0, 38, []) L st h := run_s rfl
theorem r_X8_fade_38 : run E g mi_X8_fade d lm RT F pm_X8_fade (n + 1) 38 L st h = exI E d lm RT F (run E g mi_X8_fade d lm RT F pm_X8_fade n) (1, ((3 : Nat) : Int), 0, 39, []) L st h := run_s rfl
theorem r_X8_fade_39 : run E g mi_X8_fade d lm RT F pm_X8_fade (n + 1) 39 L st h = exI E d lm RT F (run E g mi_X8_fade d lm RT F pm_X8_fade n) (1, ((4 : Nat) : Int), 0, 41, []) L st h := run_s rfl
theorem r_X8_fade_41 : run E g mi_X8_fade d lm RT F pm_X8_fade (n + 1) 41 L st h = exI E d lm RT F (run E g mi_X8_fade d lm RT F pm_X8_fade n) (52, ((70 : Nat) : Int), ((3 : Nat) : Int), 44, [8]) L st h := run_s rfl
theorem r_X8_fade_44 : run E g mi_X8_fade d lm RT F pm_X8_fade (n + 1) 44 L st h = exI E d lm RT F (run E g mi_X8_fade d lm RT F pm_X8_fade n) (1, ((1 : Nat) : Int), 0, 45, []) L st h := run_s rfl
theorem r_X8_fade_45 : run E g mi_X8_fade d lm RT F pm_X8_fade (n + 1) 45 L st h = exI E d lm RT F (run E g mi_X8_fade d lm RT F pm_X8_fade n) (2, ((0 : Nat) : Int), 0, 46, []) L st h := run_s rfl
theorem r_X8_fade_46 : run E g mi_X8_fade d lm RT F pm_X8_fade (n + 1) 46 L st h = exI E d lm RT F (run E g mi_X8_fade d lm RT F pm_X8_fade n) (35, ((8 : Nat) : Int), ((8 : Nat) : Int), 49, []) L st h := run_s rfl
theorem r_X8_fade_49 : run E g mi_X8_fade d lm RT F pm_X8_fade (n + 1) 49 L st h = exI E d lm RT F (run E g mi_X8_fade d lm RT F pm_X8_fade n) (2, ((0 : Nat) : Int), 0, 50, []) L st h := run_s rfl
theorem r_X8_fade_50 : run E g mi_X8_fade d lm RT F pm_X8_fade (n + 1) 50 L st h = exI E d lm RT F (run E g mi_X8_fade d lm RT F pm_X8_fade n) (35, ((8 : Nat) : Int), ((2 : Nat) : Int), 53, []) L st h := run_s rfl
theorem r_X8_fade_53 : run E g mi_X8_fade d lm RT F pm_X8_fade (n + 1) 53 L st h = exI E d lm RT F (run E g mi_X8_fade d lm RT F pm_X8_fade n) (51, ((26 : Nat) : Int), ((4 : Nat) : Int), 56, [5]) L st h := run_s rfl
theorem r_X8_fade_56 : run E g mi_X8_fade d lm RT F pm_X8_fade (n + 1) 56 L st h = exI E d lm RT F (run E g mi_X8_fade d lm RT F pm_X8_fade n) (8, 0, 0, 57, []) L st h := run_s rfl
theorem r_X8_fade_57 : run E g mi_X8_fade d lm RT F pm_X8_fade (n + 1) 57 L st h = exI E d lm RT F (run E g mi_X8_fade d lm RT F pm_X8_fade n) (4, ((2 : Nat) : Int), 0, 58, []) L st h := run_s rfl
theorem r_X8_fade_58 : run E g mi_X8_fade d lm RT F pm_X8_fade (n + 1) 58 L st h = exI E d lm RT F (run E g mi_X8_fade d lm RT F pm_X8_fade n) (7, ((4 : Nat) : Int), 1, 61, []) L st h := run_s rfl
theorem r_X8_fade_61 : run E g mi_X8_fade d lm RT F pm_X8_fade (n + 1) 61 L st h = exI E d lm RT F (run E g mi_X8_fade d lm RT F pm_X8_fade n) (33, ((23 : Nat) : Int), 0, 0, []) L st h := run_s rfl
theorem r_X8_fade_64 : run E g mi_X8_fade d lm RT F pm_X8_fade (n + 1) 64 L st h = exI E d lm RT F (run E g mi_X8_fade d lm RT F pm_X8_fade n) (7, ((3 : Nat) : Int), 1, 67, []) L st h := run_s rfl
theorem r_X8_fade_67 : run E g mi_X8_fade d lm RT F pm_X8_fade (n + 1) 67 L st h = exI E d lm RT F (run E g mi_X8_fade d lm RT F pm_X8_fade n) (33, ((14 : Nat) : Int), 0, 0, []) L st h := run_s rfl
theorem r_X8_fade_70 : run E g mi_X8_fade d lm RT F pm_X8_fade (n + 1) 70 L st h = exI E d lm RT F (run E g mi_X8_fade d lm RT F pm_X8_fade n) (1, ((2 : Nat) : Int), 0, 71, []) L st h := run_s rfl
theorem r_X8_fade_71 : run E g mi_X8_fade d lm RT F pm_X8_fade (n + 1) 71 L st h = exI E d lm RT F (run E g mi_X8_fade d lm RT F pm_X8_fade n) (48, 0, 0, 0, []) L st h := run_s rfl
theorem e_X8_fade (n : Nat) {pc : Nat} (hF : FOk E d F) (hx : run E g mi_X8_fade d lm RT F pm_X8_fade n pc L st h) : G E g mi_X8_fade d lm RT pc L st h := run_sound hF pk_X8_fade n pc L st h hx
end
def mi_X8_raise : MI := (8, cX8_raise, 6, 0, false)
theorem mo_X8_raise : miOk mi_X8_raise (mt 53) = true := by decide +kernel
def tl_X8_raise : List (Nat × PT) := [(0, (1, ((1 : Nat) : Int), 0, 1, [])),
  (1, (45, ((65 : Nat) : Int), ((1 : Nat) : Int), 4, [])),
  (4, (31, 0, ((21 : Nat) : Int), 7, [])),
  (7, (1, ((2 : Nat) : Int), 0, 8, [])),
  (8, (45, ((65 : Nat) : Int), ((1 : Nat) : Int), 11, [])),
  (11, (31, 0, ((21 : Nat) : Int), 14, [])),
  (14, (1, ((3 : Nat) : Int), 0, 15, [])),
  (15, (45, ((65 : Nat) : Int), ((1 : Nat) : Int), 18, [])),
  (18, (31, 1, ((23 : Nat) : Int), 21, [])),
  (21, (0, (-1), 0, 22, [])),
  (22, (48, 0, 0, 0, [])),
  (23, (1, ((4 : Nat) : Int), 0, 25, [])),
  (25, (45, ((67 : Nat) : Int), ((1 : Nat) : Int), 28, [])),
  (28, (31, 1, ((34 : Nat) : Int), 31, [])),
  (31, (0, (-2), 0, 33, [])),
  (33, (48, 0, 0, 0, [])),
  (34, (1, ((1 : Nat) : Int), 0, 35, [])),
  (35, (1, ((2 : Nat) : Int), 0, 36, [])),
  (36, (32, 0, ((55 : Nat) : Int), 39, [])),
  (39, (2, ((0 : Nat) : Int), 0, 40, [])),
  (40, (35, ((8 : Nat) : Int), ((0 : Nat) : Int), 43, [])),
  (43, (35, ((3 : Nat) : Int), ((3 : Nat) : Int), 46, [])),
  (46, (1, ((1 : Nat) : Int), 0, 47, [])),
  (47, (38, 0, 0, 48, [])),
  (48, (1, ((3 : Nat) : Int), 0, 49, [])),
  (49, (45, ((69 : Nat) : Int), ((2 : Nat) : Int), 52, [])),
  (52, (31, 1, ((58 : Nat) : Int), 55, [])),
  (55, (0, (-3), 0, 57, [])),
  (57, (48, 0, 0, 0, [])),
  (58, (2, ((0 : Nat) : Int), 0, 59, [])),
  (59, (1, ((1 : Nat) : Int), 0, 60, [])),
  (60, (1, ((2 : Nat) : Int), 0, 61, [])),
  (61, (52, ((70 : Nat) : Int), ((3 : Nat) : Int), 64, [8])),
  (64, (5, ((5 : Nat) : Int), 0, 66, [])),
  (66, (2, ((5 : Nat) : Int), 0, 68, [])),
  (68, (1, ((3 : Nat) : Int), 0, 69, [])),
  (69, (1, ((4 : Nat) : Int), 0, 71, [])),
  (71, (2, ((0 : Nat) : Int), 0, 72, [])),
  (72, (35, ((8 : Nat) : Int), ((8 : Nat) : Int), 75, [])),
  (75, (2, ((0 : Nat) : Int), 0, 76, [])),
  (76, (35, ((8 : Nat) : Int), ((2 : Nat) : Int), 79, [])),
  (79, (51, ((25 : Nat) : Int), ((5 : Nat) : Int), 82, [5])),
  (82, (2, ((5 : Nat) : Int), 0, 84, [])),
  (84, (35, ((5 : Nat) : Int), ((0 : Nat) : Int), 87, [])),
  (87, (1, ((3 : Nat) : Int), 0, 88, [])),
  (88, (38, 0, 0, 89, [])),
  (89, (48, 0, 0, 0, []))]
theorem tk_X8_raise_0 : tOk mi_X8_raise ((tl_X8_raise.drop 0).take 45) = true := by decide +kernel
theorem tk_X8_raise_1 : tOk mi_X8_raise ((tl_X8_raise.drop 45).take 45) = true := by decide +kernel
theorem tk_X8_raise : tOk mi_X8_raise tl_X8_raise = true := by
  refine tOk_cut 45 (by decide) (fun q hq => ?_)
  have hl : tl_X8_raise.length = 47 := by decide +kernel
  rw [hl] at hq
  rcases (show q = 0 ∨ q = 1 by omega) with rfl | rfl
  · exact tk_X8_raise_0
  · exact tk_X8_raise_1
def pm_X8_raise (pc : Nat) : Option PT := if [].contains pc then none else tl_X8_raise.lookup pc
theorem pk_X8_raise : ∀ pc pt, pm_X8_raise pc = some pt → okPt mi_X8_raise pc pt := fun pc pt h => tOk_pm tk_X8_raise h
section
variable {E : ET} {g : GT} {d : Nat} {lm : Nat × Nat} {RT : RTy} {F : FT} {n : Nat} {L : LV} {st : List AV} {h : AH}
theorem r_X8_raise_0 : run E g mi_X8_raise d lm RT F pm_X8_raise (n + 1) 0 L st h = exI E d lm RT F (run E g mi_X8_raise d lm RT F pm_X8_raise n) (1, ((1 : Nat) : Int), 0, 1, []) L st h := run_s rfl
theorem r_X8_raise_1 : run E g mi_X8_raise d lm RT F pm_X8_raise (n + 1) 1 L st h = exI E d lm RT F (run E g mi_X8_raise d lm RT F pm_X8_raise n) (45, ((65 : Nat) : Int), ((1 : Nat) : Int), 4, []) L st h := run_s rfl
theorem r_X8_raise_4 : run E g mi_X8_raise d lm RT F pm_X8_raise (n + 1) 4 L st h = exI E d lm RT F (run E g mi_X8_raise d lm RT F pm_X8_raise n) (31, 0, ((21 : Nat) : Int), 7, []) L st h := run_s rfl
theorem r_X8_raise_7 : run E g mi_X8_raise d lm RT F pm_X8_raise (n + 1) 7 L st h = exI E d lm RT F (run E g mi_X8_raise d lm RT F pm_X8_raise n) (1, ((2 : Nat) : Int), 0, 8, []) L st h := run_s rfl
theorem r_X8_raise_8 : run E g mi_X8_raise d lm RT F pm_X8_raise (n + 1) 8 L st h = exI E d lm RT F (run E g mi_X8_raise d lm RT F pm_X8_raise n) (45, ((65 : Nat) : Int), ((1 : Nat) : Int), 11, []) L st h := run_s rfl
theorem r_X8_raise_11 : run E g mi_X8_raise d lm RT F pm_X8_raise (n + 1) 11 L st h = exI E d lm RT F (run E g mi_X8_raise d lm RT F pm_X8_raise n) (31, 0, ((21 : Nat) : Int), 14, []) L st h := run_s rfl
theorem r_X8_raise_14 : run E g mi_X8_raise d lm RT F pm_X8_raise (n + 1) 14 L st h = exI E d lm RT F (run E g mi_X8_raise d lm RT F pm_X8_raise n) (1, ((3 : Nat) : Int), 0, 15, []) L st h := run_s rfl
theorem r_X8_raise_15 : run E g mi_X8_raise d lm RT F pm_X8_raise (n + 1) 15 L st h = exI E d lm RT F (run E g mi_X8_raise d lm RT F pm_X8_raise n) (45, ((65 : Nat) : Int), ((1 : Nat) : Int), 18, []) L st h := run_s rfl
theorem r_X8_raise_18 : run E g mi_X8_raise d lm RT F pm_X8_raise (n + 1) 18 L st h = exI E d lm RT F (run E g mi_X8_raise d lm RT F pm_X8_raise n) (31, 1, ((23 : Nat) : Int), 21, []) L st h := run_s rfl
theorem r_X8_raise_21 : run E g mi_X8_raise d lm RT F pm_X8_raise (n + 1) 21 L st h = exI E d lm RT F (run E g mi_X8_raise d lm RT F pm_X8_raise n) (0, (-1), 0, 22, []) L st h := run_s rfl
theorem r_X8_raise_22 : run E g mi_X8_raise d lm RT F pm_X8_raise (n + 1) 22 L st h = exI E d lm RT F (run E g mi_X8_raise d lm RT F pm_X8_raise n) (48, 0, 0, 0, []) L st h := run_s rfl
theorem r_X8_raise_23 : run E g mi_X8_raise d lm RT F pm_X8_raise (n + 1) 23 L st h = exI E d lm RT F (run E g mi_X8_raise d lm RT F pm_X8_raise n) (1, ((4 : Nat) : Int), 0, 25, []) L st h := run_s rfl
theorem r_X8_raise_25 : run E g mi_X8_raise d lm RT F pm_X8_raise (n + 1) 25 L st h = exI E d lm RT F (run E g mi_X8_raise d lm RT F pm_X8_raise n) (45, ((67 : Nat) : Int), ((1 : Nat) : Int), 28, []) L st h := run_s rfl
theorem r_X8_raise_28 : run E g mi_X8_raise d lm RT F pm_X8_raise (n + 1) 28 L st h = exI E d lm RT F (run E g mi_X8_raise d lm RT F pm_X8_raise n) (31, 1, ((34 : Nat) : Int), 31, []) L st h := run_s rfl
theorem r_X8_raise_31 : run E g mi_X8_raise d lm RT F pm_X8_raise (n + 1) 31 L st h = exI E d lm RT F (run E g mi_X8_raise d lm RT F pm_X8_raise n) (0, (-2), 0, 33, []) L st h := run_s rfl
theorem r_X8_raise_33 : run E g mi_X8_raise d lm RT F pm_X8_raise (n + 1) 33 L st h = exI E d lm RT F (run E g mi_X8_raise d lm RT F pm_X8_raise n) (48, 0, 0, 0, []) L st h := run_s rfl
theorem r_X8_raise_34 : run E g mi_X8_raise d lm RT F pm_X8_raise (n + 1) 34 L st h = exI E d lm RT F (run E g mi_X8_raise d lm RT F pm_X8_raise n) (1, ((1 : Nat) : Int), 0, 35, []) L st h := run_s rfl
theorem r_X8_raise_35 : run E g mi_X8_raise d lm RT F pm_X8_raise (n + 1) 35 L st h = exI E d lm RT F (run E g mi_X8_raise d lm RT F pm_X8_raise n) (1, ((2 : Nat) : Int), 0, 36, []) L st h := run_s rfl
theorem r_X8_raise_36 : run E g mi_X8_raise d lm RT F pm_X8_raise (n + 1) 36 L st h = exI E d lm RT F (run E g mi_X8_raise d lm RT F pm_X8_raise n) (32, 0, ((55 : Nat) : Int), 39, []) L st h := run_s rfl
theorem r_X8_raise_39 : run E g mi_X8_raise d lm RT F pm_X8_raise (n + 1) 39 L st h = exI E d lm RT F (run E g mi_X8_raise d lm RT F pm_X8_raise n) (2, ((0 : Nat) : Int), 0, 40, []) L st h := run_s rfl
theorem r_X8_raise_40 : run E g mi_X8_raise d lm RT F pm_X8_raise (n + 1) 40 L st h = exI E d lm RT F (run E g mi_X8_raise d lm RT F pm_X8_raise n) (35, ((8 : Nat) : Int), ((0 : Nat) : Int), 43, []) L st h := run_s rfl
theorem r_X8_raise_43 : run E g mi_X8_raise d lm RT F pm_X8_raise (n + 1) 43 L st h = exI E d lm RT F (run E g mi_X8_raise d lm RT F pm_X8_raise n) (35, ((3 : Nat) : Int), ((3 : Nat) : Int), 46, []) L st h := run_s rfl
theorem r_X8_raise_46 : run E g mi_X8_raise d lm RT F pm_X8_raise (n + 1) 46 L st h = exI E d lm RT F (run E g mi_X8_raise d lm RT F pm_X8_raise n) (1, ((1 : Nat) : Int), 0, 47, []) L st h := run_s rfl
theorem r_X8_raise_47 : run E g mi_X8_raise d lm RT F pm_X8_raise (n + 1) 47 L st h = exI E d lm RT F (run E g mi_X8_raise d lm RT F pm_X8_raise n) (38, 0, 0, 48, []) L st h := run_s rfl
theorem r_X8_raise_48 : run E g mi_X8_raise d lm RT F pm_X8_raise (n + 1) 48 L st h = exI E d lm RT F (run E g mi_X8_raise d lm RT F pm_X8_raise n) (1, ((3 : Nat) : Int), 0, 49, []) L st h := run_s rfl
theorem r_X8_raise_49 : run E g mi_X8_raise d lm RT F pm_X8_raise (n + 1) 49 L st h = exI E d lm RT F (run E g mi_X8_raise d lm RT F pm_X8_raise n) (45, ((69 : Nat) : Int), ((2 : Nat) : Int), 52, []) L st h := run_s rfl
theorem r_X8_raise_52 : run E g mi_X8_raise d lm RT F pm_X8_raise (n + 1) 52 L st h = exI E d lm RT F (run E g mi_X8_raise d lm RT F pm_X8_raise n) (31, 1, ((58 : Nat) : Int), 55, []) L st h := run_s rfl
theorem r_X8_raise_55 : run E g mi_X8_raise d lm RT F pm_X8_raise (n + 1) 55 L st h = exI E d lm RT F (run E g mi_X8_raise d lm RT F pm_X8_raise n) (0, (-3), 0, 57, []) L st h := run_s rfl
theorem r_X8_raise_57 : run E g mi_X8_raise d lm RT F pm_X8_raise (n + 1) 57 L st h = exI E d lm RT F (run E g mi_X8_raise d lm RT F pm_X8_raise n) (48, 0, 0, 0, []) L st h := run_s rfl
theorem r_X8_raise_58 : run E g mi_X8_raise d lm RT F pm_X8_raise (n + 1) 58 L st h = exI E d lm RT F (run E g mi_X8_raise d lm RT F pm_X8_raise n) (2, ((0 : Nat) : Int), 0, 59, []) L st h := run_s rfl
theorem r_X8_raise_59 : run E g mi_X8_raise d lm RT F pm_X8_raise (n + 1) 59 L st h = exI E d lm RT F (run E g mi_X8_raise d lm RT F pm_X8_raise n) (1, ((1 : Nat) : Int), 0, 60, []) L st h := run_s rfl
theorem r_X8_raise_60 : run E g mi_X8_raise d lm RT F pm_X8_raise (n + 1) 60 L st h = exI E d lm RT F (run E g mi_X8_raise d lm RT F pm_X8_raise n) (1, ((2 : Nat) : Int), 0, 61, []) L st h := run_s rfl
theorem r_X8_raise_61 : run E g mi_X8_raise d lm RT F pm_X8_raise (n + 1) 61 L st h = exI E d lm RT F (run E g mi_X8_raise d lm RT F pm_X8_raise n) (52, ((70 : Nat) : Int), ((3 : Nat) : Int), 64, [8]) L st h := run_s rfl
theorem r_X8_raise_64 : run E g mi_X8_raise d lm RT F pm_X8_raise (n + 1) 64 L st h = exI E d lm RT F (run E g mi_X8_raise d lm RT F pm_X8_raise n) (5, ((5 : Nat) : Int), 0, 66, []) L st h := run_s rfl
theorem r_X8_raise_66 : run E g mi_X8_raise d lm RT F pm_X8_raise (n + 1) 66 L st h = exI E d lm RT F (run E g mi_X8_raise d lm RT F pm_X8_raise n) (2, ((5 : Nat) : Int), 0, 68, []) L st h := run_s rfl
theorem r_X8_raise_68 : run E g mi_X8_raise d lm RT F pm_X8_raise (n + 1) 68 L st h = exI E d lm RT F (run E g mi_X8_raise d lm RT F pm_X8_raise n) (1, ((3 : Nat) : Int), 0, 69, []) L st h := run_s rfl
theorem r_X8_raise_69 : run E g mi_X8_raise d lm RT F pm_X8_raise (n + 1) 69 L st h = exI E d lm RT F (run E g mi_X8_raise d lm RT F pm_X8_raise n) (1, ((4 : Nat) : Int), 0, 71, []) L st h := run_s rfl
theorem r_X8_raise_71 : run E g mi_X8_raise d lm RT F pm_X8_raise (n + 1) 71 L st h = exI E d lm RT F (run E g mi_X8_raise d lm RT F pm_X8_raise n) (2, ((0 : Nat) : Int), 0, 72, []) L st h := run_s rfl
theorem r_X8_raise_72 : run E g mi_X8_raise d lm RT F pm_X8_raise (n + 1) 72 L st h = exI E d lm RT F (run E g mi_X8_raise d lm RT F pm_X8_raise n) (35, ((8 : Nat) : Int), ((8 : Nat) : Int), 75, []) L st h := run_s rfl
theorem r_X8_raise_75 : run E g mi_X8_raise d lm RT F pm_X8_raise (n + 1) 75 L st h = exI E d lm RT F (run E g mi_X8_raise d lm RT F pm_X8_raise n) (2, ((0 : Nat) : Int), 0, 76, []) L st h := run_s rfl
theorem r_X8_raise_76 : run E g mi_X8_raise d lm RT F pm_X8_raise (n + 1) 76 L st h = exI E d lm RT F (run E g mi_X8_raise d lm RT F pm_X8_raise n) (35, ((8 : Nat) : Int), ((2 : Nat) : Int), 79, []) L st h := run_s rfl
theorem r_X8_raise_79 : run E g mi_X8_raise d lm RT F pm_X8_raise (n + 1) 79 L st h = exI E d lm RT F (run E g mi_X8_raise d lm RT F pm_X8_raise n) (51, ((25 : Nat) : Int), ((5 : Nat) : Int), 82, [5]) L st h := run_s rfl
theorem r_X8_raise_82 : run E g mi_X8_raise d lm RT F pm_X8_raise (n + 1) 82 L st h = exI E d lm RT F (run E g mi_X8_raise d lm RT F pm_X8_raise n) (2, ((5 : Nat) : Int), 0, 84, []) L st h := run_s rfl
theorem r_X8_raise_84 : run E g mi_X8_raise d lm RT F pm_X8_raise (n + 1) 84 L st h = exI E d lm RT F (run E g mi_X8_raise d lm RT F pm_X8_raise n) (35, ((5 : Nat) : Int), ((0 : Nat) : Int), 87, []) L st h := run_s rfl
theorem r_X8_raise_87 : run E g mi_X8_raise d lm RT F pm_X8_raise (n + 1) 87 L st h = exI E d lm RT F (run E g mi_X8_raise d lm RT F pm_X8_raise n) (1, ((3 : Nat) : Int), 0, 88, []) L st h := run_s rfl
theorem r_X8_raise_88 : run E g mi_X8_raise d lm RT F pm_X8_raise (n + 1) 88 L st h = exI E d lm RT F (run E g mi_X8_raise d lm RT F pm_X8_raise n) (38, 0, 0, 89, []) L st h := run_s rfl
theorem r_X8_raise_89 : run E g mi_X8_raise d lm RT F pm_X8_raise (n + 1) 89 L st h = exI E d lm RT F (run E g mi_X8_raise d lm RT F pm_X8_raise n) (48, 0, 0, 0, []) L st h := run_s rfl
theorem e_X8_raise (n : Nat) {pc : Nat} (hF : FOk E d F) (hx : run E g mi_X8_raise d lm RT F pm_X8_raise n pc L st h) : G E g mi_X8_raise d lm RT pc L st h := run_sound hF pk_X8_raise n pc L st h hx
end
def mi_X8_even : MI := (8, cX8_even, 3, 0, false)
theorem mo_X8_even : miOk mi_X8_even (mt 54) = true := by decide +kernel
def tl_X8_even : List (Nat × PT) := [(0, (1, ((1 : Nat) : Int), 0, 1, [])),
  (1, (45, ((65 : Nat) : Int), ((1 : Nat) : Int), 4, [])),
  (4, (31, 0, ((14 : Nat) : Int), 7, [])),
  (7, (1, ((2 : Nat) : Int), 0, 8, [])),
  (8, (45, ((65 : Nat) : Int), ((1 : Nat) : Int), 11, [])),
  (11, (31, 1, ((16 : Nat) : Int), 14, [])),
  (14, (0, (-1), 0, 15, [])),
  (15, (48, 0, 0, 0, [])),
  (16, (1, ((1 : Nat) : Int), 0, 17, [])),
  (17, (1, ((2 : Nat) : Int), 0, 18, [])),
  (18, (32, 1, ((24 : Nat) : Int), 21, [])),
  (21, (0, (-3), 0, 23, [])),
  (23, (48, 0, 0, 0, [])),
  (24, (2, ((0 : Nat) : Int), 0, 25, [])),
  (25, (1, ((1 : Nat) : Int), 0, 26, [])),
  (26, (1, ((2 : Nat) : Int), 0, 27, [])),
  (27, (52, ((70 : Nat) : Int), ((3 : Nat) : Int), 30, [8])),
  (30, (51, ((21 : Nat) : Int), ((1 : Nat) : Int), 33, [5])),
  (33, (2, ((0 : Nat) : Int), 0, 34, [])),
  (34, (35, ((8 : Nat) : Int), ((0 : Nat) : Int), 37, [])),
  (37, (35, ((3 : Nat) : Int), ((3 : Nat) : Int), 40, [])),
  (40, (1, ((1 : Nat) : Int), 0, 41, [])),
  (41, (38, 0, 0, 42, [])),
  (42, (45, ((145 : Nat) : Int), ((1 : Nat) : Int), 45, [])),
  (45, (48, 0, 0, 0, []))]
theorem tk_X8_even : tOk mi_X8_even tl_X8_even = true := by decide +kernel
def pm_X8_even (pc : Nat) : Option PT := if [].contains pc then none else tl_X8_even.lookup pc
theorem pk_X8_even : ∀ pc pt, pm_X8_even pc = some pt → okPt mi_X8_even pc pt := fun pc pt h => tOk_pm tk_X8_even h
section
variable {E : ET} {g : GT} {d : Nat} {lm : Nat × Nat} {RT : RTy} {F : FT} {n : Nat} {L : LV} {st : List AV} {h : AH}
theorem r_X8_even_0 : run E g mi_X8_even d lm RT F pm_X8_even (n + 1) 0 L st h = exI E d lm RT F (run E g mi_X8_even d lm RT F pm_X8_even n) (1, ((1 : Nat) : Int), 0, 1, []) L st h := run_s rfl
theorem r_X8_even_1 : run E g mi_X8_even d lm RT F pm_X8_even (n + 1) 1 L st h = exI E d lm RT F (run E g mi_X8_even d lm RT F pm_X8_even n) (45, ((65 : Nat) : Int), ((1 : Nat) : Int), 4, []) L st h := run_s rfl
theorem r_X8_even_4 : run E g mi_X8_even d lm RT F pm_X8_even (n + 1) 4 L st h = exI E d lm RT F (run E g mi_X8_even d lm RT F pm_X8_even n) (31, 0, ((14 : Nat) : Int), 7, []) L st h := run_s rfl
theorem r_X8_even_7 : run E g mi_X8_even d lm RT F pm_X8_even (n + 1) 7 L st h = exI E d lm RT F (run E g mi_X8_even d lm RT F pm_X8_even n) (1, ((2 : Nat) : Int), 0, 8, []) L st h := run_s rfl
theorem r_X8_even_8 : run E g mi_X8_even d lm RT F pm_X8_even (n + 1) 8 L st h = exI E d lm RT F (run E g mi_X8_even d lm RT F pm_X8_even n) (45, ((65 : Nat) : Int), ((1 : Nat) : Int), 11, []) L st h := run_s rfl
theorem r_X8_even_11 : run E g mi_X8_even d lm RT F pm_X8_even (n + 1) 11 L st h = exI E d lm RT F (run E g mi_X8_even d lm RT F pm_X8_even n) (31, 1, ((16 : Nat) : Int), 14, []) L st h := run_s rfl
theorem r_X8_even_14 : run E g mi_X8_even d lm RT F pm_X8_even (n + 1) 14 L st h = exI E d lm RT F (run E g mi_X8_even d lm RT F pm_X8_even n) (0, (-1), 0, 15, []) L st h := run_s rfl
theorem r_X8_even_15 : run E g mi_X8_even d lm RT F pm_X8_even (n + 1) 15 L st h = exI E d lm RT F (run E g mi_X8_even d lm RT F pm_X8_even n) (48, 0, 0, 0, []) L st h := run_s rfl
theorem r_X8_even_16 : run E g mi_X8_even d lm RT F pm_X8_even (n + 1) 16 L st h = exI E d lm RT F (run E g mi_X8_even d lm RT F pm_X8_even n) (1, ((1 : Nat) : Int), 0, 17, []) L st h := run_s rfl
theorem r_X8_even_17 : run E g mi_X8_even d lm RT F pm_X8_even (n + 1) 17 L st h = exI E d lm RT F (run E g mi_X8_even d lm RT F pm_X8_even n) (1, ((2 : Nat) : Int), 0, 18, []) L st h := run_s rfl
theorem r_X8_even_18 : run E g mi_X8_even d lm RT F pm_X8_even (n + 1) 18 L st h = exI E d lm RT F (run E g mi_X8_even d lm RT F pm_X8_even n) (32, 1, ((24 : Nat) : Int), 21, []) L st h := run_s rfl
theorem r_X8_even_21 : run E g mi_X8_even d lm RT F pm_X8_even (n + 1) 21 L st h = exI E d lm RT F (run E g mi_X8_even d lm RT F pm_X8_even n) (0, (-3), 0, 23, []) L st h := run_s rfl
theorem r_X8_even_23 : run E g mi_X8_even d lm RT F pm_X8_even (n + 1) 23 L st h = exI E d lm RT F (run E g mi_X8_even d lm RT F pm_X8_even n) (48, 0, 0, 0, []) L st h := run_s rfl
theorem r_X8_even_24 : run E g mi_X8_even d lm RT F pm_X8_even (n + 1) 24 L st h = exI E d lm RT F (run E g mi_X8_even d lm RT F pm_X8_even n) (2, ((0 : Nat) : Int), 0, 25, []) L st h := run_s rfl
theorem r_X8_even_25 : run E g mi_X8_even d lm RT F pm_X8_even (n + 1) 25 L st h = exI E d lm RT F (run E g mi_X8_even d lm RT F pm_X8_even n) (1, ((1 : Nat) : Int), 0, 26, []) L st h := run_s rfl
theorem r_X8_even_26 : run E g mi_X8_even d lm RT F pm_X8_even (n + 1) 26 L st h = exI E d lm RT F (run E g mi_X8_even d lm RT F pm_X8_even n) (1, ((2 : Nat) : Int), 0, 27, []) L st h := run_s rfl
theorem r_X8_even_27 : run E g mi_X8_even d lm RT F pm_X8_even (n + 1) 27 L st h = exI E d lm RT F (run E g mi_X8_even d lm RT F pm_X8_even n) (52, ((70 : Nat) : Int), ((3 : Nat) : Int), 30, [8]) L st h := run_s rfl
theorem r_X8_even_30 : run E g mi_X8_even d lm RT F pm_X8_even (n + 1) 30 L st h = exI E d lm RT F (run E g mi_X8_even d lm RT F pm_X8_even n) (51, ((21 : Nat) : Int), ((1 : Nat) : Int), 33, [5]) L st h := run_s rfl
theorem r_X8_even_33 : run E g mi_X8_even d lm RT F pm_X8_even (n + 1) 33 L st h = exI E d lm RT F (run E g mi_X8_even d lm RT F pm_X8_even n) (2, ((0 : Nat) : Int), 0, 34, []) L st h := run_s rfl
theorem r_X8_even_34 : run E g mi_X8_even d lm RT F pm_X8_even (n + 1) 34 L st h = exI E d lm RT F (run E g mi_X8_even d lm RT F pm_X8_even n) (35, ((8 : Nat) : Int), ((0 : Nat) : Int), 37, []) L st h := run_s rfl
theorem r_X8_even_37 : run E g mi_X8_even d lm RT F pm_X8_even (n + 1) 37 L st h = exI E d lm RT F (run E g mi_X8_even d lm RT F pm_X8_even n) (35, ((3 : Nat) : Int), ((3 : Nat) : Int), 40, []) L st h := run_s rfl
theorem r_X8_even_40 : run E g mi_X8_even d lm RT F pm_X8_even (n + 1) 40 L st h = exI E d lm RT F (run E g mi_X8_even d lm RT F pm_X8_even n) (1, ((1 : Nat) : Int), 0, 41, []) L st h := run_s rfl
theorem r_X8_even_41 : run E g mi_X8_even d lm RT F pm_X8_even (n + 1) 41 L st h = exI E d lm RT F (run E g mi_X8_even d lm RT F pm_X8_even n) (38, 0, 0, 42, []) L st h := run_s rfl
theorem r_X8_even_42 : run E g mi_X8_even d lm RT F pm_X8_even (n + 1) 42 L st h = exI E d lm RT F (run E g mi_X8_even d lm RT F pm_X8_even n) (45, ((145 : Nat) : Int), ((1 : Nat) : Int), 45, []) L st h := run_s rfl
theorem r_X8_even_45 : run E g mi_X8_even d lm RT F pm_X8_even (n + 1) 45 L st h = exI E d lm RT F (run E g mi_X8_even d lm RT F pm_X8_even n) (48, 0, 0, 0, []) L st h := run_s rfl
theorem e_X8_even (n : Nat) {pc : Nat} (hF : FOk E d F) (hx : run E g mi_X8_even d lm RT F pm_X8_even n pc L st h) : G E g mi_X8_even d lm RT pc L st h := run_sound hF pk_X8_even n pc L st h hx
end
def mi_X8_seed : MI := (8, cX8_seed, 3, 0, false)
theorem mo_X8_seed : miOk mi_X8_seed (mt 55) = true := by decide +kernel
def tl_X8_seed : List (Nat × PT) := [(0, (2, ((0 : Nat) : Int), 0, 1, [])),
  (1, (35, ((8 : Nat) : Int), ((5 : Nat) : Int), 4, [])),
  (4, (35, ((0 : Nat) : Int), ((0 : Nat) : Int), 7, [])),
  (7, (4, ((2 : Nat) : Int), 0, 8, [])),
  (8, (2, ((0 : Nat) : Int), 0, 9, [])),
  (9, (35, ((8 : Nat) : Int), ((5 : Nat) : Int), 12, [])),
  (12, (1, ((1 : Nat) : Int), 0, 13, [])),
  (13, (36, ((0 : Nat) : Int), ((0 : Nat) : Int), 16, [0])),
  (16, (1, ((2 : Nat) : Int), 0, 17, [])),
  (17, (48, 0, 0, 0, []))]
theorem tk_X8_seed : tOk mi_X8_seed tl_X8_seed = true := by decide +kernel
def pm_X8_seed (pc : Nat) : Option PT := if [].contains pc then none else tl_X8_seed.lookup pc
theorem pk_X8_seed : ∀ pc pt, pm_X8_seed pc = some pt → okPt mi_X8_seed pc pt := fun pc pt h => tOk_pm tk_X8_seed h
section
variable {E : ET} {g : GT} {d : Nat} {lm : Nat × Nat} {RT : RTy} {F : FT} {n : Nat} {L : LV} {st : List AV} {h : AH}
theorem r_X8_seed_0 : run E g mi_X8_seed d lm RT F pm_X8_seed (n + 1) 0 L st h = exI E d lm RT F (run E g mi_X8_seed d lm RT F pm_X8_seed n) (2, ((0 : Nat) : Int), 0, 1, []) L st h := run_s rfl
theorem r_X8_seed_1 : run E g mi_X8_seed d lm RT F pm_X8_seed (n + 1) 1 L st h = exI E d lm RT F (run E g mi_X8_seed d lm RT F pm_X8_seed n) (35, ((8 : Nat) : Int), ((5 : Nat) : Int), 4, []) L st h := run_s rfl
theorem r_X8_seed_4 : run E g mi_X8_seed d lm RT F pm_X8_seed (n + 1) 4 L st h = exI E d lm RT F (run E g mi_X8_seed d lm RT F pm_X8_seed n) (35, ((0 : Nat) : Int), ((0 : Nat) : Int), 7, []) L st h := run_s rfl
theorem r_X8_seed_7 : run E g mi_X8_seed d lm RT F pm_X8_seed (n + 1) 7 L st h = exI E d lm RT F (run E g mi_X8_seed d lm RT F pm_X8_seed n) (4, ((2 : Nat) : Int), 0, 8, []) L st h := run_s rfl
theorem r_X8_seed_8 : run E g mi_X8_seed d lm RT F pm_X8_seed (n + 1) 8 L st h = exI E d lm RT F (run E g mi_X8_seed d lm RT F pm_X8_seed n) (2, ((0 : Nat) : Int), 0, 9, []) L st h := run_s rfl
theorem r_X8_seed_9 : run E g mi_X8_seed d lm RT F pm_X8_seed (n + 1) 9 L st h = exI E d lm RT F (run E g mi_X8_seed d lm RT F pm_X8_seed n) (35, ((8 : Nat) : Int), ((5 : Nat) : Int), 12, []) L st h := run_s rfl
theorem r_X8_seed_12 : run E g mi_X8_seed d lm RT F pm_X8_seed (n + 1) 12 L st h = exI E d lm RT F (run E g mi_X8_seed d lm RT F pm_X8_seed n) (1, ((1 : Nat) : Int), 0, 13, []) L st h := run_s rfl
theorem r_X8_seed_13 : run E g mi_X8_seed d lm RT F pm_X8_seed (n + 1) 13 L st h = exI E d lm RT F (run E g mi_X8_seed d lm RT F pm_X8_seed n) (36, ((0 : Nat) : Int), ((0 : Nat) : Int), 16, [0]) L st h := run_s rfl
theorem r_X8_seed_16 : run E g mi_X8_seed d lm RT F pm_X8_seed (n + 1) 16 L st h = exI E d lm RT F (run E g mi_X8_seed d lm RT F pm_X8_seed n) (1, ((2 : Nat) : Int), 0, 17, []) L st h := run_s rfl
theorem r_X8_seed_17 : run E g mi_X8_seed d lm RT F pm_X8_seed (n + 1) 17 L st h = exI E d lm RT F (run E g mi_X8_seed d lm RT F pm_X8_seed n) (48, 0, 0, 0, []) L st h := run_s rfl
theorem e_X8_seed (n : Nat) {pc : Nat} (hF : FOk E d F) (hx : run E g mi_X8_seed d lm RT F pm_X8_seed n pc L st h) : G E g mi_X8_seed d lm RT pc L st h := run_sound hF pk_X8_seed n pc L st h hx
end
def mi_X8_send : MI := (8, cX8_send, 6, 0, false)
theorem mo_X8_send : miOk mi_X8_send (mt 56) = true := by decide +kernel
def tl_X8_send : List (Nat × PT) := [(0, (1, ((2 : Nat) : Int), 0, 1, [])),
  (1, (45, ((65 : Nat) : Int), ((1 : Nat) : Int), 4, [])),
  (4, (31, 0, ((14 : Nat) : Int), 7, [])),
  (7, (1, ((3 : Nat) : Int), 0, 8, [])),
  (8, (45, ((65 : Nat) : Int), ((1 : Nat) : Int), 11, [])),
  (11, (31, 1, ((16 : Nat) : Int), 14, [])),
  (14, (0, (-1), 0, 15, [])),
  (15, (48, 0, 0, 0, [])),
  (16, (1, ((1 : Nat) : Int), 0, 17, [])),
  (17, (31, 2, ((25 : Nat) : Int), 20, [])),
  (20, (1, ((1 : Nat) : Int), 0, 21, [])),
  (21, (0, 3, 0, 22, [])),
  (22, (32, 2, ((28 : Nat) : Int), 25, [])),
  (25, (0, (-2), 0, 27, [])),
  (27, (48, 0, 0, 0, [])),
  (28, (1, ((2 : Nat) : Int), 0, 29, [])),
  (29, (1, ((3 : Nat) : Int), 0, 30, [])),
  (30, (32, 1, ((36 : Nat) : Int), 33, [])),
  (33, (0, (-3), 0, 35, [])),
  (35, (48, 0, 0, 0, [])),
  (36, (2, ((0 : Nat) : Int), 0, 37, [])),
  (37, (51, ((72 : Nat) : Int), ((1 : Nat) : Int), 40, [8])),
  (40, (4, ((4 : Nat) : Int), 0, 42, [])),
  (42, (1, ((4 : Nat) : Int), 0, 44, [])),
  (44, (0, (-9), 0, 46, [])),
  (46, (32, 1, ((52 : Nat) : Int), 49, [])),
  (49, (0, (-4), 0, 51, [])),
  (51, (48, 0, 0, 0, [])),
  (52, (2, ((0 : Nat) : Int), 0, 53, [])),
  (53, (35, ((8 : Nat) : Int), ((3 : Nat) : Int), 56, [])),
  (56, (1, ((4 : Nat) : Int), 0, 58, [])),
  (58, (49, 0, 0, 59, [])),
  (59, (5, ((5 : Nat) : Int), 0, 61, [])),
  (61, (2, ((5 : Nat) : Int), 0, 63, [])),
  (63, (1, ((1 : Nat) : Int), 0, 64, [])),
  (64, (1, ((2 : Nat) : Int), 0, 65, [])),
  (65, (1, ((3 : Nat) : Int), 0, 66, [])),
  (66, (2, ((0 : Nat) : Int), 0, 67, [])),
  (67, (35, ((8 : Nat) : Int), ((10 : Nat) : Int), 70, [])),
  (70, (51, ((37 : Nat) : Int), ((5 : Nat) : Int), 73, [7])),
  (73, (2, ((0 : Nat) : Int), 0, 74, [])),
  (74, (2, ((5 : Nat) : Int), 0, 76, [])),
  (76, (1, ((2 : Nat) : Int), 0, 77, [])),
  (77, (51, ((80 : Nat) : Int), ((3 : Nat) : Int), 80, [8])),
  (80, (2, ((5 : Nat) : Int), 0, 82, [])),
  (82, (35, ((7 : Nat) : Int), ((3 : Nat) : Int), 85, [])),
  (85, (31, 0, ((93 : Nat) : Int), 88, [])),
  (88, (1, ((4 : Nat) : Int), 0, 90, [])),
  (90, (33, ((95 : Nat) : Int), 0, 0, [])),
  (93, (0, (-9), 0, 95, [])),
  (95, (48, 0, 0, 0, []))]
theorem tk_X8_send_0 : tOk mi_X8_send ((tl_X8_send.drop 0).take 45) = true := by decide +kernel
theorem tk_X8_send_1 : tOk mi_X8_send ((tl_X8_send.drop 45).take 45) = true := by decide +kernel
theorem tk_X8_send : tOk mi_X8_send tl_X8_send = true := by
  refine tOk_cut 45 (by decide) (fun q hq => ?_)
  have hl : tl_X8_send.length = 51 := by decide +kernel
  rw [hl] at hq
  rcases (show q = 0 ∨ q = 1 by omega) with rfl | rfl
  · exact tk_X8_send_0
  · exact tk_X8_send_1
def pm_X8_send (pc : Nat) : Option PT := if [].contains pc then none else tl_X8_send.lookup pc
theorem pk_X8_send : ∀ pc pt, pm_X8_send pc = some pt → okPt mi_X8_send pc pt := fun pc pt h => tOk_pm tk_X8_send h
section
variable {E : ET} {g : GT} {d : Nat} {lm : Nat × Nat} {RT : RTy} {F : FT} {n : Nat} {L : LV} {st : List AV} {h : AH}
theorem r_X8_send_0 : run E g mi_X8_send d lm RT F pm_X8_send (n + 1) 0 L st h = exI E d lm RT F (run E g mi_X8_send d lm RT F pm_X8_send n) (1, ((2 : Nat) : Int), 0, 1, []) L st h := run_s rfl
theorem r_X8_send_1 : run E g mi_X8_send d lm RT F pm_X8_send (n + 1) 1 L st h = exI E d lm RT F (run E g mi_X8_send d lm RT F pm_X8_send n) (45, ((65 : Nat) : Int), ((1 : Nat) : Int), 4, []) L st h := run_s rfl
theorem r_X8_send_4 : run E g mi_X8_send d lm RT F pm_X8_send (n + 1) 4 L st h = exI E d lm RT F (run E g mi_X8_send d lm RT F pm_X8_send n) (31, 0, ((14 : Nat) : Int), 7, []) L st h := run_s rfl
theorem r_X8_send_7 : run E g mi_X8_send d lm RT F pm_X8_send (n + 1) 7 L st h = exI E d lm RT F (run E g mi_X8_send d lm RT F pm_X8_send n) (1, ((3 : Nat) : Int), 0, 8, []) L st h := run_s rfl
theorem r_X8_send_8 : run E g mi_X8_send d lm RT F pm_X8_send (n + 1) 8 L st h = exI E d lm RT F (run E g mi_X8_send d lm RT F pm_X8_send n) (45, ((65 : Nat) : Int), ((1 : Nat) : Int), 11, []) L st h := run_s rfl
theorem r_X8_send_11 : run E g mi_X8_send d lm RT F pm_X8_send (n + 1) 11 L st h = exI E d lm RT F (run E g mi_X8_send d lm RT F pm_X8_send n) (31, 1, ((16 : Nat) : Int), 14, []) L st h := run_s rfl
theorem r_X8_send_14 : run E g mi_X8_send d lm RT F pm_X8_send (n + 1) 14 L st h = exI E d lm RT F (run E g mi_X8_send d lm RT F pm_X8_send n) (0, (-1), 0, 15, []) L st h := run_s rfl
theorem r_X8_send_15 : run E g mi_X8_send d lm RT F pm_X8_send (n + 1) 15 L st h = exI E d lm RT F (run E g mi_X8_send d lm RT F pm_X8_send n) (48, 0, 0, 0, []) L st h := run_s rfl
theorem r_X8_send_16 : run E g mi_X8_send d lm RT F pm_X8_send (n + 1) 16 L st h = exI E d lm RT F (run E g mi_X8_send d lm RT F pm_X8_send n) (1, ((1 : Nat) : Int), 0, 17, []) L st h := run_s rfl
theorem r_X8_send_17 : run E g mi_X8_send d lm RT F pm_X8_send (n + 1) 17 L st h = exI E d lm RT F (run E g mi_X8_send d lm RT F pm_X8_send n) (31, 2, ((25 : Nat) : Int), 20, []) L st h := run_s rfl
theorem r_X8_send_20 : run E g mi_X8_send d lm RT F pm_X8_send (n + 1) 20 L st h = exI E d lm RT F (run E g mi_X8_send d lm RT F pm_X8_send n) (1, ((1 : Nat) : Int), 0, 21, []) L st h := run_s rfl
theorem r_X8_send_21 : run E g mi_X8_send d lm RT F pm_X8_send (n + 1) 21 L st h = exI E d lm RT F (run E g mi_X8_send d lm RT F pm_X8_send n) (0, 3, 0, 22, []) L st h := run_s rfl
theorem r_X8_send_22 : run E g mi_X8_send d lm RT F pm_X8_send (n + 1) 22 L st h = exI E d lm RT F (run E g mi_X8_send d lm RT F pm_X8_send n) (32, 2, ((28 : Nat) : Int), 25, []) L st h := run_s rfl
theorem r_X8_send_25 : run E g mi_X8_send d lm RT F pm_X8_send (n + 1) 25 L st h = exI E d lm RT F (run E g mi_X8_send d lm RT F pm_X8_send n) (0, (-2), 0, 27, []) L st h := run_s rfl
theorem r_X8_send_27 : run E g mi_X8_send d lm RT F pm_X8_send (n + 1) 27 L st h = exI E d lm RT F (run E g mi_X8_send d lm RT F pm_X8_send n) (48, 0, 0, 0, []) L st h := run_s rfl
theorem r_X8_send_28 : run E g mi_X8_send d lm RT F pm_X8_send (n + 1) 28 L st h = exI E d lm RT F (run E g mi_X8_send d lm RT F pm_X8_send n) (1, ((2 : Nat) : Int), 0, 29, []) L st h := run_s rfl
theorem r_X8_send_29 : run E g mi_X8_send d lm RT F pm_X8_send (n + 1) 29 L st h = exI E d lm RT F (run E g mi_X8_send d lm RT F pm_X8_send n) (1, ((3 : Nat) : Int), 0, 30, []) L st h := run_s rfl
theorem r_X8_send_30 : run E g mi_X8_send d lm RT F pm_X8_send (n + 1) 30 L st h = exI E d lm RT F (run E g mi_X8_send d lm RT F pm_X8_send n) (32, 1, ((36 : Nat) : Int), 33, []) L st h := run_s rfl
theorem r_X8_send_33 : run E g mi_X8_send d lm RT F pm_X8_send (n + 1) 33 L st h = exI E d lm RT F (run E g mi_X8_send d lm RT F pm_X8_send n) (0, (-3), 0, 35, []) L st h := run_s rfl
theorem r_X8_send_35 : run E g mi_X8_send d lm RT F pm_X8_send (n + 1) 35 L st h = exI E d lm RT F (run E g mi_X8_send d lm RT F pm_X8_send n) (48, 0, 0, 0, []) L st h := run_s rfl
theorem r_X8_send_36 : run E g mi_X8_send d lm RT F pm_X8_send (n + 1) 36 L st h = exI E d lm RT F (run E g mi_X8_send d lm RT F pm_X8_send n) (2, ((0 : Nat) : Int), 0, 37, []) L st h := run_s rfl
theorem r_X8_send_37 : run E g mi_X8_send d lm RT F pm_X8_send (n + 1) 37 L st h = exI E d lm RT F (run E g mi_X8_send d lm RT F pm_X8_send n) (51, ((72 : Nat) : Int), ((1 : Nat) : Int), 40, [8]) L st h := run_s rfl
theorem r_X8_send_40 : run E g mi_X8_send d lm RT F pm_X8_send (n + 1) 40 L st h = exI E d lm RT F (run E g mi_X8_send d lm RT F pm_X8_send n) (4, ((4 : Nat) : Int), 0, 42, []) L st h := run_s rfl
theorem r_X8_send_42 : run E g mi_X8_send d lm RT F pm_X8_send (n + 1) 42 L st h = exI E d lm RT F (run E g mi_X8_send d lm RT F pm_X8_send n) (1, ((4 : Nat) : Int), 0, 44, []) L st h := run_s rfl
theorem r_X8_send_44 : run E g mi_X8_send d lm RT F pm_X8_send (n + 1) 44 L st h = exI E d lm RT F (run E g mi_X8_send d lm RT F pm_X8_send n) (0, (-9), 0, 46, []) L st h := run_s rfl
theorem r_X8_send_46 : run E g mi_X8_send d lm RT F pm_X8_send (n + 1) 46 L st h = exI E d lm RT F (run E g mi_X8_send d lm RT F pm_X8_send n) (32, 1, ((52 : Nat) : Int), 49, []) L st h := run_s rfl
theorem r_X8_send_49 : run E g mi_X8_send d lm RT F pm_X8_send (n + 1) 49 L st h = exI E d lm RT F (run E g mi_X8_send d lm RT F pm_X8_send n) (0, (-4), 0, 51, []) L st h := run_s rfl
theorem r_X8_send_51 : run E g mi_X8_send d lm RT F pm_X8_send (n + 1) 51 L st h = exI E d lm RT F (run E g mi_X8_send d lm RT F pm_X8_send n) (48, 0, 0, 0, []) L st h := run_s rfl
theorem r_X8_send_52 : run E g mi_X8_send d lm RT F pm_X8_send (n + 1) 52 L st h = exI E d lm RT F (run E g mi_X8_send d lm RT F pm_X8_send n) (2, ((0 : Nat) : Int), 0, 53, []) L st h := run_s rfl
theorem r_X8_send_53 : run E g mi_X8_send d lm RT F pm_X8_send (n + 1) 53 L st h = exI E d lm RT F (run E g mi_X8_send d lm RT F pm_X8_send n) (35, ((8 : Nat) : Int), ((3 : Nat) : Int), 56, []) L st h := run_s rfl
theorem r_X8_send_56 : run E g mi_X8_send d lm RT F pm_X8_send (n + 1) 56 L st h = exI E d lm RT F (run E g mi_X8_send d lm RT F pm_X8_send n) (1, ((4 : Nat) : Int), 0, 58, []) L st h := run_s rfl
theorem r_X8_send_58 : run E g mi_X8_send d lm RT F pm_X8_send (n + 1) 58 L st h = exI E d lm RT F (run E g mi_X8_send d lm RT F pm_X8_send n) (49, 0, 0, 59, []) L st h := run_s rfl
theorem r_X8_send_59 : run E g mi_X8_send d lm RT F pm_X8_send (n + 1) 59 L st h = exI E d lm RT F (run E g mi_X8_send d lm RT F pm_X8_send n) (5, ((5 : Nat) : Int), 0, 61, []) L st h := run_s rfl
theorem r_X8_send_61 : run E g mi_X8_send d lm RT F pm_X8_send (n + 1) 61 L st h = exI E d lm RT F (run E g mi_X8_send d lm RT F pm_X8_send n) (2, ((5 : Nat) : Int), 0, 63, []) L st h := run_s rfl
theorem r_X8_send_63 : run E g mi_X8_send d lm RT F pm_X8_send (n + 1) 63 L st h = exI E d lm RT F (run E g mi_X8_send d lm RT F pm_X8_send n) (1, ((1 : Nat) : Int), 0, 64, []) L st h := run_s rfl
theorem r_X8_send_64 : run E g mi_X8_send d lm RT F pm_X8_send (n + 1) 64 L st h = exI E d lm RT F (run E g mi_X8_send d lm RT F pm_X8_send n) (1, ((2 : Nat) : Int), 0, 65, []) L st h := run_s rfl
theorem r_X8_send_65 : run E g mi_X8_send d lm RT F pm_X8_send (n + 1) 65 L st h = exI E d lm RT F (run E g mi_X8_send d lm RT F pm_X8_send n) (1, ((3 : Nat) : Int), 0, 66, []) L st h := run_s rfl
theorem r_X8_send_66 : run E g mi_X8_send d lm RT F pm_X8_send (n + 1) 66 L st h = exI E d lm RT F (run E g mi_X8_send d lm RT F pm_X8_send n) (2, ((0 : Nat) : Int), 0, 67, []) L st h := run_s rfl
theorem r_X8_send_67 : run E g mi_X8_send d lm RT F pm_X8_send (n + 1) 67 L st h = exI E d lm RT F (run E g mi_X8_send d lm RT F pm_X8_send n) (35, ((8 : Nat) : Int), ((10 : Nat) : Int), 70, []) L st h := run_s rfl
theorem r_X8_send_70 : run E g mi_X8_send d lm RT F pm_X8_send (n + 1) 70 L st h = exI E d lm RT F (run E g mi_X8_send d lm RT F pm_X8_send n) (51, ((37 : Nat) : Int), ((5 : Nat) : Int), 73, [7]) L st h := run_s rfl
theorem r_X8_send_73 : run E g mi_X8_send d lm RT F pm_X8_send (n + 1) 73 L st h = exI E d lm RT F (run E g mi_X8_send d lm RT F pm_X8_send n) (2, ((0 : Nat) : Int), 0, 74, []) L st h := run_s rfl
theorem r_X8_send_74 : run E g mi_X8_send d lm RT F pm_X8_send (n + 1) 74 L st h = exI E d lm RT F (run E g mi_X8_send d lm RT F pm_X8_send n) (2, ((5 : Nat) : Int), 0, 76, []) L st h := run_s rfl
theorem r_X8_send_76 : run E g mi_X8_send d lm RT F pm_X8_send (n + 1) 76 L st h = exI E d lm RT F (run E g mi_X8_send d lm RT F pm_X8_send n) (1, ((2 : Nat) : Int), 0, 77, []) L st h := run_s rfl
theorem r_X8_send_77 : run E g mi_X8_send d lm RT F pm_X8_send (n + 1) 77 L st h = exI E d lm RT F (run E g mi_X8_send d lm RT F pm_X8_send n) (51, ((80 : Nat) : Int), ((3 : Nat) : Int), 80, [8]) L st h := run_s rfl
theorem r_X8_send_80 : run E g mi_X8_send d lm RT F pm_X8_send (n + 1) 80 L st h = exI E d lm RT F (run E g mi_X8_send d lm RT F pm_X8_send n) (2, ((5 : Nat) : Int), 0, 82, []) L st h := run_s rfl
theorem r_X8_send_82 : run E g mi_X8_send d lm RT F pm_X8_send (n + 1) 82 L st h = exI E d lm RT F (run E g mi_X8_send d lm RT F pm_X8_send n) (35, ((7 : Nat) : Int), ((3 : Nat) : Int), 85, []) L st h := run_s rfl
theorem r_X8_send_85 : run E g mi_X8_send d lm RT F pm_X8_send (n + 1) 85 L st h = exI E d lm RT F (run E g mi_X8_send d lm RT F pm_X8_send n) (31, 0, ((93 : Nat) : Int), 88, []) L st h := run_s rfl
theorem r_X8_send_88 : run E g mi_X8_send d lm RT F pm_X8_send (n + 1) 88 L st h = exI E d lm RT F (run E g mi_X8_send d lm RT F pm_X8_send n) (1, ((4 : Nat) : Int), 0, 90, []) L st h := run_s rfl
theorem r_X8_send_90 : run E g mi_X8_send d lm RT F pm_X8_send (n + 1) 90 L st h = exI E d lm RT F (run E g mi_X8_send d lm RT F pm_X8_send n) (33, ((95 : Nat) : Int), 0, 0, []) L st h := run_s rfl
theorem r_X8_send_93 : run E g mi_X8_send d lm RT F pm_X8_send (n + 1) 93 L st h = exI E d lm RT F (run E g mi_X8_send d lm RT F pm_X8_send n) (0, (-9), 0, 95, []) L st h := run_s rfl
theorem r_X8_send_95 : run E g mi_X8_send d lm RT F pm_X8_send (n + 1) 95 L st h = exI E d lm RT F (run E g mi_X8_send d lm RT F pm_X8_send n) (48, 0, 0, 0, []) L st h := run_s rfl
theorem e_X8_send (n : Nat) {pc : Nat} (hF : FOk E d F) (hx : run E g mi_X8_send d lm RT F pm_X8_send n pc L st h) : G E g mi_X8_send d lm RT pc L st h := run_sound hF pk_X8_send n pc L st h hx
end
def mi_X8_ticks : MI := (8, cX8_ticks, 4, 0, false)
theorem mo_X8_ticks : miOk mi_X8_ticks (mt 57) = true := by decide +kernel
def tl_X8_ticks : List (Nat × PT) := [(0, (1, ((1 : Nat) : Int), 0, 1, [])),
  (1, (31, 2, ((11 : Nat) : Int), 4, [])),
  (4, (1, ((1 : Nat) : Int), 0, 5, [])),
  (5, (0, 200, 0, 8, [])),
  (8, (32, 5, ((14 : Nat) : Int), 11, [])),
  (11, (0, (-2), 0, 13, [])),
  (13, (48, 0, 0, 0, [])),
  (14, (2, ((0 : Nat) : Int), 0, 15, [])),
  (15, (35, ((8 : Nat) : Int), ((11 : Nat) : Int), 18, [])),
  (18, (4, ((2 : Nat) : Int), 0, 19, [])),
  (19, (0, 0, 0, 20, [])),
  (20, (4, ((3 : Nat) : Int), 0, 21, [])),
  (21, (1, ((3 : Nat) : Int), 0, 22, [])),
  (22, (1, ((1 : Nat) : Int), 0, 23, [])),
  (23, (32, 3, ((36 : Nat) : Int), 26, [])),
  (26, (2, ((0 : Nat) : Int), 0, 27, [])),
  (27, (51, ((78 : Nat) : Int), ((1 : Nat) : Int), 30, [8])),
  (30, (7, ((3 : Nat) : Int), 1, 33, [])),
  (33, (33, ((21 : Nat) : Int), 0, 0, [])),
  (36, (2, ((0 : Nat) : Int), 0, 37, [])),
  (37, (35, ((8 : Nat) : Int), ((11 : Nat) : Int), 40, [])),
  (40, (1, ((2 : Nat) : Int), 0, 41, [])),
  (41, (9, 0, 0, 42, [])),
  (42, (48, 0, 0, 0, []))]
theorem tk_X8_ticks : tOk mi_X8_ticks tl_X8_ticks = true := by decide +kernel
def pm_X8_ticks (pc : Nat) : Option PT := if [21].contains pc then none else tl_X8_ticks.lookup pc
theorem pk_X8_ticks : ∀ pc pt, pm_X8_ticks pc = some pt → okPt mi_X8_ticks pc pt := fun pc pt h => tOk_pm tk_X8_ticks h
section
variable {E : ET} {g : GT} {d : Nat} {lm : Nat × Nat} {RT : RTy} {F : FT} {n : Nat} {L : LV} {st : List AV} {h : AH}
theorem r_X8_ticks_0 : run E g mi_X8_ticks d lm RT F pm_X8_ticks (n + 1) 0 L st h = exI E d lm RT F (run E g mi_X8_ticks d lm RT F pm_X8_ticks n) (1, ((1 : Nat) : Int), 0, 1, []) L st h := run_s rfl
theorem r_X8_ticks_1 : run E g mi_X8_ticks d lm RT F pm_X8_ticks (n + 1) 1 L st h = exI E d lm RT F (run E g mi_X8_ticks d lm RT F pm_X8_ticks n) (31, 2, ((11 : Nat) : Int), 4, []) L st h := run_s rfl
theorem r_X8_ticks_4 : run E g mi_X8_ticks d lm RT F pm_X8_ticks (n + 1) 4 L st h = exI E d lm RT F (run E g mi_X8_ticks d lm RT F pm_X8_ticks n) (1, ((1 : Nat) : Int), 0, 5, []) L st h := run_s rfl
theorem r_X8_ticks_5 : run E g mi_X8_ticks d lm RT F pm_X8_ticks (n + 1) 5 L st h = exI E d lm RT F (run E g mi_X8_ticks d lm RT F pm_X8_ticks n) (0, 200, 0, 8, []) L st h := run_s rfl
theorem r_X8_ticks_8 : run E g mi_X8_ticks d lm RT F pm_X8_ticks (n + 1) 8 L st h = exI E d lm RT F (run E g mi_X8_ticks d lm RT F pm_X8_ticks n) (32, 5, ((14 : Nat) : Int), 11, []) L st h := run_s rfl
theorem r_X8_ticks_11 : run E g mi_X8_ticks d lm RT F pm_X8_ticks (n + 1) 11 L st h = exI E d lm RT F (run E g mi_X8_ticks d lm RT F pm_X8_ticks n) (0, (-2), 0, 13, []) L st h := run_s rfl
theorem r_X8_ticks_13 : run E g mi_X8_ticks d lm RT F pm_X8_ticks (n + 1) 13 L st h = exI E d lm RT F (run E g mi_X8_ticks d lm RT F pm_X8_ticks n) (48, 0, 0, 0, []) L st h := run_s rfl
theorem r_X8_ticks_14 : run E g mi_X8_ticks d lm RT F pm_X8_ticks (n + 1) 14 L st h = exI E d lm RT F (run E g mi_X8_ticks d lm RT F pm_X8_ticks n) (2, ((0 : Nat) : Int), 0, 15, []) L st h := run_s rfl
theorem r_X8_ticks_15 : run E g mi_X8_ticks d lm RT F pm_X8_ticks (n + 1) 15 L st h = exI E d lm RT F (run E g mi_X8_ticks d lm RT F pm_X8_ticks n) (35, ((8 : Nat) : Int), ((11 : Nat) : Int), 18, []) L st h := run_s rfl
theorem r_X8_ticks_18 : run E g mi_X8_ticks d lm RT F pm_X8_ticks (n + 1) 18 L st h = exI E d lm RT F (run E g mi_X8_ticks d lm RT F pm_X8_ticks n) (4, ((2 : Nat) : Int), 0, 19, []) L st h := run_s rfl
theorem r_X8_ticks_19 : run E g mi_X8_ticks d lm RT F pm_X8_ticks (n + 1) 19 L st h = exI E d lm RT F (run E g mi_X8_ticks d lm RT F pm_X8_ticks n) (0, 0, 0, 20, []) L st h := run_s rfl
theorem r_X8_ticks_20 : run E g mi_X8_ticks d lm RT F pm_X8_ticks (n + 1) 20 L st h = exI E d lm RT F (run E g mi_X8_ticks d lm RT F pm_X8_ticks n) (4, ((3 : Nat) : Int), 0, 21, []) L st h := run_s rfl
theorem r_X8_ticks_21 : run E g mi_X8_ticks d lm RT F pm_X8_ticks (n + 1) 21 L st h = G E g mi_X8_ticks d lm RT 21 L st h := run_c rfl
theorem q_X8_ticks_21 (n : Nat) (hF : FOk E d F) (hx : exI E d lm RT F (run E g mi_X8_ticks d lm RT F pm_X8_ticks n) (1, ((3 : Nat) : Int), 0, 22, []) L st h) : G E g mi_X8_ticks d lm RT 21 L st h := sstep hF (tOk_spec tk_X8_ticks (by decide +kernel)) (run_sound hF pk_X8_ticks n) hx
theorem r_X8_ticks_22 : run E g mi_X8_ticks d lm RT F pm_X8_ticks (n + 1) 22 L st h = exI E d lm RT F (run E g mi_X8_ticks d lm RT F pm_X8_ticks n) (1, ((1 : Nat) : Int), 0, 23, []) L st h := run_s rfl
theorem r_X8_ticks_23 : run E g mi_X8_ticks d lm RT F pm_X8_ticks (n + 1) 23 L st h = exI E d lm RT F (run E g mi_X8_ticks d lm RT F pm_X8_ticks n) (32, 3, ((36 : Nat) : Int), 26, []) L st h := run_s rfl
theorem r_X8_ticks_26 : run E g mi_X8_ticks d lm RT F pm_X8_ticks (n + 1) 26 L st h = exI E d lm RT F (run E g mi_X8_ticks d lm RT F pm_X8_ticks n) (2, ((0 : Nat) : Int), 0, 27, []) L st h := run_s rfl
theorem r_X8_ticks_27 : run E g mi_X8_ticks d lm RT F pm_X8_ticks (n + 1) 27 L st h = exI E d lm RT F (run E g mi_X8_ticks d lm RT F pm_X8_ticks n) (51, ((78 : Nat) : Int), ((1 : Nat) : Int), 30, [8]) L st h := run_s rfl
theorem r_X8_ticks_30 : run E g mi_X8_ticks d lm RT F pm_X8_ticks (n + 1) 30 L st h = exI E d lm RT F (run E g mi_X8_ticks d lm RT F pm_X8_ticks n) (7, ((3 : Nat) : Int), 1, 33, []) L st h := run_s rfl
theorem r_X8_ticks_33 : run E g mi_X8_ticks d lm RT F pm_X8_ticks (n + 1) 33 L st h = exI E d lm RT F (run E g mi_X8_ticks d lm RT F pm_X8_ticks n) (33, ((21 : Nat) : Int), 0, 0, []) L st h := run_s rfl
theorem r_X8_ticks_36 : run E g mi_X8_ticks d lm RT F pm_X8_ticks (n + 1) 36 L st h = exI E d lm RT F (run E g mi_X8_ticks d lm RT F pm_X8_ticks n) (2, ((0 : Nat) : Int), 0, 37, []) L st h := run_s rfl
theorem r_X8_ticks_37 : run E g mi_X8_ticks d lm RT F pm_X8_ticks (n + 1) 37 L st h = exI E d lm RT F (run E g mi_X8_ticks d lm RT F pm_X8_ticks n) (35, ((8 : Nat) : Int), ((11 : Nat) : Int), 40, []) L st h := run_s rfl
theorem r_X8_ticks_40 : run E g mi_X8_ticks d lm RT F pm_X8_ticks (n + 1) 40 L st h = exI E d lm RT F (run E g mi_X8_ticks d lm RT F pm_X8_ticks n) (1, ((2 : Nat) : Int), 0, 41, []) L st h := run_s rfl
theorem r_X8_ticks_41 : run E g mi_X8_ticks d lm RT F pm_X8_ticks (n + 1) 41 L st h = exI E d lm RT F (run E g mi_X8_ticks d lm RT F pm_X8_ticks n) (9, 0, 0, 42, []) L st h := run_s rfl
theorem r_X8_ticks_42 : run E g mi_X8_ticks d lm RT F pm_X8_ticks (n + 1) 42 L st h = exI E d lm RT F (run E g mi_X8_ticks d lm RT F pm_X8_ticks n) (48, 0, 0, 0, []) L st h := run_s rfl
theorem e_X8_ticks (n : Nat) {pc : Nat} (hF : FOk E d F) (hx : run E g mi_X8_ticks d lm RT F pm_X8_ticks n pc L st h) : G E g mi_X8_ticks d lm RT pc L st h := run_sound hF pk_X8_ticks n pc L st h hx
end
def mi_X8_walker : MI := (8, cX8_walker, 4, 0, false)
theorem mo_X8_walker : miOk mi_X8_walker (mt 58) = true := by decide +kernel
def tl_X8_walker : List (Nat × PT) := [(0, (2, ((0 : Nat) : Int), 0, 1, [])),
  (1, (1, ((1 : Nat) : Int), 0, 2, [])),
  (2, (52, ((68 : Nat) : Int), ((2 : Nat) : Int), 5, [8])),
  (5, (31, 1, ((10 : Nat) : Int), 8, [])),
  (8, (0, (-1), 0, 9, [])),
  (9, (48, 0, 0, 0, [])),
  (10, (2, ((0 : Nat) : Int), 0, 11, [])),
  (11, (35, ((8 : Nat) : Int), ((3 : Nat) : Int), 14, [])),
  (14, (1, ((1 : Nat) : Int), 0, 15, [])),
  (15, (49, 0, 0, 16, [])),
  (16, (5, ((3 : Nat) : Int), 0, 17, [])),
  (17, (1, ((2 : Nat) : Int), 0, 18, [])),
  (18, (34, 0, ((121 : Nat) : Int), 0, [68, 73, 78, 83, 96, 101, 106, 111, 116])),
  (68, (2, ((3 : Nat) : Int), 0, 69, [])),
  (69, (35, ((7 : Nat) : Int), ((5 : Nat) : Int), 72, [])),
  (72, (48, 0, 0, 0, [])),
  (73, (2, ((3 : Nat) : Int), 0, 74, [])),
  (74, (35, ((7 : Nat) : Int), ((6 : Nat) : Int), 77, [])),
  (77, (48, 0, 0, 0, [])),
  (78, (2, ((3 : Nat) : Int), 0, 79, [])),
  (79, (35, ((7 : Nat) : Int), ((7 : Nat) : Int), 82, [])),
  (82, (48, 0, 0, 0, [])),
  (83, (2, ((3 : Nat) : Int), 0, 84, [])),
  (84, (35, ((7 : Nat) : Int), ((4 : Nat) : Int), 87, [])),
  (87, (31, 0, ((94 : Nat) : Int), 90, [])),
  (90, (0, 1, 0, 91, [])),
  (91, (33, ((95 : Nat) : Int), 0, 0, [])),
  (94, (0, 0, 0, 95, [])),
  (95, (48, 0, 0, 0, [])),
  (96, (2, ((3 : Nat) : Int), 0, 97, [])),
  (97, (35, ((7 : Nat) : Int), ((8 : Nat) : Int), 100, [])),
  (100, (48, 0, 0, 0, [])),
  (101, (2, ((3 : Nat) : Int), 0, 102, [])),
  (102, (35, ((7 : Nat) : Int), ((9 : Nat) : Int), 105, [])),
  (105, (48, 0, 0, 0, [])),
  (106, (2, ((3 : Nat) : Int), 0, 107, [])),
  (107, (35, ((7 : Nat) : Int), ((10 : Nat) : Int), 110, [])),
  (110, (48, 0, 0, 0, [])),
  (111, (2, ((3 : Nat) : Int), 0, 112, [])),
  (112, (35, ((7 : Nat) : Int), ((2 : Nat) : Int), 115, [])),
  (115, (48, 0, 0, 0, [])),
  (116, (2, ((3 : Nat) : Int), 0, 117, [])),
  (117, (35, ((7 : Nat) : Int), ((11 : Nat) : Int), 120, [])),
  (120, (48, 0, 0, 0, [])),
  (121, (0, (-2), 0, 123, [])),
  (123, (48, 0, 0, 0, []))]
theorem tk_X8_walker_0 : tOk mi_X8_walker ((tl_X8_walker.drop 0).take 45) = true := by decide +kernel
theorem tk_X8_walker_1 : tOk mi_X8_walker ((tl_X8_walker.drop 45).take 45) = true := by decide +kernel
theorem tk_X8_walker : tOk mi_X8_walker tl_X8_walker = true := by
  refine tOk_cut 45 (by decide) (fun q hq => ?_)
  have hl : tl_X8_walker.length = 46 := by decide +kernel
  rw [hl] at hq
  rcases (show q = 0 ∨ q = 1 by omega) with rfl | rfl
  · exact tk_X8_walker_0
  · exact tk_X8_walker_1
def pm_X8_walker (pc : Nat) : Option PT := if [].contains pc then none else tl_X8_walker.lookup pc
theorem pk_X8_walker : ∀ pc pt, pm_X8_walker pc = some pt → okPt mi_X8_walker pc pt := fun pc pt h => tOk_pm tk_X8_walker h
section
variable {E : ET} {g : GT} {d : Nat} {lm : Nat × Nat} {RT : RTy} {F : FT} {n : Nat} {L : LV} {st : List AV} {h : AH}
theorem r_X8_walker_0 : run E g mi_X8_walker d lm RT F pm_X8_walker (n + 1) 0 L st h = exI E d lm RT F (run E g mi_X8_walker d lm RT F pm_X8_walker n) (2, ((0 : Nat) : Int), 0, 1, []) L st h := run_s rfl
theorem r_X8_walker_1 : run E g mi_X8_walker d lm RT F pm_X8_walker (n + 1) 1 L st h = exI E d lm RT F (run E g mi_X8_walker d lm RT F pm_X8_walker n) (1, ((1 : Nat) : Int), 0, 2, []) L st h := run_s rfl
theorem r_X8_walker_2 : run E g mi_X8_walker d lm RT F pm_X8_walker (n + 1) 2 L st h = exI E d lm RT F (run E g mi_X8_walker d lm RT F pm_X8_walker n) (52, ((68 : Nat) : Int), ((2 : Nat) : Int), 5, [8]) L st h := run_s rfl
theorem r_X8_walker_5 : run E g mi_X8_walker d lm RT F pm_X8_walker (n + 1) 5 L st h = exI E d lm RT F (run E g mi_X8_walker d lm RT F pm_X8_walker n) (31, 1, ((10 : Nat) : Int), 8, []) L st h := run_s rfl
theorem r_X8_walker_8 : run E g mi_X8_walker d lm RT F pm_X8_walker (n + 1) 8 L st h = exI E d lm RT F (run E g mi_X8_walker d lm RT F pm_X8_walker n) (0, (-1), 0, 9, []) L st h := run_s rfl
theorem r_X8_walker_9 : run E g mi_X8_walker d lm RT F pm_X8_walker (n + 1) 9 L st h = exI E d lm RT F (run E g mi_X8_walker d lm RT F pm_X8_walker n) (48, 0, 0, 0, []) L st h := run_s rfl
theorem r_X8_walker_10 : run E g mi_X8_walker d lm RT F pm_X8_walker (n + 1) 10 L st h = exI E d lm RT F (run E g mi_X8_walker d lm RT F pm_X8_walker n) (2, ((0 : Nat) : Int), 0, 11, []) L st h := run_s rfl
theorem r_X8_walker_11 : run E g mi_X8_walker d lm RT F pm_X8_walker (n + 1) 11 L st h = exI E d lm RT F (run E g mi_X8_walker d lm RT F pm_X8_walker n) (35, ((8 : Nat) : Int), ((3 : Nat) : Int), 14, []) L st h := run_s rfl
theorem r_X8_walker_14 : run E g mi_X8_walker d lm RT F pm_X8_walker (n + 1) 14 L st h = exI E d lm RT F (run E g mi_X8_walker d lm RT F pm_X8_walker n) (1, ((1 : Nat) : Int), 0, 15, []) L st h := run_s rfl
theorem r_X8_walker_15 : run E g mi_X8_walker d lm RT F pm_X8_walker (n + 1) 15 L st h = exI E d lm RT F (run E g mi_X8_walker d lm RT F pm_X8_walker n) (49, 0, 0, 16, []) L st h := run_s rfl
theorem r_X8_walker_16 : run E g mi_X8_walker d lm RT F pm_X8_walker (n + 1) 16 L st h = exI E d lm RT F (run E g mi_X8_walker d lm RT F pm_X8_walker n) (5, ((3 : Nat) : Int), 0, 17, []) L st h := run_s rfl
theorem r_X8_walker_17 : run E g mi_X8_walker d lm RT F pm_X8_walker (n + 1) 17 L st h = exI E d lm RT F (run E g mi_X8_walker d lm RT F pm_X8_walker n) (1, ((2 : Nat) : Int), 0, 18, []) L st h := run_s rfl
theorem r_X8_walker_18 : run E g mi_X8_walker d lm RT F pm_X8_walker (n + 1) 18 L st h = exI E d lm RT F (run E g mi_X8_walker d lm RT F pm_X8_walker n) (34, 0, ((121 : Nat) : Int), 0, [68, 73, 78, 83, 96, 101, 106, 111, 116]) L st h := run_s rfl
theorem r_X8_walker_68 : run E g mi_X8_walker d lm RT F pm_X8_walker (n + 1) 68 L st h = exI E d lm RT F (run E g mi_X8_walker d lm RT F pm_X8_walker n) (2, ((3 : Nat) : Int), 0, 69, []) L st h := run_s rfl
theorem r_X8_walker_69 : run E g mi_X8_walker d lm RT F pm_X8_walker (n + 1) 69 L st h = exI E d lm RT F (run E g mi_X8_walker d lm RT F pm_X8_walker n) (35, ((7 : Nat) : Int), ((5 : Nat) : Int), 72, []) L st h := run_s rfl
theorem r_X8_walker_72 : run E g mi_X8_walker d lm RT F pm_X8_walker (n + 1) 72 L st h = exI E d lm RT F (run E g mi_X8_walker d lm RT F pm_X8_walker n) (48, 0, 0, 0, []) L st h := run_s rfl
theorem r_X8_walker_73 : run E g mi_X8_walker d lm RT F pm_X8_walker (n + 1) 73 L st h = exI E d lm RT F (run E g mi_X8_walker d lm RT F pm_X8_walker n) (2, ((3 : Nat) : Int), 0, 74, []) L st h := run_s rfl
theorem r_X8_walker_74 : run E g mi_X8_walker d lm RT F pm_X8_walker (n + 1) 74 L st h = exI E d lm RT F (run E g mi_X8_walker d lm RT F pm_X8_walker n) (35, ((7 : Nat) : Int), ((6 : Nat) : Int), 77, []) L st h := run_s rfl
theorem r_X8_walker_77 : run E g mi_X8_walker d lm RT F pm_X8_walker (n + 1) 77 L st h = exI E d lm RT F (run E g mi_X8_walker d lm RT F pm_X8_walker n) (48, 0, 0, 0, []) L st h := run_s rfl
theorem r_X8_walker_78 : run E g mi_X8_walker d lm RT F pm_X8_walker (n + 1) 78 L st h = exI E d lm RT F (run E g mi_X8_walker d lm RT F pm_X8_walker n) (2, ((3 : Nat) : Int), 0, 79, []) L st h := run_s rfl
theorem r_X8_walker_79 : run E g mi_X8_walker d lm RT F pm_X8_walker (n + 1) 79 L st h = exI E d lm RT F (run E g mi_X8_walker d lm RT F pm_X8_walker n) (35, ((7 : Nat) : Int), ((7 : Nat) : Int), 82, []) L st h := run_s rfl
theorem r_X8_walker_82 : run E g mi_X8_walker d lm RT F pm_X8_walker (n + 1) 82 L st h = exI E d lm RT F (run E g mi_X8_walker d lm RT F pm_X8_walker n) (48, 0, 0, 0, []) L st h := run_s rfl
theorem r_X8_walker_83 : run E g mi_X8_walker d lm RT F pm_X8_walker (n + 1) 83 L st h = exI E d lm RT F (run E g mi_X8_walker d lm RT F pm_X8_walker n) (2, ((3 : Nat) : Int), 0, 84, []) L st h := run_s rfl
theorem r_X8_walker_84 : run E g mi_X8_walker d lm RT F pm_X8_walker (n + 1) 84 L st h = exI E d lm RT F (run E g mi_X8_walker d lm RT F pm_X8_walker n) (35, ((7 : Nat) : Int), ((4 : Nat) : Int), 87, []) L st h := run_s rfl
theorem r_X8_walker_87 : run E g mi_X8_walker d lm RT F pm_X8_walker (n + 1) 87 L st h = exI E d lm RT F (run E g mi_X8_walker d lm RT F pm_X8_walker n) (31, 0, ((94 : Nat) : Int), 90, []) L st h := run_s rfl
theorem r_X8_walker_90 : run E g mi_X8_walker d lm RT F pm_X8_walker (n + 1) 90 L st h = exI E d lm RT F (run E g mi_X8_walker d lm RT F pm_X8_walker n) (0, 1, 0, 91, []) L st h := run_s rfl
theorem r_X8_walker_91 : run E g mi_X8_walker d lm RT F pm_X8_walker (n + 1) 91 L st h = exI E d lm RT F (run E g mi_X8_walker d lm RT F pm_X8_walker n) (33, ((95 : Nat) : Int), 0, 0, []) L st h := run_s rfl
theorem r_X8_walker_94 : run E g mi_X8_walker d lm RT F pm_X8_walker (n + 1) 94 L st h = exI E d lm RT F (run E g mi_X8_walker d lm RT F pm_X8_walker n) (0, 0, 0, 95, []) L st h := run_s rfl
theorem r_X8_walker_95 : run E g mi_X8_walker d lm RT F pm_X8_walker (n + 1) 95 L st h = exI E d lm RT F (run E g mi_X8_walker d lm RT F pm_X8_walker n) (48, 0, 0, 0, []) L st h := run_s rfl
theorem r_X8_walker_96 : run E g mi_X8_walker d lm RT F pm_X8_walker (n + 1) 96 L st h = exI E d lm RT F (run E g mi_X8_walker d lm RT F pm_X8_walker n) (2, ((3 : Nat) : Int), 0, 97, []) L st h := run_s rfl
theorem r_X8_walker_97 : run E g mi_X8_walker d lm RT F pm_X8_walker (n + 1) 97 L st h = exI E d lm RT F (run E g mi_X8_walker d lm RT F pm_X8_walker n) (35, ((7 : Nat) : Int), ((8 : Nat) : Int), 100, []) L st h := run_s rfl
theorem r_X8_walker_100 : run E g mi_X8_walker d lm RT F pm_X8_walker (n + 1) 100 L st h = exI E d lm RT F (run E g mi_X8_walker d lm RT F pm_X8_walker n) (48, 0, 0, 0, []) L st h := run_s rfl
theorem r_X8_walker_101 : run E g mi_X8_walker d lm RT F pm_X8_walker (n + 1) 101 L st h = exI E d lm RT F (run E g mi_X8_walker d lm RT F pm_X8_walker n) (2, ((3 : Nat) : Int), 0, 102, []) L st h := run_s rfl
theorem r_X8_walker_102 : run E g mi_X8_walker d lm RT F pm_X8_walker (n + 1) 102 L st h = exI E d lm RT F (run E g mi_X8_walker d lm RT F pm_X8_walker n) (35, ((7 : Nat) : Int), ((9 : Nat) : Int), 105, []) L st h := run_s rfl
theorem r_X8_walker_105 : run E g mi_X8_walker d lm RT F pm_X8_walker (n + 1) 105 L st h = exI E d lm RT F (run E g mi_X8_walker d lm RT F pm_X8_walker n) (48, 0, 0, 0, []) L st h := run_s rfl
theorem r_X8_walker_106 : run E g mi_X8_walker d lm RT F pm_X8_walker (n + 1) 106 L st h = exI E d lm RT F (run E g mi_X8_walker d lm RT F pm_X8_walker n) (2, ((3 : Nat) : Int), 0, 107, []) L st h := run_s rfl
theorem r_X8_walker_107 : run E g mi_X8_walker d lm RT F pm_X8_walker (n + 1) 107 L st h = exI E d lm RT F (run E g mi_X8_walker d lm RT F pm_X8_walker n) (35, ((7 : Nat) : Int), ((10 : Nat) : Int), 110, []) L st h := run_s rfl
theorem r_X8_walker_110 : run E g mi_X8_walker d lm RT F pm_X8_walker (n + 1) 110 L st h = exI E d lm RT F (run E g mi_X8_walker d lm RT F pm_X8_walker n) (48, 0, 0, 0, []) L st h := run_s rfl
theorem r_X8_walker_111 : run E g mi_X8_walker d lm RT F pm_X8_walker (n + 1) 111 L st h = exI E d lm RT F (run E g mi_X8_walker d lm RT F pm_X8_walker n) (2, ((3 : Nat) : Int), 0, 112, []) L st h := run_s rfl
theorem r_X8_walker_112 : run E g mi_X8_walker d lm RT F pm_X8_walker (n + 1) 112 L st h = exI E d lm RT F (run E g mi_X8_walker d lm RT F pm_X8_walker n) (35, ((7 : Nat) : Int), ((2 : Nat) : Int), 115, []) L st h := run_s rfl
theorem r_X8_walker_115 : run E g mi_X8_walker d lm RT F pm_X8_walker (n + 1) 115 L st h = exI E d lm RT F (run E g mi_X8_walker d lm RT F pm_X8_walker n) (48, 0, 0, 0, []) L st h := run_s rfl
theorem r_X8_walker_116 : run E g mi_X8_walker d lm RT F pm_X8_walker (n + 1) 116 L st h = exI E d lm RT F (run E g mi_X8_walker d lm RT F pm_X8_walker n) (2, ((3 : Nat) : Int), 0, 117, []) L st h := run_s rfl
theorem r_X8_walker_117 : run E g mi_X8_walker d lm RT F pm_X8_walker (n + 1) 117 L st h = exI E d lm RT F (run E g mi_X8_walker d lm RT F pm_X8_walker n) (35, ((7 : Nat) : Int), ((11 : Nat) : Int), 120, []) L st h := run_s rfl
theorem r_X8_walker_120 : run E g mi_X8_walker d lm RT F pm_X8_walker (n + 1) 120 L st h = exI E d lm RT F (run E g mi_X8_walker d lm RT F pm_X8_walker n) (48, 0, 0, 0, []) L st h := run_s rfl
theorem r_X8_walker_121 : run E g mi_X8_walker d lm RT F pm_X8_walker (n + 1) 121 L st h = exI E d lm RT F (run E g mi_X8_walker d lm RT F pm_X8_walker n) (0, (-2), 0, 123, []) L st h := run_s rfl
theorem r_X8_walker_123 : run E g mi_X8_walker d lm RT F pm_X8_walker (n + 1) 123 L st h = exI E d lm RT F (run E g mi_X8_walker d lm RT F pm_X8_walker n) (48, 0, 0, 0, []) L st h := run_s rfl
theorem e_X8_walker (n : Nat) {pc : Nat} (hF : FOk E d F) (hx : run E g mi_X8_walker d lm RT F pm_X8_walker n pc L st h) : G E g mi_X8_walker d lm RT pc L st h := run_sound hF pk_X8_walker n pc L st h hx
end
def mi_X8_memory : MI := (8, cX8_memory, 5, 0, false)
theorem mo_X8_memory : miOk mi_X8_memory (mt 59) = true := by decide +kernel
def tl_X8_memory : List (Nat × PT) := [(0, (2, ((0 : Nat) : Int), 0, 1, [])),
  (1, (1, ((1 : Nat) : Int), 0, 2, [])),
  (2, (52, ((68 : Nat) : Int), ((2 : Nat) : Int), 5, [8])),
  (5, (31, 1, ((10 : Nat) : Int), 8, [])),
  (8, (0, (-1), 0, 9, [])),
  (9, (48, 0, 0, 0, [])),
  (10, (1, ((2 : Nat) : Int), 0, 11, [])),
  (11, (31, 2, ((29 : Nat) : Int), 14, [])),
  (14, (1, ((2 : Nat) : Int), 0, 15, [])),
  (15, (0, 8, 0, 17, [])),
  (17, (32, 3, ((29 : Nat) : Int), 20, [])),
  (20, (1, ((3 : Nat) : Int), 0, 21, [])),
  (21, (31, 2, ((29 : Nat) : Int), 24, [])),
  (24, (1, ((3 : Nat) : Int), 0, 25, [])),
  (25, (0, 1, 0, 26, [])),
  (26, (32, 5, ((32 : Nat) : Int), 29, [])),
  (29, (0, (-2), 0, 31, [])),
  (31, (48, 0, 0, 0, [])),
  (32, (2, ((0 : Nat) : Int), 0, 33, [])),
  (33, (35, ((8 : Nat) : Int), ((3 : Nat) : Int), 36, [])),
  (36, (1, ((1 : Nat) : Int), 0, 37, [])),
  (37, (49, 0, 0, 38, [])),
  (38, (5, ((4 : Nat) : Int), 0, 40, [])),
  (40, (1, ((2 : Nat) : Int), 0, 41, [])),
  (41, (2, ((4 : Nat) : Int), 0, 43, [])),
  (43, (35, ((7 : Nat) : Int), ((2 : Nat) : Int), 46, [])),
  (46, (32, 2, ((52 : Nat) : Int), 49, [])),
  (49, (0, (-9), 0, 51, [])),
  (51, (48, 0, 0, 0, [])),
  (52, (1, ((3 : Nat) : Int), 0, 53, [])),
  (53, (31, 1, ((66 : Nat) : Int), 56, [])),
  (56, (2, ((4 : Nat) : Int), 0, 58, [])),
  (58, (35, ((7 : Nat) : Int), ((0 : Nat) : Int), 61, [])),
  (61, (1, ((2 : Nat) : Int), 0, 62, [])),
  (62, (38, 0, 0, 63, [])),
  (63, (33, ((73 : Nat) : Int), 0, 0, [])),
  (66, (2, ((4 : Nat) : Int), 0, 68, [])),
  (68, (35, ((7 : Nat) : Int), ((1 : Nat) : Int), 71, [])),
  (71, (1, ((2 : Nat) : Int), 0, 72, [])),
  (72, (38, 0, 0, 73, [])),
  (73, (48, 0, 0, 0, []))]
theorem tk_X8_memory : tOk mi_X8_memory tl_X8_memory = true := by decide +kernel
def pm_X8_memory (pc : Nat) : Option PT := if [].contains pc then none else tl_X8_memory.lookup pc
theorem pk_X8_memory : ∀ pc pt, pm_X8_memory pc = some pt → okPt mi_X8_memory pc pt := fun pc pt h => tOk_pm tk_X8_memory h
section
variable {E : ET} {g : GT} {d : Nat} {lm : Nat × Nat} {RT : RTy} {F : FT} {n : Nat} {L : LV} {st : List AV} {h : AH}
theorem r_X8_memory_0 : run E g mi_X8_memory d lm RT F pm_X8_memory (n + 1) 0 L st h = exI E d lm RT F (run E g mi_X8_memory d lm RT F pm_X8_memory n) (2, ((0 : Nat) : Int), 0, 1, []) L st h := run_s rfl
theorem r_X8_memory_1 : run E g mi_X8_memory d lm RT F pm_X8_memory (n + 1) 1 L st h = exI E d lm RT F (run E g mi_X8_memory d lm RT F pm_X8_memory n) (1, ((1 : Nat) : Int), 0, 2, []) L st h := run_s rfl
theorem r_X8_memory_2 : run E g mi_X8_memory d lm RT F pm_X8_memory (n + 1) 2 L st h = exI E d lm RT F (run E g mi_X8_memory d lm RT F pm_X8_memory n) (52, ((68 : Nat) : Int), ((2 : Nat) : Int), 5, [8]) L st h := run_s rfl
theorem r_X8_memory_5 : run E g mi_X8_memory d lm RT F pm_X8_memory (n + 1) 5 L st h = exI E d lm RT F (run E g mi_X8_memory d lm RT F pm_X8_memory n) (31, 1, ((10 : Nat) : Int), 8, []) L st h := run_s rfl
theorem r_X8_memory_8 : run E g mi_X8_memory d lm RT F pm_X8_memory (n + 1) 8 L st h = exI E d lm RT F (run E g mi_X8_memory d lm RT F pm_X8_memory n) (0, (-1), 0, 9, []) L st h := run_s rfl
theorem r_X8_memory_9 : run E g mi_X8_memory d lm RT F pm_X8_memory (n + 1) 9 L st h = exI E d lm RT F (run E g mi_X8_memory d lm RT F pm_X8_memory n) (48, 0, 0, 0, []) L st h := run_s rfl
theorem r_X8_memory_10 : run E g mi_X8_memory d lm RT F pm_X8_memory (n + 1) 10 L st h = exI E d lm RT F (run E g mi_X8_memory d lm RT F pm_X8_memory n) (1, ((2 : Nat) : Int), 0, 11, []) L st h := run_s rfl
theorem r_X8_memory_11 : run E g mi_X8_memory d lm RT F pm_X8_memory (n + 1) 11 L st h = exI E d lm RT F (run E g mi_X8_memory d lm RT F pm_X8_memory n) (31, 2, ((29 : Nat) : Int), 14, []) L st h := run_s rfl
theorem r_X8_memory_14 : run E g mi_X8_memory d lm RT F pm_X8_memory (n + 1) 14 L st h = exI E d lm RT F (run E g mi_X8_memory d lm RT F pm_X8_memory n) (1, ((2 : Nat) : Int), 0, 15, []) L st h := run_s rfl
theorem r_X8_memory_15 : run E g mi_X8_memory d lm RT F pm_X8_memory (n + 1) 15 L st h = exI E d lm RT F (run E g mi_X8_memory d lm RT F pm_X8_memory n) (0, 8, 0, 17, []) L st h := run_s rfl
theorem r_X8_memory_17 : run E g mi_X8_memory d lm RT F pm_X8_memory (n + 1) 17 L st h = exI E d lm RT F (run E g mi_X8_memory d lm RT F pm_X8_memory n) (32, 3, ((29 : Nat) : Int), 20, []) L st h := run_s rfl
theorem r_X8_memory_20 : run E g mi_X8_memory d lm RT F pm_X8_memory (n + 1) 20 L st h = exI E d lm RT F (run E g mi_X8_memory d lm RT F pm_X8_memory n) (1, ((3 : Nat) : Int), 0, 21, []) L st h := run_s rfl
theorem r_X8_memory_21 : run E g mi_X8_memory d lm RT F pm_X8_memory (n + 1) 21 L st h = exI E d lm RT F (run E g mi_X8_memory d lm RT F pm_X8_memory n) (31, 2, ((29 : Nat) : Int), 24, []) L st h := run_s rfl
theorem r_X8_memory_24 : run E g mi_X8_memory d lm RT F pm_X8_memory (n + 1) 24 L st h = exI E d lm RT F (run E g mi_X8_memory d lm RT F pm_X8_memory n) (1, ((3 : Nat) : Int), 0, 25, []) L st h := run_s rfl
theorem r_X8_memory_25 : run E g mi_X8_memory d lm RT F pm_X8_memory (n + 1) 25 L st h = exI E d lm RT F (run E g mi_X8_memory d lm RT F pm_X8_memory n) (0, 1, 0, 26, []) L st h := run_s rfl
theorem r_X8_memory_26 : run E g mi_X8_memory d lm RT F pm_X8_memory (n + 1) 26 L st h = exI E d lm RT F (run E g mi_X8_memory d lm RT F pm_X8_memory n) (32, 5, ((32 : Nat) : Int), 29, []) L st h := run_s rfl
theorem r_X8_memory_29 : run E g mi_X8_memory d lm RT F pm_X8_memory (n + 1) 29 L st h = exI E d lm RT F (run E g mi_X8_memory d lm RT F pm_X8_memory n) (0, (-2), 0, 31, []) L st h := run_s rfl
theorem r_X8_memory_31 : run E g mi_X8_memory d lm RT F pm_X8_memory (n + 1) 31 L st h = exI E d lm RT F (run E g mi_X8_memory d lm RT F pm_X8_memory n) (48, 0, 0, 0, []) L st h := run_s rfl
theorem r_X8_memory_32 : run E g mi_X8_memory d lm RT F pm_X8_memory (n + 1) 32 L st h = exI E d lm RT F (run E g mi_X8_memory d lm RT F pm_X8_memory n) (2, ((0 : Nat) : Int), 0, 33, []) L st h := run_s rfl
theorem r_X8_memory_33 : run E g mi_X8_memory d lm RT F pm_X8_memory (n + 1) 33 L st h = exI E d lm RT F (run E g mi_X8_memory d lm RT F pm_X8_memory n) (35, ((8 : Nat) : Int), ((3 : Nat) : Int), 36, []) L st h := run_s rfl
theorem r_X8_memory_36 : run E g mi_X8_memory d lm RT F pm_X8_memory (n + 1) 36 L st h = exI E d lm RT F (run E g mi_X8_memory d lm RT F pm_X8_memory n) (1, ((1 : Nat) : Int), 0, 37, []) L st h := run_s rfl
theorem r_X8_memory_37 : run E g mi_X8_memory d lm RT F pm_X8_memory (n + 1) 37 L st h = exI E d lm RT F (run E g mi_X8_memory d lm RT F pm_X8_memory n) (49, 0, 0, 38, []) L st h := run_s rfl
theorem r_X8_memory_38 : run E g mi_X8_memory d lm RT F pm_X8_memory (n + 1) 38 L st h = exI E d lm RT F (run E g mi_X8_memory d lm RT F pm_X8_memory n) (5, ((4 : Nat) : Int), 0, 40, []) L st h := run_s rfl
theorem r_X8_memory_40 : run E g mi_X8_memory d lm RT F pm_X8_memory (n + 1) 40 L st h = exI E d lm RT F (run E g mi_X8_memory d lm RT F pm_X8_memory n) (1, ((2 : Nat) : Int), 0, 41, []) L st h := run_s rfl
theorem r_X8_memory_41 : run E g mi_X8_memory d lm RT F pm_X8_memory (n + 1) 41 L st h = exI E d lm RT F (run E g mi_X8_memory d lm RT F pm_X8_memory n) (2, ((4 : Nat) : Int), 0, 43, []) L st h := run_s rfl
theorem r_X8_memory_43 : run E g mi_X8_memory d lm RT F pm_X8_memory (n + 1) 43 L st h = exI E d lm RT F (run E g mi_X8_memory d lm RT F pm_X8_memory n) (35, ((7 : Nat) : Int), ((2 : Nat) : Int), 46, []) L st h := run_s rfl
theorem r_X8_memory_46 : run E g mi_X8_memory d lm RT F pm_X8_memory (n + 1) 46 L st h = exI E d lm RT F (run E g mi_X8_memory d lm RT F pm_X8_memory n) (32, 2, ((52 : Nat) : Int), 49, []) L st h := run_s rfl
theorem r_X8_memory_49 : run E g mi_X8_memory d lm RT F pm_X8_memory (n + 1) 49 L st h = exI E d lm RT F (run E g mi_X8_memory d lm RT F pm_X8_memory n) (0, (-9), 0, 51, []) L st h := run_s rfl
theorem r_X8_memory_51 : run E g mi_X8_memory d lm RT F pm_X8_memory (n + 1) 51 L st h = exI E d lm RT F (run E g mi_X8_memory d lm RT F pm_X8_memory n) (48, 0, 0, 0, []) L st h := run_s rfl
theorem r_X8_memory_52 : run E g mi_X8_memory d lm RT F pm_X8_memory (n + 1) 52 L st h = exI E d lm RT F (run E g mi_X8_memory d lm RT F pm_X8_memory n) (1, ((3 : Nat) : Int), 0, 53, []) L st h := run_s rfl
theorem r_X8_memory_53 : run E g mi_X8_memory d lm RT F pm_X8_memory (n + 1) 53 L st h = exI E d lm RT F (run E g mi_X8_memory d lm RT F pm_X8_memory n) (31, 1, ((66 : Nat) : Int), 56, []) L st h := run_s rfl
theorem r_X8_memory_56 : run E g mi_X8_memory d lm RT F pm_X8_memory (n + 1) 56 L st h = exI E d lm RT F (run E g mi_X8_memory d lm RT F pm_X8_memory n) (2, ((4 : Nat) : Int), 0, 58, []) L st h := run_s rfl
theorem r_X8_memory_58 : run E g mi_X8_memory d lm RT F pm_X8_memory (n + 1) 58 L st h = exI E d lm RT F (run E g mi_X8_memory d lm RT F pm_X8_memory n) (35, ((7 : Nat) : Int), ((0 : Nat) : Int), 61, []) L st h := run_s rfl
theorem r_X8_memory_61 : run E g mi_X8_memory d lm RT F pm_X8_memory (n + 1) 61 L st h = exI E d lm RT F (run E g mi_X8_memory d lm RT F pm_X8_memory n) (1, ((2 : Nat) : Int), 0, 62, []) L st h := run_s rfl
theorem r_X8_memory_62 : run E g mi_X8_memory d lm RT F pm_X8_memory (n + 1) 62 L st h = exI E d lm RT F (run E g mi_X8_memory d lm RT F pm_X8_memory n) (38, 0, 0, 63, []) L st h := run_s rfl
theorem r_X8_memory_63 : run E g mi_X8_memory d lm RT F pm_X8_memory (n + 1) 63 L st h = exI E d lm RT F (run E g mi_X8_memory d lm RT F pm_X8_memory n) (33, ((73 : Nat) : Int), 0, 0, []) L st h := run_s rfl
theorem r_X8_memory_66 : run E g mi_X8_memory d lm RT F pm_X8_memory (n + 1) 66 L st h = exI E d lm RT F (run E g mi_X8_memory d lm RT F pm_X8_memory n) (2, ((4 : Nat) : Int), 0, 68, []) L st h := run_s rfl
theorem r_X8_memory_68 : run E g mi_X8_memory d lm RT F pm_X8_memory (n + 1) 68 L st h = exI E d lm RT F (run E g mi_X8_memory d lm RT F pm_X8_memory n) (35, ((7 : Nat) : Int), ((1 : Nat) : Int), 71, []) L st h := run_s rfl
theorem r_X8_memory_71 : run E g mi_X8_memory d lm RT F pm_X8_memory (n + 1) 71 L st h = exI E d lm RT F (run E g mi_X8_memory d lm RT F pm_X8_memory n) (1, ((2 : Nat) : Int), 0, 72, []) L st h := run_s rfl
theorem r_X8_memory_72 : run E g mi_X8_memory d lm RT F pm_X8_memory (n + 1) 72 L st h = exI E d lm RT F (run E g mi_X8_memory d lm RT F pm_X8_memory n) (38, 0, 0, 73, []) L st h := run_s rfl
theorem r_X8_memory_73 : run E g mi_X8_memory d lm RT F pm_X8_memory (n + 1) 73 L st h = exI E d lm RT F (run E g mi_X8_memory d lm RT F pm_X8_memory n) (48, 0, 0, 0, []) L st h := run_s rfl
theorem e_X8_memory (n : Nat) {pc : Nat} (hF : FOk E d F) (hx : run E g mi_X8_memory d lm RT F pm_X8_memory n pc L st h) : G E g mi_X8_memory d lm RT pc L st h := run_sound hF pk_X8_memory n pc L st h hx
end
def mi_X8_noted : MI := (8, cX8_noted, 5, 0, false)
theorem mo_X8_noted : miOk mi_X8_noted (mt 60) = true := by decide +kernel
def tl_X8_noted : List (Nat × PT) := [(0, (1, ((1 : Nat) : Int), 0, 1, [])),
  (1, (45, ((65 : Nat) : Int), ((1 : Nat) : Int), 4, [])),
  (4, (31, 0, ((14 : Nat) : Int), 7, [])),
  (7, (1, ((2 : Nat) : Int), 0, 8, [])),
  (8, (45, ((65 : Nat) : Int), ((1 : Nat) : Int), 11, [])),
  (11, (31, 1, ((16 : Nat) : Int), 14, [])),
  (14, (0, (-1), 0, 15, [])),
  (15, (48, 0, 0, 0, [])),
  (16, (1, ((3 : Nat) : Int), 0, 17, [])),
  (17, (31, 2, ((25 : Nat) : Int), 20, [])),
  (20, (1, ((3 : Nat) : Int), 0, 21, [])),
  (21, (0, 3, 0, 22, [])),
  (22, (32, 5, ((28 : Nat) : Int), 25, [])),
  (25, (0, (-2), 0, 27, [])),
  (27, (48, 0, 0, 0, [])),
  (28, (1, ((1 : Nat) : Int), 0, 29, [])),
  (29, (1, ((2 : Nat) : Int), 0, 30, [])),
  (30, (32, 1, ((36 : Nat) : Int), 33, [])),
  (33, (0, (-3), 0, 35, [])),
  (35, (48, 0, 0, 0, [])),
  (36, (2, ((0 : Nat) : Int), 0, 37, [])),
  (37, (1, ((1 : Nat) : Int), 0, 38, [])),
  (38, (1, ((2 : Nat) : Int), 0, 39, [])),
  (39, (52, ((70 : Nat) : Int), ((3 : Nat) : Int), 42, [8])),
  (42, (5, ((4 : Nat) : Int), 0, 44, [])),
  (44, (1, ((3 : Nat) : Int), 0, 45, [])),
  (45, (34, 0, ((90 : Nat) : Int), 0, [72, 78, 84])),
  (72, (2, ((4 : Nat) : Int), 0, 74, [])),
  (74, (35, ((5 : Nat) : Int), ((3 : Nat) : Int), 77, [])),
  (77, (48, 0, 0, 0, [])),
  (78, (2, ((4 : Nat) : Int), 0, 80, [])),
  (80, (51, ((28 : Nat) : Int), ((1 : Nat) : Int), 83, [5])),
  (83, (48, 0, 0, 0, [])),
  (84, (2, ((4 : Nat) : Int), 0, 86, [])),
  (86, (51, ((29 : Nat) : Int), ((1 : Nat) : Int), 89, [5])),
  (89, (48, 0, 0, 0, [])),
  (90, (2, ((4 : Nat) : Int), 0, 92, [])),
  (92, (51, ((30 : Nat) : Int), ((1 : Nat) : Int), 95, [5])),
  (95, (48, 0, 0, 0, []))]
theorem tk_X8_noted : tOk mi_X8_noted tl_X8_noted = true := by decide +kernel
def pm_X8_noted (pc : Nat) : Option PT := if [].contains pc then none else tl_X8_noted.lookup pc
theorem pk_X8_noted : ∀ pc pt, pm_X8_noted pc = some pt → okPt mi_X8_noted pc pt := fun pc pt h => tOk_pm tk_X8_noted h
section
variable {E : ET} {g : GT} {d : Nat} {lm : Nat × Nat} {RT : RTy} {F : FT} {n : Nat} {L : LV} {st : List AV} {h : AH}
theorem r_X8_noted_0 : run E g mi_X8_noted d lm RT F pm_X8_noted (n + 1) 0 L st h = exI E d lm RT F (run E g mi_X8_noted d lm RT F pm_X8_noted n) (1, ((1 : Nat) : Int), 0, 1, []) L st h := run_s rfl
theorem r_X8_noted_1 : run E g mi_X8_noted d lm RT F pm_X8_noted (n + 1) 1 L st h = exI E d lm RT F (run E g mi_X8_noted d lm RT F pm_X8_noted n) (45, ((65 : Nat) : Int), ((1 : Nat) : Int), 4, []) L st h := run_s rfl
theorem r_X8_noted_4 : run E g mi_X8_noted d lm RT F pm_X8_noted (n + 1) 4 L st h = exI E d lm RT F (run E g mi_X8_noted d lm RT F pm_X8_noted n) (31, 0, ((14 : Nat) : Int), 7, []) L st h := run_s rfl
theorem r_X8_noted_7 : run E g mi_X8_noted d lm RT F pm_X8_noted (n + 1) 7 L st h = exI E d lm RT F (run E g mi_X8_noted d lm RT F pm_X8_noted n) (1, ((2 : Nat) : Int), 0, 8, []) L st h := run_s rfl
theorem r_X8_noted_8 : run E g mi_X8_noted d lm RT F pm_X8_noted (n + 1) 8 L st h = exI E d lm RT F (run E g mi_X8_noted d lm RT F pm_X8_noted n) (45, ((65 : Nat) : Int), ((1 : Nat) : Int), 11, []) L st h := run_s rfl
theorem r_X8_noted_11 : run E g mi_X8_noted d lm RT F pm_X8_noted (n + 1) 11 L st h = exI E d lm RT F (run E g mi_X8_noted d lm RT F pm_X8_noted n) (31, 1, ((16 : Nat) : Int), 14, []) L st h := run_s rfl
theorem r_X8_noted_14 : run E g mi_X8_noted d lm RT F pm_X8_noted (n + 1) 14 L st h = exI E d lm RT F (run E g mi_X8_noted d lm RT F pm_X8_noted n) (0, (-1), 0, 15, []) L st h := run_s rfl
theorem r_X8_noted_15 : run E g mi_X8_noted d lm RT F pm_X8_noted (n + 1) 15 L st h = exI E d lm RT F (run E g mi_X8_noted d lm RT F pm_X8_noted n) (48, 0, 0, 0, []) L st h := run_s rfl
theorem r_X8_noted_16 : run E g mi_X8_noted d lm RT F pm_X8_noted (n + 1) 16 L st h = exI E d lm RT F (run E g mi_X8_noted d lm RT F pm_X8_noted n) (1, ((3 : Nat) : Int), 0, 17, []) L st h := run_s rfl
theorem r_X8_noted_17 : run E g mi_X8_noted d lm RT F pm_X8_noted (n + 1) 17 L st h = exI E d lm RT F (run E g mi_X8_noted d lm RT F pm_X8_noted n) (31, 2, ((25 : Nat) : Int), 20, []) L st h := run_s rfl
theorem r_X8_noted_20 : run E g mi_X8_noted d lm RT F pm_X8_noted (n + 1) 20 L st h = exI E d lm RT F (run E g mi_X8_noted d lm RT F pm_X8_noted n) (1, ((3 : Nat) : Int), 0, 21, []) L st h := run_s rfl
theorem r_X8_noted_21 : run E g mi_X8_noted d lm RT F pm_X8_noted (n + 1) 21 L st h = exI E d lm RT F (run E g mi_X8_noted d lm RT F pm_X8_noted n) (0, 3, 0, 22, []) L st h := run_s rfl
theorem r_X8_noted_22 : run E g mi_X8_noted d lm RT F pm_X8_noted (n + 1) 22 L st h = exI E d lm RT F (run E g mi_X8_noted d lm RT F pm_X8_noted n) (32, 5, ((28 : Nat) : Int), 25, []) L st h := run_s rfl
theorem r_X8_noted_25 : run E g mi_X8_noted d lm RT F pm_X8_noted (n + 1) 25 L st h = exI E d lm RT F (run E g mi_X8_noted d lm RT F pm_X8_noted n) (0, (-2), 0, 27, []) L st h := run_s rfl
theorem r_X8_noted_27 : run E g mi_X8_noted d lm RT F pm_X8_noted (n + 1) 27 L st h = exI E d lm RT F (run E g mi_X8_noted d lm RT F pm_X8_noted n) (48, 0, 0, 0, []) L st h := run_s rfl
theorem r_X8_noted_28 : run E g mi_X8_noted d lm RT F pm_X8_noted (n + 1) 28 L st h = exI E d lm RT F (run E g mi_X8_noted d lm RT F pm_X8_noted n) (1, ((1 : Nat) : Int), 0, 29, []) L st h := run_s rfl
theorem r_X8_noted_29 : run E g mi_X8_noted d lm RT F pm_X8_noted (n + 1) 29 L st h = exI E d lm RT F (run E g mi_X8_noted d lm RT F pm_X8_noted n) (1, ((2 : Nat) : Int), 0, 30, []) L st h := run_s rfl
theorem r_X8_noted_30 : run E g mi_X8_noted d lm RT F pm_X8_noted (n + 1) 30 L st h = exI E d lm RT F (run E g mi_X8_noted d lm RT F pm_X8_noted n) (32, 1, ((36 : Nat) : Int), 33, []) L st h := run_s rfl
theorem r_X8_noted_33 : run E g mi_X8_noted d lm RT F pm_X8_noted (n + 1) 33 L st h = exI E d lm RT F (run E g mi_X8_noted d lm RT F pm_X8_noted n) (0, (-3), 0, 35, []) L st h := run_s rfl
theorem r_X8_noted_35 : run E g mi_X8_noted d lm RT F pm_X8_noted (n + 1) 35 L st h = exI E d lm RT F (run E g mi_X8_noted d lm RT F pm_X8_noted n) (48, 0, 0, 0, []) L st h := run_s rfl
theorem r_X8_noted_36 : run E g mi_X8_noted d lm RT F pm_X8_noted (n + 1) 36 L st h = exI E d lm RT F (run E g mi_X8_noted d lm RT F pm_X8_noted n) (2, ((0 : Nat) : Int), 0, 37, []) L st h := run_s rfl
theorem r_X8_noted_37 : run E g mi_X8_noted d lm RT F pm_X8_noted (n + 1) 37 L st h = exI E d lm RT F (run E g mi_X8_noted d lm RT F pm_X8_noted n) (1, ((1 : Nat) : Int), 0, 38, []) L st h := run_s rfl
theorem r_X8_noted_38 : run E g mi_X8_noted d lm RT F pm_X8_noted (n + 1) 38 L st h = exI E d lm RT F (run E g mi_X8_noted d lm RT F pm_X8_noted n) (1, ((2 : Nat) : Int), 0, 39, []) L st h := run_s rfl
theorem r_X8_noted_39 : run E g mi_X8_noted d lm RT F pm_X8_noted (n + 1) 39 L st h = exI E d lm RT F (run E g mi_X8_noted d lm RT F pm_X8_noted n) (52, ((70 : Nat) : Int), ((3 : Nat) : Int), 42, [8]) L st h := run_s rfl
theorem r_X8_noted_42 : run E g mi_X8_noted d lm RT F pm_X8_noted (n + 1) 42 L st h = exI E d lm RT F (run E g mi_X8_noted d lm RT F pm_X8_noted n) (5, ((4 : Nat) : Int), 0, 44, []) L st h := run_s rfl
theorem r_X8_noted_44 : run E g mi_X8_noted d lm RT F pm_X8_noted (n + 1) 44 L st h = exI E d lm RT F (run E g mi_X8_noted d lm RT F pm_X8_noted n) (1, ((3 : Nat) : Int), 0, 45, []) L st h := run_s rfl
theorem r_X8_noted_45 : run E g mi_X8_noted d lm RT F pm_X8_noted (n + 1) 45 L st h = exI E d lm RT F (run E g mi_X8_noted d lm RT F pm_X8_noted n) (34, 0, ((90 : Nat) : Int), 0, [72, 78, 84]) L st h := run_s rfl
theorem r_X8_noted_72 : run E g mi_X8_noted d lm RT F pm_X8_noted (n + 1) 72 L st h = exI E d lm RT F (run E g mi_X8_noted d lm RT F pm_X8_noted n) (2, ((4 : Nat) : Int), 0, 74, []) L st h := run_s rfl
theorem r_X8_noted_74 : run E g mi_X8_noted d lm RT F pm_X8_noted (n + 1) 74 L st h = exI E d lm RT F (run E g mi_X8_noted d lm RT F pm_X8_noted n) (35, ((5 : Nat) : Int), ((3 : Nat) : Int), 77, []) L st h := run_s rfl
theorem r_X8_noted_77 : run E g mi_X8_noted d lm RT F pm_X8_noted (n + 1) 77 L st h = exI E d lm RT F (run E g mi_X8_noted d lm RT F pm_X8_noted n) (48, 0, 0, 0, []) L st h := run_s rfl
theorem r_X8_noted_78 : run E g mi_X8_noted d lm RT F pm_X8_noted (n + 1) 78 L st h = exI E d lm RT F (run E g mi_X8_noted d lm RT F pm_X8_noted n) (2, ((4 : Nat) : Int), 0, 80, []) L st h := run_s rfl
theorem r_X8_noted_80 : run E g mi_X8_noted d lm RT F pm_X8_noted (n + 1) 80 L st h = exI E d lm RT F (run E g mi_X8_noted d lm RT F pm_X8_noted n) (51, ((28 : Nat) : Int), ((1 : Nat) : Int), 83, [5]) L st h := run_s rfl
theorem r_X8_noted_83 : run E g mi_X8_noted d lm RT F pm_X8_noted (n + 1) 83 L st h = exI E d lm RT F (run E g mi_X8_noted d lm RT F pm_X8_noted n) (48, 0, 0, 0, []) L st h := run_s rfl
theorem r_X8_noted_84 : run E g mi_X8_noted d lm RT F pm_X8_noted (n + 1) 84 L st h = exI E d lm RT F (run E g mi_X8_noted d lm RT F pm_X8_noted n) (2, ((4 : Nat) : Int), 0, 86, []) L st h := run_s rfl
theorem r_X8_noted_86 : run E g mi_X8_noted d lm RT F pm_X8_noted (n + 1) 86 L st h = exI E d lm RT F (run E g mi_X8_noted d lm RT F pm_X8_noted n) (51, ((29 : Nat) : Int), ((1 : Nat) : Int), 89, [5]) L st h := run_s rfl
theorem r_X8_noted_89 : run E g mi_X8_noted d lm RT F pm_X8_noted (n + 1) 89 L st h = exI E d lm RT F (run E g mi_X8_noted d lm RT F pm_X8_noted n) (48, 0, 0, 0, []) L st h := run_s rfl
theorem r_X8_noted_90 : run E g mi_X8_noted d lm RT F pm_X8_noted (n + 1) 90 L st h = exI E d lm RT F (run E g mi_X8_noted d lm RT F pm_X8_noted n) (2, ((4 : Nat) : Int), 0, 92, []) L st h := run_s rfl
theorem r_X8_noted_92 : run E g mi_X8_noted d lm RT F pm_X8_noted (n + 1) 92 L st h = exI E d lm RT F (run E g mi_X8_noted d lm RT F pm_X8_noted n) (51, ((30 : Nat) : Int), ((1 : Nat) : Int), 95, [5]) L st h := run_s rfl
theorem r_X8_noted_95 : run E g mi_X8_noted d lm RT F pm_X8_noted (n + 1) 95 L st h = exI E d lm RT F (run E g mi_X8_noted d lm RT F pm_X8_noted n) (48, 0, 0, 0, []) L st h := run_s rfl
theorem e_X8_noted (n : Nat) {pc : Nat} (hF : FOk E d F) (hx : run E g mi_X8_noted d lm RT F pm_X8_noted n pc L st h) : G E g mi_X8_noted d lm RT pc L st h := run_sound hF pk_X8_noted n pc L st h hx
end
def mi_X8_learnt : MI := (8, cX8_learnt, 6, 0, false)
theorem mo_X8_learnt : miOk mi_X8_learnt (mt 61) = true := by decide +kernel
def tl_X8_learnt : List (Nat × PT) := [(0, (1, ((1 : Nat) : Int), 0, 1, [])),
  (1, (45, ((65 : Nat) : Int), ((1 : Nat) : Int), 4, [])),
  (4, (31, 0, ((14 : Nat) : Int), 7, [])),
  (7, (1, ((2 : Nat) : Int), 0, 8, [])),
  (8, (45, ((65 : Nat) : Int), ((1 : Nat) : Int), 11, [])),
  (11, (31, 1, ((16 : Nat) : Int), 14, [])),
  (14, (0, (-1), 0, 15, [])),
  (15, (48, 0, 0, 0, [])),
  (16, (1, ((3 : Nat) : Int), 0, 17, [])),
  (17, (0, 10, 0, 19, [])),
  (19, (32, 2, ((32 : Nat) : Int), 22, [])),
  (22, (1, ((3 : Nat) : Int), 0, 23, [])),
  (23, (0, 18, 0, 25, [])),
  (25, (32, 3, ((32 : Nat) : Int), 28, [])),
  (28, (0, 1, 0, 29, [])),
  (29, (33, ((33 : Nat) : Int), 0, 0, [])),
  (32, (0, 0, 0, 33, [])),
  (33, (4, ((4 : Nat) : Int), 0, 35, [])),
  (35, (1, ((4 : Nat) : Int), 0, 37, [])),
  (37, (31, 1, ((52 : Nat) : Int), 40, [])),
  (40, (1, ((3 : Nat) : Int), 0, 41, [])),
  (41, (31, 2, ((49 : Nat) : Int), 44, [])),
  (44, (1, ((3 : Nat) : Int), 0, 45, [])),
  (45, (0, 2, 0, 46, [])),
  (46, (32, 5, ((52 : Nat) : Int), 49, [])),
  (49, (0, (-2), 0, 51, [])),
  (51, (48, 0, 0, 0, [])),
  (52, (1, ((1 : Nat) : Int), 0, 53, [])),
  (53, (1, ((2 : Nat) : Int), 0, 54, [])),
  (54, (32, 1, ((60 : Nat) : Int), 57, [])),
  (57, (0, (-3), 0, 59, [])),
  (59, (48, 0, 0, 0, [])),
  (60, (2, ((0 : Nat) : Int), 0, 61, [])),
  (61, (1, ((1 : Nat) : Int), 0, 62, [])),
  (62, (1, ((2 : Nat) : Int), 0, 63, [])),
  (63, (51, ((85 : Nat) : Int), ((3 : Nat) : Int), 66, [8])),
  (66, (4, ((5 : Nat) : Int), 0, 68, [])),
  (68, (1, ((5 : Nat) : Int), 0, 70, [])),
  (70, (31, 1, ((76 : Nat) : Int), 73, [])),
  (73, (0, (-9), 0, 75, [])),
  (75, (48, 0, 0, 0, [])),
  (76, (1, ((3 : Nat) : Int), 0, 77, [])),
  (77, (34, 0, ((123 : Nat) : Int), 0, [104, 111, 116])),
  (104, (2, ((0 : Nat) : Int), 0, 105, [])),
  (105, (1, ((5 : Nat) : Int), 0, 107, [])),
  (107, (51, ((86 : Nat) : Int), ((2 : Nat) : Int), 110, [8])),
  (110, (48, 0, 0, 0, [])),
  (111, (1, ((5 : Nat) : Int), 0, 113, [])),
  (113, (0, 1, 0, 114, [])),
  (114, (9, 0, 0, 115, [])),
  (115, (48, 0, 0, 0, [])),
  (116, (2, ((0 : Nat) : Int), 0, 117, [])),
  (117, (1, ((5 : Nat) : Int), 0, 119, [])),
  (119, (51, ((87 : Nat) : Int), ((2 : Nat) : Int), 122, [8])),
  (122, (48, 0, 0, 0, [])),
  (123, (2, ((0 : Nat) : Int), 0, 124, [])),
  (124, (1, ((3 : Nat) : Int), 0, 125, [])),
  (125, (0, 10, 0, 127, [])),
  (127, (9, 0, 0, 128, [])),
  (128, (1, ((5 : Nat) : Int), 0, 130, [])),
  (130, (51, ((88 : Nat) : Int), ((3 : Nat) : Int), 133, [8])),
  (133, (48, 0, 0, 0, []))]
theorem tk_X8_learnt_0 : tOk mi_X8_learnt ((tl_X8_learnt.drop 0).take 45) = true := by decide +kernel
theorem tk_X8_learnt_1 : tOk mi_X8_learnt ((tl_X8_learnt.drop 45).take 45) = true := by decide +kernel
theorem tk_X8_learnt : tOk mi_X8_learnt tl_X8_learnt = true := by
  refine tOk_cut 45 (by decide) (fun q hq => ?_)
  have hl : tl_X8_learnt.length = 62 := by decide +kernel
  rw [hl] at hq
  rcases (show q = 0 ∨ q = 1 by omega) with rfl | rfl
  · exact tk_X8_learnt_0
  · exact tk_X8_learnt_1
def pm_X8_learnt (pc : Nat) : Option PT := if [].contains pc then none else tl_X8_learnt.lookup pc
theorem pk_X8_learnt : ∀ pc pt, pm_X8_learnt pc = some pt → okPt mi_X8_learnt pc pt := fun pc pt h => tOk_pm tk_X8_learnt h
section
variable {E : ET} {g : GT} {d : Nat} {lm : Nat × Nat} {RT : RTy} {F : FT} {n : Nat} {L : LV} {st : List AV} {h : AH}
theorem r_X8_learnt_0 : run E g mi_X8_learnt d lm RT F pm_X8_learnt (n + 1) 0 L st h = exI E d lm RT F (run E g mi_X8_learnt d lm RT F pm_X8_learnt n) (1, ((1 : Nat) : Int), 0, 1, []) L st h := run_s rfl
theorem r_X8_learnt_1 : run E g mi_X8_learnt d lm RT F pm_X8_learnt (n + 1) 1 L st h = exI E d lm RT F (run E g mi_X8_learnt d lm RT F pm_X8_learnt n) (45, ((65 : Nat) : Int), ((1 : Nat) : Int), 4, []) L st h := run_s rfl
theorem r_X8_learnt_4 : run E g mi_X8_learnt d lm RT F pm_X8_learnt (n + 1) 4 L st h = exI E d lm RT F (run E g mi_X8_learnt d lm RT F pm_X8_learnt n) (31, 0, ((14 : Nat) : Int), 7, []) L st h := run_s rfl
theorem r_X8_learnt_7 : run E g mi_X8_learnt d lm RT F pm_X8_learnt (n + 1) 7 L st h = exI E d lm RT F (run E g mi_X8_learnt d lm RT F pm_X8_learnt n) (1, ((2 : Nat) : Int), 0, 8, []) L st h := run_s rfl
theorem r_X8_learnt_8 : run E g mi_X8_learnt d lm RT F pm_X8_learnt (n + 1) 8 L st h = exI E d lm RT F (run E g mi_X8_learnt d lm RT F pm_X8_learnt n) (45, ((65 : Nat) : Int), ((1 : Nat) : Int), 11, []) L st h := run_s rfl
theorem r_X8_learnt_11 : run E g mi_X8_learnt d lm RT F pm_X8_learnt (n + 1) 11 L st h = exI E d lm RT F (run E g mi_X8_learnt d lm RT F pm_X8_learnt n) (31, 1, ((16 : Nat) : Int), 14, []) L st h := run_s rfl
theorem r_X8_learnt_14 : run E g mi_X8_learnt d lm RT F pm_X8_learnt (n + 1) 14 L st h = exI E d lm RT F (run E g mi_X8_learnt d lm RT F pm_X8_learnt n) (0, (-1), 0, 15, []) L st h := run_s rfl
theorem r_X8_learnt_15 : run E g mi_X8_learnt d lm RT F pm_X8_learnt (n + 1) 15 L st h = exI E d lm RT F (run E g mi_X8_learnt d lm RT F pm_X8_learnt n) (48, 0, 0, 0, []) L st h := run_s rfl
theorem r_X8_learnt_16 : run E g mi_X8_learnt d lm RT F pm_X8_learnt (n + 1) 16 L st h = exI E d lm RT F (run E g mi_X8_learnt d lm RT F pm_X8_learnt n) (1, ((3 : Nat) : Int), 0, 17, []) L st h := run_s rfl
theorem r_X8_learnt_17 : run E g mi_X8_learnt d lm RT F pm_X8_learnt (n + 1) 17 L st h = exI E d lm RT F (run E g mi_X8_learnt d lm RT F pm_X8_learnt n) (0, 10, 0, 19, []) L st h := run_s rfl
theorem r_X8_learnt_19 : run E g mi_X8_learnt d lm RT F pm_X8_learnt (n + 1) 19 L st h = exI E d lm RT F (run E g mi_X8_learnt d lm RT F pm_X8_learnt n) (32, 2, ((32 : Nat) : Int), 22, []) L st h := run_s rfl
theorem r_X8_learnt_22 : run E g mi_X8_learnt d lm RT F pm_X8_learnt (n + 1) 22 L st h = exI E d lm RT F (run E g mi_X8_learnt d lm RT F pm_X8_learnt n) (1, ((3 : Nat) : Int), 0, 23, []) L st h := run_s rfl
theorem r_X8_learnt_23 : run E g mi_X8_learnt d lm RT F pm_X8_learnt (n + 1) 23 L st h = exI E d lm RT F (run E g mi_X8_learnt d lm RT F pm_X8_learnt n) (0, 18, 0, 25, []) L st h := run_s rfl
theorem r_X8_learnt_25 : run E g mi_X8_learnt d lm RT F pm_X8_learnt (n + 1) 25 L st h = exI E d lm RT F (run E g mi_X8_learnt d lm RT F pm_X8_learnt n) (32, 3, ((32 : Nat) : Int), 28, []) L st h := run_s rfl
theorem r_X8_learnt_28 : run E g mi_X8_learnt d lm RT F pm_X8_learnt (n + 1) 28 L st h = exI E d lm RT F (run E g mi_X8_learnt d lm RT F pm_X8_learnt n) (0, 1, 0, 29, []) L st h := run_s rfl
theorem r_X8_learnt_29 : run E g mi_X8_learnt d lm RT F pm_X8_learnt (n + 1) 29 L st h = exI E d lm RT F (run E g mi_X8_learnt d lm RT F pm_X8_learnt n) (33, ((33 : Nat) : Int), 0, 0, []) L st h := run_s rfl
theorem r_X8_learnt_32 : run E g mi_X8_learnt d lm RT F pm_X8_learnt (n + 1) 32 L st h = exI E d lm RT F (run E g mi_X8_learnt d lm RT F pm_X8_learnt n) (0, 0, 0, 33, []) L st h := run_s rfl
theorem r_X8_learnt_33 : run E g mi_X8_learnt d lm RT F pm_X8_learnt (n + 1) 33 L st h = exI E d lm RT F (run E g mi_X8_learnt d lm RT F pm_X8_learnt n) (4, ((4 : Nat) : Int), 0, 35, []) L st h := run_s rfl
theorem r_X8_learnt_35 : run E g mi_X8_learnt d lm RT F pm_X8_learnt (n + 1) 35 L st h = exI E d lm RT F (run E g mi_X8_learnt d lm RT F pm_X8_learnt n) (1, ((4 : Nat) : Int), 0, 37, []) L st h := run_s rfl
theorem r_X8_learnt_37 : run E g mi_X8_learnt d lm RT F pm_X8_learnt (n + 1) 37 L st h = exI E d lm RT F (run E g mi_X8_learnt d lm RT F pm_X8_learnt n) (31, 1, ((52 : Nat) : Int), 40, []) L st h := run_s rfl
theorem r_X8_learnt_40 : run E g mi_X8_learnt d lm RT F pm_X8_learnt (n + 1) 40 L st h = exI E d lm RT F (run E g mi_X8_learnt d lm RT F pm_X8_learnt n) (1, ((3 : Nat) : Int), 0, 41, []) L st h := run_s rfl
theorem r_X8_learnt_41 : run E g mi_X8_learnt d lm RT F pm_X8_learnt (n + 1) 41 L st h = exI E d lm RT F (run E g mi_X8_learnt d lm RT F pm_X8_learnt n) (31, 2, ((49 : Nat) : Int), 44, []) L st h := run_s rfl
theorem r_X8_learnt_44 : run E g mi_X8_learnt d lm RT F pm_X8_learnt (n + 1) 44 L st h = exI E d lm RT F (run E g mi_X8_learnt d lm RT F pm_X8_learnt n) (1, ((3 : Nat) : Int), 0, 45, []) L st h := run_s rfl
theorem r_X8_learnt_45 : run E g mi_X8_learnt d lm RT F pm_X8_learnt (n + 1) 45 L st h = exI E d lm RT F (run E g mi_X8_learnt d lm RT F pm_X8_learnt n) (0, 2, 0, 46, []) L st h := run_s rfl
theorem r_X8_learnt_46 : run E g mi_X8_learnt d lm RT F pm_X8_learnt (n + 1) 46 L st h = exI E d lm RT F (run E g mi_X8_learnt d lm RT F pm_X8_learnt n) (32, 5, ((52 : Nat) : Int), 49, []) L st h := run_s rfl
theorem r_X8_learnt_49 : run E g mi_X8_learnt d lm RT F pm_X8_learnt (n + 1) 49 L st h = exI E d lm RT F (run E g mi_X8_learnt d lm RT F pm_X8_learnt n) (0, (-2), 0, 51, []) L st h := run_s rfl
theorem r_X8_learnt_51 : run E g mi_X8_learnt d lm RT F pm_X8_learnt (n + 1) 51 L st h = exI E d lm RT F (run E g mi_X8_learnt d lm RT F pm_X8_learnt n) (48, 0, 0, 0, []) L st h := run_s rfl
theorem r_X8_learnt_52 : run E g mi_X8_learnt d lm RT F pm_X8_learnt (n + 1) 52 L st h = exI E d lm RT F (run E g mi_X8_learnt d lm RT F pm_X8_learnt n) (1, ((1 : Nat) : Int), 0, 53, []) L st h := run_s rfl
theorem r_X8_learnt_53 : run E g mi_X8_learnt d lm RT F pm_X8_learnt (n + 1) 53 L st h = exI E d lm RT F (run E g mi_X8_learnt d lm RT F pm_X8_learnt n) (1, ((2 : Nat) : Int), 0, 54, []) L st h := run_s rfl
theorem r_X8_learnt_54 : run E g mi_X8_learnt d lm RT F pm_X8_learnt (n + 1) 54 L st h = exI E d lm RT F (run E g mi_X8_learnt d lm RT F pm_X8_learnt n) (32, 1, ((60 : Nat) : Int), 57, []) L st h := run_s rfl
theorem r_X8_learnt_57 : run E g mi_X8_learnt d lm RT F pm_X8_learnt (n + 1) 57 L st h = exI E d lm RT F (run E g mi_X8_learnt d lm RT F pm_X8_learnt n) (0, (-3), 0, 59, []) L st h := run_s rfl
theorem r_X8_learnt_59 : run E g mi_X8_learnt d lm RT F pm_X8_learnt (n + 1) 59 L st h = exI E d lm RT F (run E g mi_X8_learnt d lm RT F pm_X8_learnt n) (48, 0, 0, 0, []) L st h := run_s rfl
theorem r_X8_learnt_60 : run E g mi_X8_learnt d lm RT F pm_X8_learnt (n + 1) 60 L st h = exI E d lm RT F (run E g mi_X8_learnt d lm RT F pm_X8_learnt n) (2, ((0 : Nat) : Int), 0, 61, []) L st h := run_s rfl
theorem r_X8_learnt_61 : run E g mi_X8_learnt d lm RT F pm_X8_learnt (n + 1) 61 L st h = exI E d lm RT F (run E g mi_X8_learnt d lm RT F pm_X8_learnt n) (1, ((1 : Nat) : Int), 0, 62, []) L st h := run_s rfl
theorem r_X8_learnt_62 : run E g mi_X8_learnt d lm RT F pm_X8_learnt (n + 1) 62 L st h = exI E d lm RT F (run E g mi_X8_learnt d lm RT F pm_X8_learnt n) (1, ((2 : Nat) : Int), 0, 63, []) L st h := run_s rfl
theorem r_X8_learnt_63 : run E g mi_X8_learnt d lm RT F pm_X8_learnt (n + 1) 63 L st h = exI E d lm RT F (run E g mi_X8_learnt d lm RT F pm_X8_learnt n) (51, ((85 : Nat) : Int), ((3 : Nat) : Int), 66, [8]) L st h := run_s rfl
theorem r_X8_learnt_66 : run E g mi_X8_learnt d lm RT F pm_X8_learnt (n + 1) 66 L st h = exI E d lm RT F (run E g mi_X8_learnt d lm RT F pm_X8_learnt n) (4, ((5 : Nat) : Int), 0, 68, []) L st h := run_s rfl
theorem r_X8_learnt_68 : run E g mi_X8_learnt d lm RT F pm_X8_learnt (n + 1) 68 L st h = exI E d lm RT F (run E g mi_X8_learnt d lm RT F pm_X8_learnt n) (1, ((5 : Nat) : Int), 0, 70, []) L st h := run_s rfl
theorem r_X8_learnt_70 : run E g mi_X8_learnt d lm RT F pm_X8_learnt (n + 1) 70 L st h = exI E d lm RT F (run E g mi_X8_learnt d lm RT F pm_X8_learnt n) (31, 1, ((76 : Nat) : Int), 73, []) L st h := run_s rfl
theorem r_X8_learnt_73 : run E g mi_X8_learnt d lm RT F pm_X8_learnt (n + 1) 73 L st h = exI E d lm RT F (run E g mi_X8_learnt d lm RT F pm_X8_learnt n) (0, (-9), 0, 75, []) L st h := run_s rfl
theorem r_X8_learnt_75 : run E g mi_X8_learnt d lm RT F pm_X8_learnt (n + 1) 75 L st h = exI E d lm RT F (run E g mi_X8_learnt d lm RT F pm_X8_learnt n) (48, 0, 0, 0, []) L st h := run_s rfl
theorem r_X8_learnt_76 : run E g mi_X8_learnt d lm RT F pm_X8_learnt (n + 1) 76 L st h = exI E d lm RT F (run E g mi_X8_learnt d lm RT F pm_X8_learnt n) (1, ((3 : Nat) : Int), 0, 77, []) L st h := run_s rfl
theorem r_X8_learnt_77 : run E g mi_X8_learnt d lm RT F pm_X8_learnt (n + 1) 77 L st h = exI E d lm RT F (run E g mi_X8_learnt d lm RT F pm_X8_learnt n) (34, 0, ((123 : Nat) : Int), 0, [104, 111, 116]) L st h := run_s rfl
theorem r_X8_learnt_104 : run E g mi_X8_learnt d lm RT F pm_X8_learnt (n + 1) 104 L st h = exI E d lm RT F (run E g mi_X8_learnt d lm RT F pm_X8_learnt n) (2, ((0 : Nat) : Int), 0, 105, []) L st h := run_s rfl
theorem r_X8_learnt_105 : run E g mi_X8_learnt d lm RT F pm_X8_learnt (n + 1) 105 L st h = exI E d lm RT F (run E g mi_X8_learnt d lm RT F pm_X8_learnt n) (1, ((5 : Nat) : Int), 0, 107, []) L st h := run_s rfl
theorem r_X8_learnt_107 : run E g mi_X8_learnt d lm RT F pm_X8_learnt (n + 1) 107 L st h = exI E d lm RT F (run E g mi_X8_learnt d lm RT F pm_X8_learnt n) (51, ((86 : Nat) : Int), ((2 : Nat) : Int), 110, [8]) L st h := run_s rfl
theorem r_X8_learnt_110 : run E g mi_X8_learnt d lm RT F pm_X8_learnt (n + 1) 110 L st h = exI E d lm RT F (run E g mi_X8_learnt d lm RT F pm_X8_learnt n) (48, 0, 0, 0, []) L st h := run_s rfl
theorem r_X8_learnt_111 : run E g mi_X8_learnt d lm RT F pm_X8_learnt (n + 1) 111 L st h = exI E d lm RT F (run E g mi_X8_learnt d lm RT F pm_X8_learnt n) (1, ((5 : Nat) : Int), 0, 113, []) L st h := run_s rfl
theorem r_X8_learnt_113 : run E g mi_X8_learnt d lm RT F pm_X8_learnt (n + 1) 113 L st h = exI E d lm RT F (run E g mi_X8_learnt d lm RT F pm_X8_learnt n) (0, 1, 0, 114, []) L st h := run_s rfl
theorem r_X8_learnt_114 : run E g mi_X8_learnt d lm RT F pm_X8_learnt (n + 1) 114 L st h = exI E d lm RT F (run E g mi_X8_learnt d lm RT F pm_X8_learnt n) (9, 0, 0, 115, []) L st h := run_s rfl
theorem r_X8_learnt_115 : run E g mi_X8_learnt d lm RT F pm_X8_learnt (n + 1) 115 L st h = exI E d lm RT F (run E g mi_X8_learnt d lm RT F pm_X8_learnt n) (48, 0, 0, 0, []) L st h := run_s rfl
theorem r_X8_learnt_116 : run E g mi_X8_learnt d lm RT F pm_X8_learnt (n + 1) 116 L st h = exI E d lm RT F (run E g mi_X8_learnt d lm RT F pm_X8_learnt n) (2, ((0 : Nat) : Int), 0, 117, []) L st h := run_s rfl
theorem r_X8_learnt_117 : run E g mi_X8_learnt d lm RT F pm_X8_learnt (n + 1) 117 L st h = exI E d lm RT F (run E g mi_X8_learnt d lm RT F pm_X8_learnt n) (1, ((5 : Nat) : Int), 0, 119, []) L st h := run_s rfl
theorem r_X8_learnt_119 : run E g mi_X8_learnt d lm RT F pm_X8_learnt (n + 1) 119 L st h = exI E d lm RT F (run E g mi_X8_learnt d lm RT F pm_X8_learnt n) (51, ((87 : Nat) : Int), ((2 : Nat) : Int), 122, [8]) L st h := run_s rfl
theorem r_X8_learnt_122 : run E g mi_X8_learnt d lm RT F pm_X8_learnt (n + 1) 122 L st h = exI E d lm RT F (run E g mi_X8_learnt d lm RT F pm_X8_learnt n) (48, 0, 0, 0, []) L st h := run_s rfl
theorem r_X8_learnt_123 : run E g mi_X8_learnt d lm RT F pm_X8_learnt (n + 1) 123 L st h = exI E d lm RT F (run E g mi_X8_learnt d lm RT F pm_X8_learnt n) (2, ((0 : Nat) : Int), 0, 124, []) L st h := run_s rfl
theorem r_X8_learnt_124 : run E g mi_X8_learnt d lm RT F pm_X8_learnt (n + 1) 124 L st h = exI E d lm RT F (run E g mi_X8_learnt d lm RT F pm_X8_learnt n) (1, ((3 : Nat) : Int), 0, 125, []) L st h := run_s rfl
theorem r_X8_learnt_125 : run E g mi_X8_learnt d lm RT F pm_X8_learnt (n + 1) 125 L st h = exI E d lm RT F (run E g mi_X8_learnt d lm RT F pm_X8_learnt n) (0, 10, 0, 127, []) L st h := run_s rfl
theorem r_X8_learnt_127 : run E g mi_X8_learnt d lm RT F pm_X8_learnt (n + 1) 127 L st h = exI E d lm RT F (run E g mi_X8_learnt d lm RT F pm_X8_learnt n) (9, 0, 0, 128, []) L st h := run_s rfl
theorem r_X8_learnt_128 : run E g mi_X8_learnt d lm RT F pm_X8_learnt (n + 1) 128 L st h = exI E d lm RT F (run E g mi_X8_learnt d lm RT F pm_X8_learnt n) (1, ((5 : Nat) : Int), 0, 130, []) L st h := run_s rfl
theorem r_X8_learnt_130 : run E g mi_X8_learnt d lm RT F pm_X8_learnt (n + 1) 130 L st h = exI E d lm RT F (run E g mi_X8_learnt d lm RT F pm_X8_learnt n) (51, ((88 : Nat) : Int), ((3 : Nat) : Int), 133, [8]) L st h := run_s rfl
theorem r_X8_learnt_133 : run E g mi_X8_learnt d lm RT F pm_X8_learnt (n + 1) 133 L st h = exI E d lm RT F (run E g mi_X8_learnt d lm RT F pm_X8_learnt n) (48, 0, 0, 0, []) L st h := run_s rfl
theorem e_X8_learnt (n : Nat) {pc : Nat} (hF : FOk E d F) (hx : run E g mi_X8_learnt d lm RT F pm_X8_learnt n pc L st h) : G E g mi_X8_learnt d lm RT pc L st h := run_sound hF pk_X8_learnt n pc L st h hx
end
def mi_X8_shortest : MI := (8, cX8_shortest, 3, 0, false)
theorem mo_X8_shortest : miOk mi_X8_shortest (mt 62) = true := by decide +kernel
def tl_X8_shortest : List (Nat × PT) := [(0, (1, ((1 : Nat) : Int), 0, 1, [])),
  (1, (45, ((65 : Nat) : Int), ((1 : Nat) : Int), 4, [])),
  (4, (31, 0, ((14 : Nat) : Int), 7, [])),
  (7, (1, ((2 : Nat) : Int), 0, 8, [])),
  (8, (45, ((65 : Nat) : Int), ((1 : Nat) : Int), 11, [])),
  (11, (31, 1, ((16 : Nat) : Int), 14, [])),
  (14, (0, (-1), 0, 15, [])),
  (15, (48, 0, 0, 0, [])),
  (16, (1, ((1 : Nat) : Int), 0, 17, [])),
  (17, (1, ((2 : Nat) : Int), 0, 18, [])),
  (18, (32, 1, ((24 : Nat) : Int), 21, [])),
  (21, (0, (-3), 0, 23, [])),
  (23, (48, 0, 0, 0, [])),
  (24, (2, ((0 : Nat) : Int), 0, 25, [])),
  (25, (35, ((8 : Nat) : Int), ((0 : Nat) : Int), 28, [])),
  (28, (1, ((2 : Nat) : Int), 0, 29, [])),
  (29, (51, ((13 : Nat) : Int), ((2 : Nat) : Int), 32, [3])),
  (32, (2, ((0 : Nat) : Int), 0, 33, [])),
  (33, (35, ((8 : Nat) : Int), ((0 : Nat) : Int), 36, [])),
  (36, (35, ((3 : Nat) : Int), ((4 : Nat) : Int), 39, [])),
  (39, (1, ((1 : Nat) : Int), 0, 40, [])),
  (40, (38, 0, 0, 41, [])),
  (41, (48, 0, 0, 0, []))]
theorem tk_X8_shortest : tOk mi_X8_shortest tl_X8_shortest = true := by decide +kernel
def pm_X8_shortest (pc : Nat) : Option PT := if [].contains pc then none else tl_X8_shortest.lookup pc
theorem pk_X8_shortest : ∀ pc pt, pm_X8_shortest pc = some pt → okPt mi_X8_shortest pc pt := fun pc pt h => tOk_pm tk_X8_shortest h
section
variable {E : ET} {g : GT} {d : Nat} {lm : Nat × Nat} {RT : RTy} {F : FT} {n : Nat} {L : LV} {st : List AV} {h : AH}
theorem r_X8_shortest_0 : run E g mi_X8_shortest d lm RT F pm_X8_shortest (n + 1) 0 L st h = exI E d lm RT F (run E g mi_X8_shortest d lm RT F pm_X8_shortest n) (1, ((1 : Nat) : Int), 0, 1, []) L st h := run_s rfl
theorem r_X8_shortest_1 : run E g mi_X8_shortest d lm RT F pm_X8_shortest (n + 1) 1 L st h = exI E d lm RT F (run E g mi_X8_shortest d lm RT F pm_X8_shortest n) (45, ((65 : Nat) : Int), ((1 : Nat) : Int), 4, []) L st h := run_s rfl
theorem r_X8_shortest_4 : run E g mi_X8_shortest d lm RT F pm_X8_shortest (n + 1) 4 L st h = exI E d lm RT F (run E g mi_X8_shortest d lm RT F pm_X8_shortest n) (31, 0, ((14 : Nat) : Int), 7, []) L st h := run_s rfl
theorem r_X8_shortest_7 : run E g mi_X8_shortest d lm RT F pm_X8_shortest (n + 1) 7 L st h = exI E d lm RT F (run E g mi_X8_shortest d lm RT F pm_X8_shortest n) (1, ((2 : Nat) : Int), 0, 8, []) L st h := run_s rfl
theorem r_X8_shortest_8 : run E g mi_X8_shortest d lm RT F pm_X8_shortest (n + 1) 8 L st h = exI E d lm RT F (run E g mi_X8_shortest d lm RT F pm_X8_shortest n) (45, ((65 : Nat) : Int), ((1 : Nat) : Int), 11, []) L st h := run_s rfl
theorem r_X8_shortest_11 : run E g mi_X8_shortest d lm RT F pm_X8_shortest (n + 1) 11 L st h = exI E d lm RT F (run E g mi_X8_shortest d lm RT F pm_X8_shortest n) (31, 1, ((16 : Nat) : Int), 14, []) L st h := run_s rfl
theorem r_X8_shortest_14 : run E g mi_X8_shortest d lm RT F pm_X8_shortest (n + 1) 14 L st h = exI E d lm RT F (run E g mi_X8_shortest d lm RT F pm_X8_shortest n) (0, (-1), 0, 15, []) L st h := run_s rfl
theorem r_X8_shortest_15 : run E g mi_X8_shortest d lm RT F pm_X8_shortest (n + 1) 15 L st h = exI E d lm RT F (run E g mi_X8_shortest d lm RT F pm_X8_shortest n) (48, 0, 0, 0, []) L st h := run_s rfl
theorem r_X8_shortest_16 : run E g mi_X8_shortest d lm RT F pm_X8_shortest (n + 1) 16 L st h = exI E d lm RT F (run E g mi_X8_shortest d lm RT F pm_X8_shortest n) (1, ((1 : Nat) : Int), 0, 17, []) L st h := run_s rfl
theorem r_X8_shortest_17 : run E g mi_X8_shortest d lm RT F pm_X8_shortest (n + 1) 17 L st h = exI E d lm RT F (run E g mi_X8_shortest d lm RT F pm_X8_shortest n) (1, ((2 : Nat) : Int), 0, 18, []) L st h := run_s rfl
theorem r_X8_shortest_18 : run E g mi_X8_shortest d lm RT F pm_X8_shortest (n + 1) 18 L st h = exI E d lm RT F (run E g mi_X8_shortest d lm RT F pm_X8_shortest n) (32, 1, ((24 : Nat) : Int), 21, []) L st h := run_s rfl
theorem r_X8_shortest_21 : run E g mi_X8_shortest d lm RT F pm_X8_shortest (n + 1) 21 L st h = exI E d lm RT F (run E g mi_X8_shortest d lm RT F pm_X8_shortest n) (0, (-3), 0, 23, []) L st h := run_s rfl
theorem r_X8_shortest_23 : run E g mi_X8_shortest d lm RT F pm_X8_shortest (n + 1) 23 L st h = exI E d lm RT F (run E g mi_X8_shortest d lm RT F pm_X8_shortest n) (48, 0, 0, 0, []) L st h := run_s rfl
theorem r_X8_shortest_24 : run E g mi_X8_shortest d lm RT F pm_X8_shortest (n + 1) 24 L st h = exI E d lm RT F (run E g mi_X8_shortest d lm RT F pm_X8_shortest n) (2, ((0 : Nat) : Int), 0, 25, []) L st h := run_s rfl
theorem r_X8_shortest_25 : run E g mi_X8_shortest d lm RT F pm_X8_shortest (n + 1) 25 L st h = exI E d lm RT F (run E g mi_X8_shortest d lm RT F pm_X8_shortest n) (35, ((8 : Nat) : Int), ((0 : Nat) : Int), 28, []) L st h := run_s rfl
theorem r_X8_shortest_28 : run E g mi_X8_shortest d lm RT F pm_X8_shortest (n + 1) 28 L st h = exI E d lm RT F (run E g mi_X8_shortest d lm RT F pm_X8_shortest n) (1, ((2 : Nat) : Int), 0, 29, []) L st h := run_s rfl
theorem r_X8_shortest_29 : run E g mi_X8_shortest d lm RT F pm_X8_shortest (n + 1) 29 L st h = exI E d lm RT F (run E g mi_X8_shortest d lm RT F pm_X8_shortest n) (51, ((13 : Nat) : Int), ((2 : Nat) : Int), 32, [3]) L st h := run_s rfl
theorem r_X8_shortest_32 : run E g mi_X8_shortest d lm RT F pm_X8_shortest (n + 1) 32 L st h = exI E d lm RT F (run E g mi_X8_shortest d lm RT F pm_X8_shortest n) (2, ((0 : Nat) : Int), 0, 33, []) L st h := run_s rfl
theorem r_X8_shortest_33 : run E g mi_X8_shortest d lm RT F pm_X8_shortest (n + 1) 33 L st h = exI E d lm RT F (run E g mi_X8_shortest d lm RT F pm_X8_shortest n) (35, ((8 : Nat) : Int), ((0 : Nat) : Int), 36, []) L st h := run_s rfl
theorem r_X8_shortest_36 : run E g mi_X8_shortest d lm RT F pm_X8_shortest (n + 1) 36 L st h = exI E d lm RT F (run E g mi_X8_shortest d lm RT F pm_X8_shortest n) (35, ((3 : Nat) : Int), ((4 : Nat) : Int), 39, []) L st h := run_s rfl
theorem r_X8_shortest_39 : run E g mi_X8_shortest d lm RT F pm_X8_shortest (n + 1) 39 L st h = exI E d lm RT F (run E g mi_X8_shortest d lm RT F pm_X8_shortest n) (1, ((1 : Nat) : Int), 0, 40, []) L st h := run_s rfl
theorem r_X8_shortest_40 : run E g mi_X8_shortest d lm RT F pm_X8_shortest (n + 1) 40 L st h = exI E d lm RT F (run E g mi_X8_shortest d lm RT F pm_X8_shortest n) (38, 0, 0, 41, []) L st h := run_s rfl
theorem r_X8_shortest_41 : run E g mi_X8_shortest d lm RT F pm_X8_shortest (n + 1) 41 L st h = exI E d lm RT F (run E g mi_X8_shortest d lm RT F pm_X8_shortest n) (48, 0, 0, 0, []) L st h := run_s rfl
theorem e_X8_shortest (n : Nat) {pc : Nat} (hF : FOk E d F) (hx : run E g mi_X8_shortest d lm RT F pm_X8_shortest n pc L st h) : G E g mi_X8_shortest d lm RT pc L st h := run_sound hF pk_X8_shortest n pc L st h hx
end
def mi_X8_right : MI := (8, cX8_right, 4, 0, false)
theorem mo_X8_right : miOk mi_X8_right (mt 63) = true := by decide +kernel
def tl_X8_right : List (Nat × PT) := [(0, (0, 0, 0, 1, [])),
  (1, (4, ((1 : Nat) : Int), 0, 2, [])),
  (2, (0, 0, 0, 3, [])),
  (3, (4, ((2 : Nat) : Int), 0, 4, [])),
  (4, (1, ((2 : Nat) : Int), 0, 5, [])),
  (5, (0, 8, 0, 7, [])),
  (7, (32, 3, ((66 : Nat) : Int), 10, [])),
  (10, (2, ((0 : Nat) : Int), 0, 11, [])),
  (11, (35, ((8 : Nat) : Int), ((0 : Nat) : Int), 14, [])),
  (14, (1, ((2 : Nat) : Int), 0, 15, [])),
  (15, (51, ((13 : Nat) : Int), ((2 : Nat) : Int), 18, [3])),
  (18, (0, 0, 0, 19, [])),
  (19, (4, ((3 : Nat) : Int), 0, 20, [])),
  (20, (1, ((3 : Nat) : Int), 0, 21, [])),
  (21, (0, 8, 0, 23, [])),
  (23, (32, 3, ((60 : Nat) : Int), 26, [])),
  (26, (1, ((3 : Nat) : Int), 0, 27, [])),
  (27, (1, ((2 : Nat) : Int), 0, 28, [])),
  (28, (32, 0, ((54 : Nat) : Int), 31, [])),
  (31, (2, ((0 : Nat) : Int), 0, 32, [])),
  (32, (35, ((8 : Nat) : Int), ((0 : Nat) : Int), 35, [])),
  (35, (1, ((3 : Nat) : Int), 0, 36, [])),
  (36, (2, ((0 : Nat) : Int), 0, 37, [])),
  (37, (1, ((3 : Nat) : Int), 0, 38, [])),
  (38, (1, ((2 : Nat) : Int), 0, 39, [])),
  (39, (52, ((70 : Nat) : Int), ((3 : Nat) : Int), 42, [8])),
  (42, (51, ((22 : Nat) : Int), ((1 : Nat) : Int), 45, [5])),
  (45, (51, ((15 : Nat) : Int), ((3 : Nat) : Int), 48, [3])),
  (48, (31, 0, ((54 : Nat) : Int), 51, [])),
  (51, (7, ((1 : Nat) : Int), 1, 54, [])),
  (54, (7, ((3 : Nat) : Int), 1, 57, [])),
  (57, (33, ((20 : Nat) : Int), 0, 0, [])),
  (60, (7, ((2 : Nat) : Int), 1, 63, [])),
  (63, (33, ((4 : Nat) : Int), 0, 0, [])),
  (66, (1, ((1 : Nat) : Int), 0, 67, [])),
  (67, (48, 0, 0, 0, []))]
theorem tk_X8_right : tOk mi_X8_right tl_X8_right = true := by decide +kernel
def pm_X8_right (pc : Nat) : Option PT := if [4, 20].contains pc then none else tl_X8_right.lookup pc
theorem pk_X8_right : ∀ pc pt, pm_X8_right pc = some pt → okPt mi_X8_right pc pt := fun pc pt h => tOk_pm tk_X8_right h
section
variable {E : ET} {g : GT} {d : Nat} {lm : Nat × Nat} {RT : RTy} {F : FT} {n : Nat} {L : LV} {st : List AV} {h : AH}
theorem r_X8_right_0 : run E g mi_X8_right d lm RT F pm_X8_right (n + 1) 0 L st h = exI E d lm RT F (run E g mi_X8_right d lm RT F pm_X8_right n) (0, 0, 0, 1, []) L st h := run_s rfl
theorem r_X8_right_1 : run E g mi_X8_right d lm RT F pm_X8_right (n + 1) 1 L st h = exI E d lm RT F (run E g mi_X8_right d lm RT F pm_X8_right n) (4, ((1 : Nat) : Int), 0, 2, []) L st h := run_s rfl
theorem r_X8_right_2 : run E g mi_X8_right d lm RT F pm_X8_right (n + 1) 2 L st h = exI E d lm RT F (run E g mi_X8_right d lm RT F pm_X8_right n) (0, 0, 0, 3, []) L st h := run_s rfl
theorem r_X8_right_3 : run E g mi_X8_right d lm RT F pm_X8_right (n + 1) 3 L st h = exI E d lm RT F (run E g mi_X8_right d lm RT F pm_X8_right n) (4, ((2 : Nat) : Int), 0, 4, []) L st h := run_s rfl
theorem r_X8_right_4 : run E g mi_X8_right d lm RT F pm_X8_right (n + 1) 4 L st h = G E g mi_X8_right d lm RT 4 L st h := run_c rfl
theorem q_X8_right_4 (n : Nat) (hF : FOk E d F) (hx : exI E d lm RT F (run E g mi_X8_right d lm RT F pm_X8_right n) (1, ((2 : Nat) : Int), 0, 5, []) L st h) : G E g mi_X8_right d lm RT 4 L st h := sstep hF (tOk_spec tk_X8_right (by decide +kernel)) (run_sound hF pk_X8_right n) hx
theorem r_X8_right_5 : run E g mi_X8_right d lm RT F pm_X8_right (n + 1) 5 L st h = exI E d lm RT F (run E g mi_X8_right d lm RT F pm_X8_right n) (0, 8, 0, 7, []) L st h := run_s rfl
theorem r_X8_right_7 : run E g mi_X8_right d lm RT F pm_X8_right (n + 1) 7 L st h = exI E d lm RT F (run E g mi_X8_right d lm RT F pm_X8_right n) (32, 3, ((66 : Nat) : Int), 10, []) L st h := run_s rfl
theorem r_X8_right_10 : run E g mi_X8_right d lm RT F pm_X8_right (n + 1) 10 L st h = exI E d lm RT F (run E g mi_X8_right d lm RT F pm_X8_right n) (2, ((0 : Nat) : Int), 0, 11, []) L st h := run_s rfl
theorem r_X8_right_11 : run E g mi_X8_right d lm RT F pm_X8_right (n + 1) 11 L st h = exI E d lm RT F (run E g mi_X8_right d lm RT F pm_X8_right n) (35, ((8 : Nat) : Int), ((0 : Nat) : Int), 14, []) L st h := run_s rfl
theorem r_X8_right_14 : run E g mi_X8_right d lm RT F pm_X8_right (n + 1) 14 L st h = exI E d lm RT F (run E g mi_X8_right d lm RT F pm_X8_right n) (1, ((2 : Nat) : Int), 0, 15, []) L st h := run_s rfl
theorem r_X8_right_15 : run E g mi_X8_right d lm RT F pm_X8_right (n + 1) 15 L st h = exI E d lm RT F (run E g mi_X8_right d lm RT F pm_X8_right n) (51, ((13 : Nat) : Int), ((2 : Nat) : Int), 18, [3]) L st h := run_s rfl
theorem r_X8_right_18 : run E g mi_X8_right d lm RT F pm_X8_right (n + 1) 18 L st h = exI E d lm RT F (run E g mi_X8_right d lm RT F pm_X8_right n) (0, 0, 0, 19, []) L st h := run_s rfl
theorem r_X8_right_19 : run E g mi_X8_right d lm RT F pm_X8_right (n + 1) 19 L st h = exI E d lm RT F (run E g mi_X8_right d lm RT F pm_X8_right n) (4, ((3 : Nat) : Int), 0, 20, []) L st h := run_s rfl
theorem r_X8_right_20 : run E g mi_X8_right d lm RT F pm_X8_right (n + 1) 20 L st h = G E g mi_X8_right d lm RT 20 L st h := run_c rfl
theorem q_X8_right_20 (n : Nat) (hF : FOk E d F) (hx : exI E d lm RT F (run E g mi_X8_right d lm RT F pm_X8_right n) (1, ((3 : Nat) : Int), 0, 21, []) L st h) : G E g mi_X8_right d lm RT 20 L st h := sstep hF (tOk_spec tk_X8_right (by decide +kernel)) (run_sound hF pk_X8_right n) hx
theorem r_X8_right_21 : run E g mi_X8_right d lm RT F pm_X8_right (n + 1) 21 L st h = exI E d lm RT F (run E g mi_X8_right d lm RT F pm_X8_right n) (0, 8, 0, 23, []) L st h := run_s rfl
theorem r_X8_right_23 : run E g mi_X8_right d lm RT F pm_X8_right (n + 1) 23 L st h = exI E d lm RT F (run E g mi_X8_right d lm RT F pm_X8_right n) (32, 3, ((60 : Nat) : Int), 26, []) L st h := run_s rfl
theorem r_X8_right_26 : run E g mi_X8_right d lm RT F pm_X8_right (n + 1) 26 L st h = exI E d lm RT F (run E g mi_X8_right d lm RT F pm_X8_right n) (1, ((3 : Nat) : Int), 0, 27, []) L st h := run_s rfl
theorem r_X8_right_27 : run E g mi_X8_right d lm RT F pm_X8_right (n + 1) 27 L st h = exI E d lm RT F (run E g mi_X8_right d lm RT F pm_X8_right n) (1, ((2 : Nat) : Int), 0, 28, []) L st h := run_s rfl
theorem r_X8_right_28 : run E g mi_X8_right d lm RT F pm_X8_right (n + 1) 28 L st h = exI E d lm RT F (run E g mi_X8_right d lm RT F pm_X8_right n) (32, 0, ((54 : Nat) : Int), 31, []) L st h := run_s rfl
theorem r_X8_right_31 : run E g mi_X8_right d lm RT F pm_X8_right (n + 1) 31 L st h = exI E d lm RT F (run E g mi_X8_right d lm RT F pm_X8_right n) (2, ((0 : Nat) : Int), 0, 32, []) L st h := run_s rfl
theorem r_X8_right_32 : run E g mi_X8_right d lm RT F pm_X8_right (n + 1) 32 L st h = exI E d lm RT F (run E g mi_X8_right d lm RT F pm_X8_right n) (35, ((8 : Nat) : Int), ((0 : Nat) : Int), 35, []) L st h := run_s rfl
theorem r_X8_right_35 : run E g mi_X8_right d lm RT F pm_X8_right (n + 1) 35 L st h = exI E d lm RT F (run E g mi_X8_right d lm RT F pm_X8_right n) (1, ((3 : Nat) : Int), 0, 36, []) L st h := run_s rfl
theorem r_X8_right_36 : run E g mi_X8_right d lm RT F pm_X8_right (n + 1) 36 L st h = exI E d lm RT F (run E g mi_X8_right d lm RT F pm_X8_right n) (2, ((0 : Nat) : Int), 0, 37, []) L st h := run_s rfl
theorem r_X8_right_37 : run E g mi_X8_right d lm RT F pm_X8_right (n + 1) 37 L st h = exI E d lm RT F (run E g mi_X8_right d lm RT F pm_X8_right n) (1, ((3 : Nat) : Int), 0, 38, []) L st h := run_s rfl
theorem r_X8_right_38 : run E g mi_X8_right d lm RT F pm_X8_right (n + 1) 38 L st h = exI E d lm RT F (run E g mi_X8_right d lm RT F pm_X8_right n) (1, ((2 : Nat) : Int), 0, 39, []) L st h := run_s rfl
theorem r_X8_right_39 : run E g mi_X8_right d lm RT F pm_X8_right (n + 1) 39 L st h = exI E d lm RT F (run E g mi_X8_right d lm RT F pm_X8_right n) (52, ((70 : Nat) : Int), ((3 : Nat) : Int), 42, [8]) L st h := run_s rfl
theorem r_X8_right_42 : run E g mi_X8_right d lm RT F pm_X8_right (n + 1) 42 L st h = exI E d lm RT F (run E g mi_X8_right d lm RT F pm_X8_right n) (51, ((22 : Nat) : Int), ((1 : Nat) : Int), 45, [5]) L st h := run_s rfl
theorem r_X8_right_45 : run E g mi_X8_right d lm RT F pm_X8_right (n + 1) 45 L st h = exI E d lm RT F (run E g mi_X8_right d lm RT F pm_X8_right n) (51, ((15 : Nat) : Int), ((3 : Nat) : Int), 48, [3]) L st h := run_s rfl
theorem r_X8_right_48 : run E g mi_X8_right d lm RT F pm_X8_right (n + 1) 48 L st h = exI E d lm RT F (run E g mi_X8_right d lm RT F pm_X8_right n) (31, 0, ((54 : Nat) : Int), 51, []) L st h := run_s rfl
theorem r_X8_right_51 : run E g mi_X8_right d lm RT F pm_X8_right (n + 1) 51 L st h = exI E d lm RT F (run E g mi_X8_right d lm RT F pm_X8_right n) (7, ((1 : Nat) : Int), 1, 54, []) L st h := run_s rfl
theorem r_X8_right_54 : run E g mi_X8_right d lm RT F pm_X8_right (n + 1) 54 L st h = exI E d lm RT F (run E g mi_X8_right d lm RT F pm_X8_right n) (7, ((3 : Nat) : Int), 1, 57, []) L st h := run_s rfl
theorem r_X8_right_57 : run E g mi_X8_right d lm RT F pm_X8_right (n + 1) 57 L st h = exI E d lm RT F (run E g mi_X8_right d lm RT F pm_X8_right n) (33, ((20 : Nat) : Int), 0, 0, []) L st h := run_s rfl
theorem r_X8_right_60 : run E g mi_X8_right d lm RT F pm_X8_right (n + 1) 60 L st h = exI E d lm RT F (run E g mi_X8_right d lm RT F pm_X8_right n) (7, ((2 : Nat) : Int), 1, 63, []) L st h := run_s rfl
theorem r_X8_right_63 : run E g mi_X8_right d lm RT F pm_X8_right (n + 1) 63 L st h = exI E d lm RT F (run E g mi_X8_right d lm RT F pm_X8_right n) (33, ((4 : Nat) : Int), 0, 0, []) L st h := run_s rfl
theorem r_X8_right_66 : run E g mi_X8_right d lm RT F pm_X8_right (n + 1) 66 L st h = exI E d lm RT F (run E g mi_X8_right d lm RT F pm_X8_right n) (1, ((1 : Nat) : Int), 0, 67, []) L st h := run_s rfl
theorem r_X8_right_67 : run E g mi_X8_right d lm RT F pm_X8_right (n + 1) 67 L st h = exI E d lm RT F (run E g mi_X8_right d lm RT F pm_X8_right n) (48, 0, 0, 0, []) L st h := run_s rfl
theorem e_X8_right (n : Nat) {pc : Nat} (hF : FOk E d F) (hx : run E g mi_X8_right d lm RT F pm_X8_right n pc L st h) : G E g mi_X8_right d lm RT pc L st h := run_sound hF pk_X8_right n pc L st h hx
end
def mi_X8_many : MI := (8, cX8_many, 2, 0, false)
theorem mo_X8_many : miOk mi_X8_many (mt 64) = true := by decide +kernel
def tl_X8_many : List (Nat × PT) := [(0, (1, ((1 : Nat) : Int), 0, 1, [])),
  (1, (34, 0, ((102 : Nat) : Int), 0, [48, 56, 68, 74, 79, 84, 89, 94])),
  (48, (2, ((0 : Nat) : Int), 0, 49, [])),
  (49, (35, ((8 : Nat) : Int), ((0 : Nat) : Int), 52, [])),
  (52, (35, ((3 : Nat) : Int), ((5 : Nat) : Int), 55, [])),
  (55, (48, 0, 0, 0, [])),
  (56, (2, ((0 : Nat) : Int), 0, 57, [])),
  (57, (0, 0, 0, 58, [])),
  (58, (51, ((73 : Nat) : Int), ((2 : Nat) : Int), 61, [8])),
  (61, (2, ((0 : Nat) : Int), 0, 62, [])),
  (62, (0, 1, 0, 63, [])),
  (63, (51, ((73 : Nat) : Int), ((2 : Nat) : Int), 66, [8])),
  (66, (8, 0, 0, 67, [])),
  (67, (48, 0, 0, 0, [])),
  (68, (2, ((0 : Nat) : Int), 0, 69, [])),
  (69, (0, 0, 0, 70, [])),
  (70, (51, ((73 : Nat) : Int), ((2 : Nat) : Int), 73, [8])),
  (73, (48, 0, 0, 0, [])),
  (74, (2, ((0 : Nat) : Int), 0, 75, [])),
  (75, (35, ((8 : Nat) : Int), ((11 : Nat) : Int), 78, [])),
  (78, (48, 0, 0, 0, [])),
  (79, (2, ((0 : Nat) : Int), 0, 80, [])),
  (80, (35, ((8 : Nat) : Int), ((12 : Nat) : Int), 83, [])),
  (83, (48, 0, 0, 0, [])),
  (84, (2, ((0 : Nat) : Int), 0, 85, [])),
  (85, (35, ((8 : Nat) : Int), ((10 : Nat) : Int), 88, [])),
  (88, (48, 0, 0, 0, [])),
  (89, (2, ((0 : Nat) : Int), 0, 90, [])),
  (90, (35, ((8 : Nat) : Int), ((13 : Nat) : Int), 93, [])),
  (93, (48, 0, 0, 0, [])),
  (94, (2, ((0 : Nat) : Int), 0, 95, [])),
  (95, (35, ((8 : Nat) : Int), ((5 : Nat) : Int), 98, [])),
  (98, (35, ((0 : Nat) : Int), ((1 : Nat) : Int), 101, [])),
  (101, (48, 0, 0, 0, [])),
  (102, (0, (-2), 0, 104, [])),
  (104, (48, 0, 0, 0, []))]
theorem tk_X8_many : tOk mi_X8_many tl_X8_many = true := by decide +kernel
def pm_X8_many (pc : Nat) : Option PT := if [].contains pc then none else tl_X8_many.lookup pc
theorem pk_X8_many : ∀ pc pt, pm_X8_many pc = some pt → okPt mi_X8_many pc pt := fun pc pt h => tOk_pm tk_X8_many h
section
variable {E : ET} {g : GT} {d : Nat} {lm : Nat × Nat} {RT : RTy} {F : FT} {n : Nat} {L : LV} {st : List AV} {h : AH}
theorem r_X8_many_0 : run E g mi_X8_many d lm RT F pm_X8_many (n + 1) 0 L st h = exI E d lm RT F (run E g mi_X8_many d lm RT F pm_X8_many n) (1, ((1 : Nat) : Int), 0, 1, []) L st h := run_s rfl
theorem r_X8_many_1 : run E g mi_X8_many d lm RT F pm_X8_many (n + 1) 1 L st h = exI E d lm RT F (run E g mi_X8_many d lm RT F pm_X8_many n) (34, 0, ((102 : Nat) : Int), 0, [48, 56, 68, 74, 79, 84, 89, 94]) L st h := run_s rfl
theorem r_X8_many_48 : run E g mi_X8_many d lm RT F pm_X8_many (n + 1) 48 L st h = exI E d lm RT F (run E g mi_X8_many d lm RT F pm_X8_many n) (2, ((0 : Nat) : Int), 0, 49, []) L st h := run_s rfl
theorem r_X8_many_49 : run E g mi_X8_many d lm RT F pm_X8_many (n + 1) 49 L st h = exI E d lm RT F (run E g mi_X8_many d lm RT F pm_X8_many n) (35, ((8 : Nat) : Int), ((0 : Nat) : Int), 52, []) L st h := run_s rfl
theorem r_X8_many_52 : run E g mi_X8_many d lm RT F pm_X8_many (n + 1) 52 L st h = exI E d lm RT F (run E g mi_X8_many d lm RT F pm_X8_many n) (35, ((3 : Nat) : Int), ((5 : Nat) : Int), 55, []) L st h := run_s rfl
theorem r_X8_many_55 : run E g mi_X8_many d lm RT F pm_X8_many (n + 1) 55 L st h = exI E d lm RT F (run E g mi_X8_many d lm RT F pm_X8_many n) (48, 0, 0, 0, []) L st h := run_s rfl
theorem r_X8_many_56 : run E g mi_X8_many d lm RT F pm_X8_many (n + 1) 56 L st h = exI E d lm RT F (run E g mi_X8_many d lm RT F pm_X8_many n) (2, ((0 : Nat) : Int), 0, 57, []) L st h := run_s rfl
theorem r_X8_many_57 : run E g mi_X8_many d lm RT F pm_X8_many (n + 1) 57 L st h = exI E d lm RT F (run E g mi_X8_many d lm RT F pm_X8_many n) (0, 0, 0, 58, []) L st h := run_s rfl
theorem r_X8_many_58 : run E g mi_X8_many d lm RT F pm_X8_many (n + 1) 58 L st h = exI E d lm RT F (run E g mi_X8_many d lm RT F pm_X8_many n) (51, ((73 : Nat) : Int), ((2 : Nat) : Int), 61, [8]) L st h := run_s rfl
theorem r_X8_many_61 : run E g mi_X8_many d lm RT F pm_X8_many (n + 1) 61 L st h = exI E d lm RT F (run E g mi_X8_many d lm RT F pm_X8_many n) (2, ((0 : Nat) : Int), 0, 62, []) L st h := run_s rfl
theorem r_X8_many_62 : run E g mi_X8_many d lm RT F pm_X8_many (n + 1) 62 L st h = exI E d lm RT F (run E g mi_X8_many d lm RT F pm_X8_many n) (0, 1, 0, 63, []) L st h := run_s rfl
theorem r_X8_many_63 : run E g mi_X8_many d lm RT F pm_X8_many (n + 1) 63 L st h = exI E d lm RT F (run E g mi_X8_many d lm RT F pm_X8_many n) (51, ((73 : Nat) : Int), ((2 : Nat) : Int), 66, [8]) L st h := run_s rfl
theorem r_X8_many_66 : run E g mi_X8_many d lm RT F pm_X8_many (n + 1) 66 L st h = exI E d lm RT F (run E g mi_X8_many d lm RT F pm_X8_many n) (8, 0, 0, 67, []) L st h := run_s rfl
theorem r_X8_many_67 : run E g mi_X8_many d lm RT F pm_X8_many (n + 1) 67 L st h = exI E d lm RT F (run E g mi_X8_many d lm RT F pm_X8_many n) (48, 0, 0, 0, []) L st h := run_s rfl
theorem r_X8_many_68 : run E g mi_X8_many d lm RT F pm_X8_many (n + 1) 68 L st h = exI E d lm RT F (run E g mi_X8_many d lm RT F pm_X8_many n) (2, ((0 : Nat) : Int), 0, 69, []) L st h := run_s rfl
theorem r_X8_many_69 : run E g mi_X8_many d lm RT F pm_X8_many (n + 1) 69 L st h = exI E d lm RT F (run E g mi_X8_many d lm RT F pm_X8_many n) (0, 0, 0, 70, []) L st h := run_s rfl
theorem r_X8_many_70 : run E g mi_X8_many d lm RT F pm_X8_many (n + 1) 70 L st h = exI E d lm RT F (run E g mi_X8_many d lm RT F pm_X8_many n) (51, ((73 : Nat) : Int), ((2 : Nat) : Int), 73, [8]) L st h := run_s rfl
theorem r_X8_many_73 : run E g mi_X8_many d lm RT F pm_X8_many (n + 1) 73 L st h = exI E d lm RT F (run E g mi_X8_many d lm RT F pm_X8_many n) (48, 0, 0, 0, []) L st h := run_s rfl
theorem r_X8_many_74 : run E g mi_X8_many d lm RT F pm_X8_many (n + 1) 74 L st h = exI E d lm RT F (run E g mi_X8_many d lm RT F pm_X8_many n) (2, ((0 : Nat) : Int), 0, 75, []) L st h := run_s rfl
theorem r_X8_many_75 : run E g mi_X8_many d lm RT F pm_X8_many (n + 1) 75 L st h = exI E d lm RT F (run E g mi_X8_many d lm RT F pm_X8_many n) (35, ((8 : Nat) : Int), ((11 : Nat) : Int), 78, []) L st h := run_s rfl
theorem r_X8_many_78 : run E g mi_X8_many d lm RT F pm_X8_many (n + 1) 78 L st h = exI E d lm RT F (run E g mi_X8_many d lm RT F pm_X8_many n) (48, 0, 0, 0, []) L st h := run_s rfl
theorem r_X8_many_79 : run E g mi_X8_many d lm RT F pm_X8_many (n + 1) 79 L st h = exI E d lm RT F (run E g mi_X8_many d lm RT F pm_X8_many n) (2, ((0 : Nat) : Int), 0, 80, []) L st h := run_s rfl
theorem r_X8_many_80 : run E g mi_X8_many d lm RT F pm_X8_many (n + 1) 80 L st h = exI E d lm RT F (run E g mi_X8_many d lm RT F pm_X8_many n) (35, ((8 : Nat) : Int), ((12 : Nat) : Int), 83, []) L st h := run_s rfl
theorem r_X8_many_83 : run E g mi_X8_many d lm RT F pm_X8_many (n + 1) 83 L st h = exI E d lm RT F (run E g mi_X8_many d lm RT F pm_X8_many n) (48, 0, 0, 0, []) L st h := run_s rfl
theorem r_X8_many_84 : run E g mi_X8_many d lm RT F pm_X8_many (n + 1) 84 L st h = exI E d lm RT F (run E g mi_X8_many d lm RT F pm_X8_many n) (2, ((0 : Nat) : Int), 0, 85, []) L st h := run_s rfl
theorem r_X8_many_85 : run E g mi_X8_many d lm RT F pm_X8_many (n + 1) 85 L st h = exI E d lm RT F (run E g mi_X8_many d lm RT F pm_X8_many n) (35, ((8 : Nat) : Int), ((10 : Nat) : Int), 88, []) L st h := run_s rfl
theorem r_X8_many_88 : run E g mi_X8_many d lm RT F pm_X8_many (n + 1) 88 L st h = exI E d lm RT F (run E g mi_X8_many d lm RT F pm_X8_many n) (48, 0, 0, 0, []) L st h := run_s rfl
theorem r_X8_many_89 : run E g mi_X8_many d lm RT F pm_X8_many (n + 1) 89 L st h = exI E d lm RT F (run E g mi_X8_many d lm RT F pm_X8_many n) (2, ((0 : Nat) : Int), 0, 90, []) L st h := run_s rfl
theorem r_X8_many_90 : run E g mi_X8_many d lm RT F pm_X8_many (n + 1) 90 L st h = exI E d lm RT F (run E g mi_X8_many d lm RT F pm_X8_many n) (35, ((8 : Nat) : Int), ((13 : Nat) : Int), 93, []) L st h := run_s rfl
theorem r_X8_many_93 : run E g mi_X8_many d lm RT F pm_X8_many (n + 1) 93 L st h = exI E d lm RT F (run E g mi_X8_many d lm RT F pm_X8_many n) (48, 0, 0, 0, []) L st h := run_s rfl
theorem r_X8_many_94 : run E g mi_X8_many d lm RT F pm_X8_many (n + 1) 94 L st h = exI E d lm RT F (run E g mi_X8_many d lm RT F pm_X8_many n) (2, ((0 : Nat) : Int), 0, 95, []) L st h := run_s rfl
theorem r_X8_many_95 : run E g mi_X8_many d lm RT F pm_X8_many (n + 1) 95 L st h = exI E d lm RT F (run E g mi_X8_many d lm RT F pm_X8_many n) (35, ((8 : Nat) : Int), ((5 : Nat) : Int), 98, []) L st h := run_s rfl
theorem r_X8_many_98 : run E g mi_X8_many d lm RT F pm_X8_many (n + 1) 98 L st h = exI E d lm RT F (run E g mi_X8_many d lm RT F pm_X8_many n) (35, ((0 : Nat) : Int), ((1 : Nat) : Int), 101, []) L st h := run_s rfl
theorem r_X8_many_101 : run E g mi_X8_many d lm RT F pm_X8_many (n + 1) 101 L st h = exI E d lm RT F (run E g mi_X8_many d lm RT F pm_X8_many n) (48, 0, 0, 0, []) L st h := run_s rfl
theorem r_X8_many_102 : run E g mi_X8_many d lm RT F pm_X8_many (n + 1) 102 L st h = exI E d lm RT F (run E g mi_X8_many d lm RT F pm_X8_many n) (0, (-2), 0, 104, []) L st h := run_s rfl
theorem r_X8_many_104 : run E g mi_X8_many d lm RT F pm_X8_many (n + 1) 104 L st h = exI E d lm RT F (run E g mi_X8_many d lm RT F pm_X8_many n) (48, 0, 0, 0, []) L st h := run_s rfl
theorem e_X8_many (n : Nat) {pc : Nat} (hF : FOk E d F) (hx : run E g mi_X8_many d lm RT F pm_X8_many n pc L st h) : G E g mi_X8_many d lm RT pc L st h := run_sound hF pk_X8_many n pc L st h hx
end
def mi_X8_startRowsAnew : MI := (8, cX8_startRowsAnew, 3, 4, false)
theorem mo_X8_startRowsAnew : miOk mi_X8_startRowsAnew (mt 71) = true := by decide +kernel
def tl_X8_startRowsAnew : List (Nat × PT) := [(0, (0, 0, 0, 1, [])),
  (1, (4, ((2 : Nat) : Int), 0, 2, [])),
  (2, (1, ((2 : Nat) : Int), 0, 3, [])),
  (3, (0, 8, 0, 5, [])),
  (5, (32, 3, ((32 : Nat) : Int), 8, [])),
  (8, (2, ((0 : Nat) : Int), 0, 9, [])),
  (9, (1, ((1 : Nat) : Int), 0, 10, [])),
  (10, (1, ((2 : Nat) : Int), 0, 11, [])),
  (11, (52, ((70 : Nat) : Int), ((3 : Nat) : Int), 14, [8])),
  (14, (2, ((0 : Nat) : Int), 0, 15, [])),
  (15, (35, ((8 : Nat) : Int), ((0 : Nat) : Int), 18, [])),
  (18, (35, ((3 : Nat) : Int), ((3 : Nat) : Int), 21, [])),
  (21, (1, ((1 : Nat) : Int), 0, 22, [])),
  (22, (38, 0, 0, 23, [])),
  (23, (51, ((20 : Nat) : Int), ((2 : Nat) : Int), 26, [5])),
  (26, (7, ((2 : Nat) : Int), 1, 29, [])),
  (29, (33, ((2 : Nat) : Int), 0, 0, [])),
  (32, (48, 4, 0, 0, []))]
theorem tk_X8_startRowsAnew : tOk mi_X8_startRowsAnew tl_X8_startRowsAnew = true := by decide +kernel
def pm_X8_startRowsAnew (pc : Nat) : Option PT := if [2].contains pc then none else tl_X8_startRowsAnew.lookup pc
theorem pk_X8_startRowsAnew : ∀ pc pt, pm_X8_startRowsAnew pc = some pt → okPt mi_X8_startRowsAnew pc pt := fun pc pt h => tOk_pm tk_X8_startRowsAnew h
section
variable {E : ET} {g : GT} {d : Nat} {lm : Nat × Nat} {RT : RTy} {F : FT} {n : Nat} {L : LV} {st : List AV} {h : AH}
theorem r_X8_startRowsAnew_0 : run E g mi_X8_startRowsAnew d lm RT F pm_X8_startRowsAnew (n + 1) 0 L st h = exI E d lm RT F (run E g mi_X8_startRowsAnew d lm RT F pm_X8_startRowsAnew n) (0, 0, 0, 1, []) L st h := run_s rfl
theorem r_X8_startRowsAnew_1 : run E g mi_X8_startRowsAnew d lm RT F pm_X8_startRowsAnew (n + 1) 1 L st h = exI E d lm RT F (run E g mi_X8_startRowsAnew d lm RT F pm_X8_startRowsAnew n) (4, ((2 : Nat) : Int), 0, 2, []) L st h := run_s rfl
theorem r_X8_startRowsAnew_2 : run E g mi_X8_startRowsAnew d lm RT F pm_X8_startRowsAnew (n + 1) 2 L st h = G E g mi_X8_startRowsAnew d lm RT 2 L st h := run_c rfl
theorem q_X8_startRowsAnew_2 (n : Nat) (hF : FOk E d F) (hx : exI E d lm RT F (run E g mi_X8_startRowsAnew d lm RT F pm_X8_startRowsAnew n) (1, ((2 : Nat) : Int), 0, 3, []) L st h) : G E g mi_X8_startRowsAnew d lm RT 2 L st h := sstep hF (tOk_spec tk_X8_startRowsAnew (by decide +kernel)) (run_sound hF pk_X8_startRowsAnew n) hx
theorem r_X8_startRowsAnew_3 : run E g mi_X8_startRowsAnew d lm RT F pm_X8_startRowsAnew (n + 1) 3 L st h = exI E d lm RT F (run E g mi_X8_startRowsAnew d lm RT F pm_X8_startRowsAnew n) (0, 8, 0, 5, []) L st h := run_s rfl
theorem r_X8_startRowsAnew_5 : run E g mi_X8_startRowsAnew d lm RT F pm_X8_startRowsAnew (n + 1) 5 L st h = exI E d lm RT F (run E g mi_X8_startRowsAnew d lm RT F pm_X8_startRowsAnew n) (32, 3, ((32 : Nat) : Int), 8, []) L st h := run_s rfl
theorem r_X8_startRowsAnew_8 : run E g mi_X8_startRowsAnew d lm RT F pm_X8_startRowsAnew (n + 1) 8 L st h = exI E d lm RT F (run E g mi_X8_startRowsAnew d lm RT F pm_X8_startRowsAnew n) (2, ((0 : Nat) : Int), 0, 9, []) L st h := run_s rfl
theorem r_X8_startRowsAnew_9 : run E g mi_X8_startRowsAnew d lm RT F pm_X8_startRowsAnew (n + 1) 9 L st h = exI E d lm RT F (run E g mi_X8_startRowsAnew d lm RT F pm_X8_startRowsAnew n) (1, ((1 : Nat) : Int), 0, 10, []) L st h := run_s rfl
theorem r_X8_startRowsAnew_10 : run E g mi_X8_startRowsAnew d lm RT F pm_X8_startRowsAnew (n + 1) 10 L st h = exI E d lm RT F (run E g mi_X8_startRowsAnew d lm RT F pm_X8_startRowsAnew n) (1, ((2 : Nat) : Int), 0, 11, []) L st h := run_s rfl
theorem r_X8_startRowsAnew_11 : run E g mi_X8_startRowsAnew d lm RT F pm_X8_startRowsAnew (n + 1) 11 L st h = exI E d lm RT F (run E g mi_X8_startRowsAnew d lm RT F pm_X8_startRowsAnew n) (52, ((70 : Nat) : Int), ((3 : Nat) : Int), 14, [8]) L st h := run_s rfl
theorem r_X8_startRowsAnew_14 : run E g mi_X8_startRowsAnew d lm RT F pm_X8_startRowsAnew (n + 1) 14 L st h = exI E d lm RT F (run E g mi_X8_startRowsAnew d lm RT F pm_X8_startRowsAnew n) (2, ((0 : Nat) : Int), 0, 15, []) L st h := run_s rfl
theorem r_X8_startRowsAnew_15 : run E g mi_X8_startRowsAnew d lm RT F pm_X8_startRowsAnew (n + 1) 15 L st h = exI E d lm RT F (run E g mi_X8_startRowsAnew d lm RT F pm_X8_startRowsAnew n) (35, ((8 : Nat) : Int), ((0 : Nat) : Int), 18, []) L st h := run_s rfl
theorem r_X8_startRowsAnew_18 : run E g mi_X8_startRowsAnew d lm RT F pm_X8_startRowsAnew (n + 1) 18 L st h = exI E d lm RT F (run E g mi_X8_startRowsAnew d lm RT F pm_X8_startRowsAnew n) (35, ((3 : Nat) : Int), ((3 : Nat) : Int), 21, []) L st h := run_s rfl
theorem r_X8_startRowsAnew_21 : run E g mi_X8_startRowsAnew d lm RT F pm_X8_startRowsAnew (n + 1) 21 L st h = exI E d lm RT F (run E g mi_X8_startRowsAnew d lm RT F pm_X8_startRowsAnew n) (1, ((1 : Nat) : Int), 0, 22, []) L st h := run_s rfl
theorem r_X8_startRowsAnew_22 : run E g mi_X8_startRowsAnew d lm RT F pm_X8_startRowsAnew (n + 1) 22 L st h = exI E d lm RT F (run E g mi_X8_startRowsAnew d lm RT F pm_X8_startRowsAnew n) (38, 0, 0, 23, []) L st h := run_s rfl
theorem r_X8_startRowsAnew_23 : run E g mi_X8_startRowsAnew d lm RT F pm_X8_startRowsAnew (n + 1) 23 L st h = exI E d lm RT F (run E g mi_X8_startRowsAnew d lm RT F pm_X8_startRowsAnew n) (51, ((20 : Nat) : Int), ((2 : Nat) : Int), 26, [5]) L st h := run_s rfl
theorem r_X8_startRowsAnew_26 : run E g mi_X8_startRowsAnew d lm RT F pm_X8_startRowsAnew (n + 1) 26 L st h = exI E d lm RT F (run E g mi_X8_startRowsAnew d lm RT F pm_X8_startRowsAnew n) (7, ((2 : Nat) : Int), 1, 29, []) L st h := run_s rfl
theorem r_X8_startRowsAnew_29 : run E g mi_X8_startRowsAnew d lm RT F pm_X8_startRowsAnew (n + 1) 29 L st h = exI E d lm RT F (run E g mi_X8_startRowsAnew d lm RT F pm_X8_startRowsAnew n) (33, ((2 : Nat) : Int), 0, 0, []) L st h := run_s rfl
theorem r_X8_startRowsAnew_32 : run E g mi_X8_startRowsAnew d lm RT F pm_X8_startRowsAnew (n + 1) 32 L st h = exI E d lm RT F (run E g mi_X8_startRowsAnew d lm RT F pm_X8_startRowsAnew n) (48, 4, 0, 0, []) L st h := run_s rfl
theorem e_X8_startRowsAnew (n : Nat) {pc : Nat} (hF : FOk E d F) (hx : run E g mi_X8_startRowsAnew d lm RT F pm_X8_startRowsAnew n pc L st h) : G E g mi_X8_startRowsAnew d lm RT pc L st h := run_sound hF pk_X8_startRowsAnew n pc L st h hx
end
def mi_X8_freeWalker : MI := (8, cX8_freeWalker, 2, 0, false)
theorem mo_X8_freeWalker : miOk mi_X8_freeWalker (mt 72) = true := by decide +kernel
def tl_X8_freeWalker : List (Nat × PT) := [(0, (0, 0, 0, 1, [])),
  (1, (4, ((1 : Nat) : Int), 0, 2, [])),
  (2, (1, ((1 : Nat) : Int), 0, 3, [])),
  (3, (0, 12, 0, 5, [])),
  (5, (32, 3, ((28 : Nat) : Int), 8, [])),
  (8, (2, ((0 : Nat) : Int), 0, 9, [])),
  (9, (35, ((8 : Nat) : Int), ((3 : Nat) : Int), 12, [])),
  (12, (1, ((1 : Nat) : Int), 0, 13, [])),
  (13, (49, 0, 0, 14, [])),
  (14, (35, ((7 : Nat) : Int), ((3 : Nat) : Int), 17, [])),
  (17, (31, 1, ((22 : Nat) : Int), 20, [])),
  (20, (1, ((1 : Nat) : Int), 0, 21, [])),
  (21, (48, 0, 0, 0, [])),
  (22, (7, ((1 : Nat) : Int), 1, 25, [])),
  (25, (33, ((2 : Nat) : Int), 0, 0, [])),
  (28, (0, (-9), 0, 30, [])),
  (30, (48, 0, 0, 0, []))]
theorem tk_X8_freeWalker : tOk mi_X8_freeWalker tl_X8_freeWalker = true := by decide +kernel
def pm_X8_freeWalker (pc : Nat) : Option PT := if [2].contains pc then none else tl_X8_freeWalker.lookup pc
theorem pk_X8_freeWalker : ∀ pc pt, pm_X8_freeWalker pc = some pt → okPt mi_X8_freeWalker pc pt := fun pc pt h => tOk_pm tk_X8_freeWalker h
section
variable {E : ET} {g : GT} {d : Nat} {lm : Nat × Nat} {RT : RTy} {F : FT} {n : Nat} {L : LV} {st : List AV} {h : AH}
theorem r_X8_freeWalker_0 : run E g mi_X8_freeWalker d lm RT F pm_X8_freeWalker (n + 1) 0 L st h = exI E d lm RT F (run E g mi_X8_freeWalker d lm RT F pm_X8_freeWalker n) (0, 0, 0, 1, []) L st h := run_s rfl
theorem r_X8_freeWalker_1 : run E g mi_X8_freeWalker d lm RT F pm_X8_freeWalker (n + 1) 1 L st h = exI E d lm RT F (run E g mi_X8_freeWalker d lm RT F pm_X8_freeWalker n) (4, ((1 : Nat) : Int), 0, 2, []) L st h := run_s rfl
theorem r_X8_freeWalker_2 : run E g mi_X8_freeWalker d lm RT F pm_X8_freeWalker (n + 1) 2 L st h = G E g mi_X8_freeWalker d lm RT 2 L st h := run_c rfl
theorem q_X8_freeWalker_2 (n : Nat) (hF : FOk E d F) (hx : exI E d lm RT F (run E g mi_X8_freeWalker d lm RT F pm_X8_freeWalker n) (1, ((1 : Nat) : Int), 0, 3, []) L st h) : G E g mi_X8_freeWalker d lm RT 2 L st h := sstep hF (tOk_spec tk_X8_freeWalker (by decide +kernel)) (run_sound hF pk_X8_freeWalker n) hx
theorem r_X8_freeWalker_3 : run E g mi_X8_freeWalker d lm RT F pm_X8_freeWalker (n + 1) 3 L st h = exI E d lm RT F (run E g mi_X8_freeWalker d lm RT F pm_X8_freeWalker n) (0, 12, 0, 5, []) L st h := run_s rfl
theorem r_X8_freeWalker_5 : run E g mi_X8_freeWalker d lm RT F pm_X8_freeWalker (n + 1) 5 L st h = exI E d lm RT F (run E g mi_X8_freeWalker d lm RT F pm_X8_freeWalker n) (32, 3, ((28 : Nat) : Int), 8, []) L st h := run_s rfl
theorem r_X8_freeWalker_8 : run E g mi_X8_freeWalker d lm RT F pm_X8_freeWalker (n + 1) 8 L st h = exI E d lm RT F (run E g mi_X8_freeWalker d lm RT F pm_X8_freeWalker n) (2, ((0 : Nat) : Int), 0, 9, []) L st h := run_s rfl
theorem r_X8_freeWalker_9 : run E g mi_X8_freeWalker d lm RT F pm_X8_freeWalker (n + 1) 9 L st h = exI E d lm RT F (run E g mi_X8_freeWalker d lm RT F pm_X8_freeWalker n) (35, ((8 : Nat) : Int), ((3 : Nat) : Int), 12, []) L st h := run_s rfl
theorem r_X8_freeWalker_12 : run E g mi_X8_freeWalker d lm RT F pm_X8_freeWalker (n + 1) 12 L st h = exI E d lm RT F (run E g mi_X8_freeWalker d lm RT F pm_X8_freeWalker n) (1, ((1 : Nat) : Int), 0, 13, []) L st h := run_s rfl
theorem r_X8_freeWalker_13 : run E g mi_X8_freeWalker d lm RT F pm_X8_freeWalker (n + 1) 13 L st h = exI E d lm RT F (run E g mi_X8_freeWalker d lm RT F pm_X8_freeWalker n) (49, 0, 0, 14, []) L st h := run_s rfl
theorem r_X8_freeWalker_14 : run E g mi_X8_freeWalker d lm RT F pm_X8_freeWalker (n + 1) 14 L st h = exI E d lm RT F (run E g mi_X8_freeWalker d lm RT F pm_X8_freeWalker n) (35, ((7 : Nat) : Int), ((3 : Nat) : Int), 17, []) L st h := run_s rfl
theorem r_X8_freeWalker_17 : run E g mi_X8_freeWalker d lm RT F pm_X8_freeWalker (n + 1) 17 L st h = exI E d lm RT F (run E g mi_X8_freeWalker d lm RT F pm_X8_freeWalker n) (31, 1, ((22 : Nat) : Int), 20, []) L st h := run_s rfl
theorem r_X8_freeWalker_20 : run E g mi_X8_freeWalker d lm RT F pm_X8_freeWalker (n + 1) 20 L st h = exI E d lm RT F (run E g mi_X8_freeWalker d lm RT F pm_X8_freeWalker n) (1, ((1 : Nat) : Int), 0, 21, []) L st h := run_s rfl
theorem r_X8_freeWalker_21 : run E g mi_X8_freeWalker d lm RT F pm_X8_freeWalker (n + 1) 21 L st h = exI E d lm RT F (run E g mi_X8_freeWalker d lm RT F pm_X8_freeWalker n) (48, 0, 0, 0, []) L st h := run_s rfl
theorem r_X8_freeWalker_22 : run E g mi_X8_freeWalker d lm RT F pm_X8_freeWalker (n + 1) 22 L st h = exI E d lm RT F (run E g mi_X8_freeWalker d lm RT F pm_X8_freeWalker n) (7, ((1 : Nat) : Int), 1, 25, []) L st h := run_s rfl
theorem r_X8_freeWalker_25 : run E g mi_X8_freeWalker d lm RT F pm_X8_freeWalker (n + 1) 25 L st h = exI E d lm RT F (run E g mi_X8_freeWalker d lm RT F pm_X8_freeWalker n) (33, ((2 : Nat) : Int), 0, 0, []) L st h := run_s rfl
theorem r_X8_freeWalker_28 : run E g mi_X8_freeWalker d lm RT F pm_X8_freeWalker (n + 1) 28 L st h = exI E d lm RT F (run E g mi_X8_freeWalker d lm RT F pm_X8_freeWalker n) (0, (-9), 0, 30, []) L st h := run_s rfl
theorem r_X8_freeWalker_30 : run E g mi_X8_freeWalker d lm RT F pm_X8_freeWalker (n + 1) 30 L st h = exI E d lm RT F (run E g mi_X8_freeWalker d lm RT F pm_X8_freeWalker n) (48, 0, 0, 0, []) L st h := run_s rfl
theorem e_X8_freeWalker (n : Nat) {pc : Nat} (hF : FOk E d F) (hx : run E g mi_X8_freeWalker d lm RT F pm_X8_freeWalker n pc L st h) : G E g mi_X8_freeWalker d lm RT pc L st h := run_sound hF pk_X8_freeWalker n pc L st h hx
end
def mi_X8_countWalkers : MI := (8, cX8_countWalkers, 4, 0, false)
theorem mo_X8_countWalkers : miOk mi_X8_countWalkers (mt 73) = true := by decide +kernel
def tl_X8_countWalkers : List (Nat × PT) := [(0, (0, 0, 0, 1, [])),
  (1, (4, ((2 : Nat) : Int), 0, 2, [])),
  (2, (0, 0, 0, 3, [])),
  (3, (4, ((3 : Nat) : Int), 0, 4, [])),
  (4, (1, ((3 : Nat) : Int), 0, 5, [])),
  (5, (0, 12, 0, 7, [])),
  (7, (32, 3, ((44 : Nat) : Int), 10, [])),
  (10, (2, ((0 : Nat) : Int), 0, 11, [])),
  (11, (35, ((8 : Nat) : Int), ((3 : Nat) : Int), 14, [])),
  (14, (1, ((3 : Nat) : Int), 0, 15, [])),
  (15, (49, 0, 0, 16, [])),
  (16, (35, ((7 : Nat) : Int), ((3 : Nat) : Int), 19, [])),
  (19, (31, 0, ((38 : Nat) : Int), 22, [])),
  (22, (2, ((0 : Nat) : Int), 0, 23, [])),
  (23, (35, ((8 : Nat) : Int), ((3 : Nat) : Int), 26, [])),
  (26, (1, ((3 : Nat) : Int), 0, 27, [])),
  (27, (49, 0, 0, 28, [])),
  (28, (35, ((7 : Nat) : Int), ((4 : Nat) : Int), 31, [])),
  (31, (1, ((1 : Nat) : Int), 0, 32, [])),
  (32, (32, 1, ((38 : Nat) : Int), 35, [])),
  (35, (7, ((2 : Nat) : Int), 1, 38, [])),
  (38, (7, ((3 : Nat) : Int), 1, 41, [])),
  (41, (33, ((4 : Nat) : Int), 0, 0, [])),
  (44, (1, ((2 : Nat) : Int), 0, 45, [])),
  (45, (48, 0, 0, 0, []))]
theorem tk_X8_countWalkers : tOk mi_X8_countWalkers tl_X8_countWalkers = true := by decide +kernel
def pm_X8_countWalkers (pc : Nat) : Option PT := if [4].contains pc then none else tl_X8_countWalkers.lookup pc
theorem pk_X8_countWalkers : ∀ pc pt, pm_X8_countWalkers pc = some pt → okPt mi_X8_countWalkers pc pt := fun pc pt h => tOk_pm tk_X8_countWalkers h
section
variable {E : ET} {g : GT} {d : Nat} {lm : Nat × Nat} {RT : RTy} {F : FT} {n : Nat} {L : LV} {st : List AV} {h : AH}
theorem r_X8_countWalkers_0 : run E g mi_X8_countWalkers d lm RT F pm_X8_countWalkers (n + 1) 0 L st h = exI E d lm RT F (run E g mi_X8_countWalkers d lm RT F pm_X8_countWalkers n) (0, 0, 0, 1, []) L st h := run_s rfl
theorem r_X8_countWalkers_1 : run E g mi_X8_countWalkers d lm RT F pm_X8_countWalkers (n + 1) 1 L st h = exI E d lm RT F (run E g mi_X8_countWalkers d lm RT F pm_X8_countWalkers n) (4, ((2 : Nat) : Int), 0, 2, []) L st h := run_s rfl
theorem r_X8_countWalkers_2 : run E g mi_X8_countWalkers d lm RT F pm_X8_countWalkers (n + 1) 2 L st h = exI E d lm RT F (run E g mi_X8_countWalkers d lm RT F pm_X8_countWalkers n) (0, 0, 0, 3, []) L st h := run_s rfl
theorem r_X8_countWalkers_3 : run E g mi_X8_countWalkers d lm RT F pm_X8_countWalkers (n + 1) 3 L st h = exI E d lm RT F (run E g mi_X8_countWalkers d lm RT F pm_X8_countWalkers n) (4, ((3 : Nat) : Int), 0, 4, []) L st h := run_s rfl
theorem r_X8_countWalkers_4 : run E g mi_X8_countWalkers d lm RT F pm_X8_countWalkers (n + 1) 4 L st h = G E g mi_X8_countWalkers d lm RT 4 L st h := run_c rfl
theorem q_X8_countWalkers_4 (n : Nat) (hF : FOk E d F) (hx : exI E d lm RT F (run E g mi_X8_countWalkers d lm RT F pm_X8_countWalkers n) (1, ((3 : Nat) : Int), 0, 5, []) L st h) : G E g mi_X8_countWalkers d lm RT 4 L st h := sstep hF (tOk_spec tk_X8_countWalkers (by decide +kernel)) (run_sound hF pk_X8_countWalkers n) hx
theorem r_X8_countWalkers_5 : run E g mi_X8_countWalkers d lm RT F pm_X8_countWalkers (n + 1) 5 L st h = exI E d lm RT F (run E g mi_X8_countWalkers d lm RT F pm_X8_countWalkers n) (0, 12, 0, 7, []) L st h := run_s rfl
theorem r_X8_countWalkers_7 : run E g mi_X8_countWalkers d lm RT F pm_X8_countWalkers (n + 1) 7 L st h = exI E d lm RT F (run E g mi_X8_countWalkers d lm RT F pm_X8_countWalkers n) (32, 3, ((44 : Nat) : Int), 10, []) L st h := run_s rfl
theorem r_X8_countWalkers_10 : run E g mi_X8_countWalkers d lm RT F pm_X8_countWalkers (n + 1) 10 L st h = exI E d lm RT F (run E g mi_X8_countWalkers d lm RT F pm_X8_countWalkers n) (2, ((0 : Nat) : Int), 0, 11, []) L st h := run_s rfl
theorem r_X8_countWalkers_11 : run E g mi_X8_countWalkers d lm RT F pm_X8_countWalkers (n + 1) 11 L st h = exI E d lm RT F (run E g mi_X8_countWalkers d lm RT F pm_X8_countWalkers n) (35, ((8 : Nat) : Int), ((3 : Nat) : Int), 14, []) L st h := run_s rfl
theorem r_X8_countWalkers_14 : run E g mi_X8_countWalkers d lm RT F pm_X8_countWalkers (n + 1) 14 L st h = exI E d lm RT F (run E g mi_X8_countWalkers d lm RT F pm_X8_countWalkers n) (1, ((3 : Nat) : Int), 0, 15, []) L st h := run_s rfl
theorem r_X8_countWalkers_15 : run E g mi_X8_countWalkers d lm RT F pm_X8_countWalkers (n + 1) 15 L st h = exI E d lm RT F (run E g mi_X8_countWalkers d lm RT F pm_X8_countWalkers n) (49, 0, 0, 16, []) L st h := run_s rfl
theorem r_X8_countWalkers_16 : run E g mi_X8_countWalkers d lm RT F pm_X8_countWalkers (n + 1) 16 L st h = exI E d lm RT F (run E g mi_X8_countWalkers d lm RT F pm_X8_countWalkers n) (35, ((7 : Nat) : Int), ((3 : Nat) : Int), 19, []) L st h := run_s rfl
theorem r_X8_countWalkers_19 : run E g mi_X8_countWalkers d lm RT F pm_X8_countWalkers (n + 1) 19 L st h = exI E d lm RT F (run E g mi_X8_countWalkers d lm RT F pm_X8_countWalkers n) (31, 0, ((38 : Nat) : Int), 22, []) L st h := run_s rfl
theorem r_X8_countWalkers_22 : run E g mi_X8_countWalkers d lm RT F pm_X8_countWalkers (n + 1) 22 L st h = exI E d lm RT F (run E g mi_X8_countWalkers d lm RT F pm_X8_countWalkers n) (2, ((0 : Nat) : Int), 0, 23, []) L st h := run_s rfl
theorem r_X8_countWalkers_23 : run E g mi_X8_countWalkers d lm RT F pm_X8_countWalkers (n + 1) 23 L st h = exI E d lm RT F (run E g mi_X8_countWalkers d lm RT F pm_X8_countWalkers n) (35, ((8 : Nat) : Int), ((3 : Nat) : Int), 26, []) L st h := run_s rfl
theorem r_X8_countWalkers_26 : run E g mi_X8_countWalkers d lm RT F pm_X8_countWalkers (n + 1) 26 L st h = exI E d lm RT F (run E g mi_X8_countWalkers d lm RT F pm_X8_countWalkers n) (1, ((3 : Nat) : Int), 0, 27, []) L st h := run_s rfl
theorem r_X8_countWalkers_27 : run E g mi_X8_countWalkers d lm RT F pm_X8_countWalkers (n + 1) 27 L st h = exI E d lm RT F (run E g mi_X8_countWalkers d lm RT F pm_X8_countWalkers n) (49, 0, 0, 28, []) L st h := run_s rfl
theorem r_X8_countWalkers_28 : run E g mi_X8_countWalkers d lm RT F pm_X8_countWalkers (n + 1) 28 L st h = exI E d lm RT F (run E g mi_X8_countWalkers d lm RT F pm_X8_countWalkers n) (35, ((7 : Nat) : Int), ((4 : Nat) : Int), 31, []) L st h := run_s rfl
theorem r_X8_countWalkers_31 : run E g mi_X8_countWalkers d lm RT F pm_X8_countWalkers (n + 1) 31 L st h = exI E d lm RT F (run E g mi_X8_countWalkers d lm RT F pm_X8_countWalkers n) (1, ((1 : Nat) : Int), 0, 32, []) L st h := run_s rfl
theorem r_X8_countWalkers_32 : run E g mi_X8_countWalkers d lm RT F pm_X8_countWalkers (n + 1) 32 L st h = exI E d lm RT F (run E g mi_X8_countWalkers d lm RT F pm_X8_countWalkers n) (32, 1, ((38 : Nat) : Int), 35, []) L st h := run_s rfl
theorem r_X8_countWalkers_35 : run E g mi_X8_countWalkers d lm RT F pm_X8_countWalkers (n + 1) 35 L st h = exI E d lm RT F (run E g mi_X8_countWalkers d lm RT F pm_X8_countWalkers n) (7, ((2 : Nat) : Int), 1, 38, []) L st h := run_s rfl
theorem r_X8_countWalkers_38 : run E g mi_X8_countWalkers d lm RT F pm_X8_countWalkers (n + 1) 38 L st h = exI E d lm RT F (run E g mi_X8_countWalkers d lm RT F pm_X8_countWalkers n) (7, ((3 : Nat) : Int), 1, 41, []) L st h := run_s rfl
theorem r_X8_countWalkers_41 : run E g mi_X8_countWalkers d lm RT F pm_X8_countWalkers (n + 1) 41 L st h = exI E d lm RT F (run E g mi_X8_countWalkers d lm RT F pm_X8_countWalkers n) (33, ((4 : Nat) : Int), 0, 0, []) L st h := run_s rfl
theorem r_X8_countWalkers_44 : run E g mi_X8_countWalkers d lm RT F pm_X8_countWalkers (n + 1) 44 L st h = exI E d lm RT F (run E g mi_X8_countWalkers d lm RT F pm_X8_countWalkers n) (1, ((2 : Nat) : Int), 0, 45, []) L st h := run_s rfl
theorem r_X8_countWalkers_45 : run E g mi_X8_countWalkers d lm RT F pm_X8_countWalkers (n + 1) 45 L st h = exI E d lm RT F (run E g mi_X8_countWalkers d lm RT F pm_X8_countWalkers n) (48, 0, 0, 0, []) L st h := run_s rfl
theorem e_X8_countWalkers (n : Nat) {pc : Nat} (hF : FOk E d F) (hx : run E g mi_X8_countWalkers d lm RT F pm_X8_countWalkers n pc L st h) : G E g mi_X8_countWalkers d lm RT pc L st h := run_sound hF pk_X8_countWalkers n pc L st h hx
end
def mi_X8_countOn : MI := (8, cX8_countOn, 5, 0, false)
theorem mo_X8_countOn : miOk mi_X8_countOn (mt 74) = true := by decide +kernel
def tl_X8_countOn : List (Nat × PT) := [(0, (0, 0, 0, 1, [])),
  (1, (4, ((3 : Nat) : Int), 0, 2, [])),
  (2, (0, 0, 0, 3, [])),
  (3, (4, ((4 : Nat) : Int), 0, 5, [])),
  (5, (1, ((4 : Nat) : Int), 0, 7, [])),
  (7, (0, 12, 0, 9, [])),
  (9, (32, 3, ((49 : Nat) : Int), 12, [])),
  (12, (2, ((0 : Nat) : Int), 0, 13, [])),
  (13, (35, ((8 : Nat) : Int), ((3 : Nat) : Int), 16, [])),
  (16, (1, ((4 : Nat) : Int), 0, 18, [])),
  (18, (49, 0, 0, 19, [])),
  (19, (35, ((7 : Nat) : Int), ((8 : Nat) : Int), 22, [])),
  (22, (1, ((1 : Nat) : Int), 0, 23, [])),
  (23, (32, 1, ((43 : Nat) : Int), 26, [])),
  (26, (2, ((0 : Nat) : Int), 0, 27, [])),
  (27, (35, ((8 : Nat) : Int), ((3 : Nat) : Int), 30, [])),
  (30, (1, ((4 : Nat) : Int), 0, 32, [])),
  (32, (49, 0, 0, 33, [])),
  (33, (35, ((7 : Nat) : Int), ((4 : Nat) : Int), 36, [])),
  (36, (1, ((2 : Nat) : Int), 0, 37, [])),
  (37, (32, 1, ((43 : Nat) : Int), 40, [])),
  (40, (7, ((3 : Nat) : Int), 1, 43, [])),
  (43, (7, ((4 : Nat) : Int), 1, 46, [])),
  (46, (33, ((5 : Nat) : Int), 0, 0, [])),
  (49, (1, ((3 : Nat) : Int), 0, 50, [])),
  (50, (48, 0, 0, 0, []))]
theorem tk_X8_countOn : tOk mi_X8_countOn tl_X8_countOn = true := by decide +kernel
def pm_X8_countOn (pc : Nat) : Option PT := if [5].contains pc then none else tl_X8_countOn.lookup pc
theorem pk_X8_countOn : ∀ pc pt, pm_X8_countOn pc = some pt → okPt mi_X8_countOn pc pt := fun pc pt h => tOk_pm tk_X8_countOn h
section
variable {E : ET} {g : GT} {d : Nat} {lm : Nat × Nat} {RT : RTy} {F : FT} {n : Nat} {L : LV} {st : List AV} {h : AH}
theorem r_X8_countOn_0 : run E g mi_X8_countOn d lm RT F pm_X8_countOn (n + 1) 0 L st h = exI E d lm RT F (run E g mi_X8_countOn d lm RT F pm_X8_countOn n) (0, 0, 0, 1, []) L st h := run_s rfl
theorem r_X8_countOn_1 : run E g mi_X8_countOn d lm RT F pm_X8_countOn (n + 1) 1 L st h = exI E d lm RT F (run E g mi_X8_countOn d lm RT F pm_X8_countOn n) (4, ((3 : Nat) : Int), 0, 2, []) L st h := run_s rfl
theorem r_X8_countOn_2 : run E g mi_X8_countOn d lm RT F pm_X8_countOn (n + 1) 2 L st h = exI E d lm RT F (run E g mi_X8_countOn d lm RT F pm_X8_countOn n) (0, 0, 0, 3, []) L st h := run_s rfl
theorem r_X8_countOn_3 : run E g mi_X8_countOn d lm RT F pm_X8_countOn (n + 1) 3 L st h = exI E d lm RT F (run E g mi_X8_countOn d lm RT F pm_X8_countOn n) (4, ((4 : Nat) : Int), 0, 5, []) L st h := run_s rfl
theorem r_X8_countOn_5 : run E g mi_X8_countOn d lm RT F pm_X8_countOn (n + 1) 5 L st h = G E g mi_X8_countOn d lm RT 5 L st h := run_c rfl
theorem q_X8_countOn_5 (n : Nat) (hF : FOk E d F) (hx : exI E d lm RT F (run E g mi_X8_countOn d lm RT F pm_X8_countOn n) (1, ((4 : Nat) : Int), 0, 7, []) L st h) : G E g mi_X8_countOn d lm RT 5 L st h := sstep hF (tOk_spec tk_X8_countOn (by decide +kernel)) (run_sound hF pk_X8_countOn n) hx
theorem r_X8_countOn_7 : run E g mi_X8_countOn d lm RT F pm_X8_countOn (n + 1) 7 L st h = exI E d lm RT F (run E g mi_X8_countOn d lm RT F pm_X8_countOn n) (0, 12, 0, 9, []) L st h := run_s rfl
theorem r_X8_countOn_9 : run E g mi_X8_countOn d lm RT F pm_X8_countOn (n + 1) 9 L st h = exI E d lm RT F (run E g mi_X8_countOn d lm RT F pm_X8_countOn n) (32, 3, ((49 : Nat) : Int), 12, []) L st h := run_s rfl
theorem r_X8_countOn_12 : run E g mi_X8_countOn d lm RT F pm_X8_countOn (n + 1) 12 L st h = exI E d lm RT F (run E g mi_X8_countOn d lm RT F pm_X8_countOn n) (2, ((0 : Nat) : Int), 0, 13, []) L st h := run_s rfl
theorem r_X8_countOn_13 : run E g mi_X8_countOn d lm RT F pm_X8_countOn (n + 1) 13 L st h = exI E d lm RT F (run E g mi_X8_countOn d lm RT F pm_X8_countOn n) (35, ((8 : Nat) : Int), ((3 : Nat) : Int), 16, []) L st h := run_s rfl
theorem r_X8_countOn_16 : run E g mi_X8_countOn d lm RT F pm_X8_countOn (n + 1) 16 L st h = exI E d lm RT F (run E g mi_X8_countOn d lm RT F pm_X8_countOn n) (1, ((4 : Nat) : Int), 0, 18, []) L st h := run_s rfl
theorem r_X8_countOn_18 : run E g mi_X8_countOn d lm RT F pm_X8_countOn (n + 1) 18 L st h = exI E d lm RT F (run E g mi_X8_countOn d lm RT F pm_X8_countOn n) (49, 0, 0, 19, []) L st h := run_s rfl
theorem r_X8_countOn_19 : run E g mi_X8_countOn d lm RT F pm_X8_countOn (n + 1) 19 L st h = exI E d lm RT F (run E g mi_X8_countOn d lm RT F pm_X8_countOn n) (35, ((7 : Nat) : Int), ((8 : Nat) : Int), 22, []) L st h := run_s rfl
theorem r_X8_countOn_22 : run E g mi_X8_countOn d lm RT F pm_X8_countOn (n + 1) 22 L st h = exI E d lm RT F (run E g mi_X8_countOn d lm RT F pm_X8_countOn n) (1, ((1 : Nat) : Int), 0, 23, []) L st h := run_s rfl
theorem r_X8_countOn_23 : run E g mi_X8_countOn d lm RT F pm_X8_countOn (n + 1) 23 L st h = exI E d lm RT F (run E g mi_X8_countOn d lm RT F pm_X8_countOn n) (32, 1, ((43 : Nat) : Int), 26, []) L st h := run_s rfl
theorem r_X8_countOn_26 : run E g mi_X8_countOn d lm RT F pm_X8_countOn (n + 1) 26 L st h = exI E d lm RT F (run E g mi_X8_countOn d lm RT F pm_X8_countOn n) (2, ((0 : Nat) : Int), 0, 27, []) L st h := run_s rfl
theorem r_X8_countOn_27 : run E g mi_X8_countOn d lm RT F pm_X8_countOn (n + 1) 27 L st h = exI E d lm RT F (run E g mi_X8_countOn d lm RT F pm_X8_countOn n) (35, ((8 : Nat) : Int), ((3 : Nat) : Int), 30, []) L st h := run_s rfl
theorem r_X8_countOn_30 : run E g mi_X8_countOn d lm RT F pm_X8_countOn (n + 1) 30 L st h = exI E d lm RT F (run E g mi_X8_countOn d lm RT F pm_X8_countOn n) (1, ((4 : Nat) : Int), 0, 32, []) L st h := run_s rfl
theorem r_X8_countOn_32 : run E g mi_X8_countOn d lm RT F pm_X8_countOn (n + 1) 32 L st h = exI E d lm RT F (run E g mi_X8_countOn d lm RT F pm_X8_countOn n) (49, 0, 0, 33, []) L st h := run_s rfl
theorem r_X8_countOn_33 : run E g mi_X8_countOn d lm RT F pm_X8_countOn (n + 1) 33 L st h = exI E d lm RT F (run E g mi_X8_countOn d lm RT F pm_X8_countOn n) (35, ((7 : Nat) : Int), ((4 : Nat) : Int), 36, []) L st h := run_s rfl
theorem r_X8_countOn_36 : run E g mi_X8_countOn d lm RT F pm_X8_countOn (n + 1) 36 L st h = exI E d lm RT F (run E g mi_X8_countOn d lm RT F pm_X8_countOn n) (1, ((2 : Nat) : Int), 0, 37, []) L st h := run_s rfl
theorem r_X8_countOn_37 : run E g mi_X8_countOn d lm RT F pm_X8_countOn (n + 1) 37 L st h = exI E d lm RT F (run E g mi_X8_countOn d lm RT F pm_X8_countOn n) (32, 1, ((43 : Nat) : Int), 40, []) L st h := run_s rfl
theorem r_X8_countOn_40 : run E g mi_X8_countOn d lm RT F pm_X8_countOn (n + 1) 40 L st h = exI E d lm RT F (run E g mi_X8_countOn d lm RT F pm_X8_countOn n) (7, ((3 : Nat) : Int), 1, 43, []) L st h := run_s rfl
theorem r_X8_countOn_43 : run E g mi_X8_countOn d lm RT F pm_X8_countOn (n + 1) 43 L st h = exI E d lm RT F (run E g mi_X8_countOn d lm RT F pm_X8_countOn n) (7, ((4 : Nat) : Int), 1, 46, []) L st h := run_s rfl
theorem r_X8_countOn_46 : run E g mi_X8_countOn d lm RT F pm_X8_countOn (n + 1) 46 L st h = exI E d lm RT F (run E g mi_X8_countOn d lm RT F pm_X8_countOn n) (33, ((5 : Nat) : Int), 0, 0, []) L st h := run_s rfl
theorem r_X8_countOn_49 : run E g mi_X8_countOn d lm RT F pm_X8_countOn (n + 1) 49 L st h = exI E d lm RT F (run E g mi_X8_countOn d lm RT F pm_X8_countOn n) (1, ((3 : Nat) : Int), 0, 50, []) L st h := run_s rfl
theorem r_X8_countOn_50 : run E g mi_X8_countOn d lm RT F pm_X8_countOn (n + 1) 50 L st h = exI E d lm RT F (run E g mi_X8_countOn d lm RT F pm_X8_countOn n) (48, 0, 0, 0, []) L st h := run_s rfl
theorem e_X8_countOn (n : Nat) {pc : Nat} (hF : FOk E d F) (hx : run E g mi_X8_countOn d lm RT F pm_X8_countOn n pc L st h) : G E g mi_X8_countOn d lm RT pc L st h := run_sound hF pk_X8_countOn n pc L st h hx
end
def mi_X8_loseAllOn : MI := (8, cX8_loseAllOn, 4, 0, false)
theorem mo_X8_loseAllOn : miOk mi_X8_loseAllOn (mt 75) = true := by decide +kernel
def tl_X8_loseAllOn : List (Nat × PT) := [(0, (0, 0, 0, 1, [])),
  (1, (4, ((2 : Nat) : Int), 0, 2, [])),
  (2, (0, 0, 0, 3, [])),
  (3, (4, ((3 : Nat) : Int), 0, 4, [])),
  (4, (1, ((3 : Nat) : Int), 0, 5, [])),
  (5, (0, 12, 0, 7, [])),
  (7, (32, 3, ((42 : Nat) : Int), 10, [])),
  (10, (2, ((0 : Nat) : Int), 0, 11, [])),
  (11, (35, ((8 : Nat) : Int), ((3 : Nat) : Int), 14, [])),
  (14, (1, ((3 : Nat) : Int), 0, 15, [])),
  (15, (49, 0, 0, 16, [])),
  (16, (35, ((7 : Nat) : Int), ((8 : Nat) : Int), 19, [])),
  (19, (1, ((1 : Nat) : Int), 0, 20, [])),
  (20, (32, 1, ((36 : Nat) : Int), 23, [])),
  (23, (2, ((0 : Nat) : Int), 0, 24, [])),
  (24, (2, ((0 : Nat) : Int), 0, 25, [])),
  (25, (35, ((8 : Nat) : Int), ((3 : Nat) : Int), 28, [])),
  (28, (1, ((3 : Nat) : Int), 0, 29, [])),
  (29, (49, 0, 0, 30, [])),
  (30, (51, ((76 : Nat) : Int), ((2 : Nat) : Int), 33, [8])),
  (33, (7, ((2 : Nat) : Int), 1, 36, [])),
  (36, (7, ((3 : Nat) : Int), 1, 39, [])),
  (39, (33, ((4 : Nat) : Int), 0, 0, [])),
  (42, (1, ((2 : Nat) : Int), 0, 43, [])),
  (43, (48, 0, 0, 0, []))]
theorem tk_X8_loseAllOn : tOk mi_X8_loseAllOn tl_X8_loseAllOn = true := by decide +kernel
def pm_X8_loseAllOn (pc : Nat) : Option PT := if [4].contains pc then none else tl_X8_loseAllOn.lookup pc
theorem pk_X8_loseAllOn : ∀ pc pt, pm_X8_loseAllOn pc = some pt → okPt mi_X8_loseAllOn pc pt := fun pc pt h => tOk_pm tk_X8_loseAllOn h
section
variable {E : ET} {g : GT} {d : Nat} {lm : Nat × Nat} {RT : RTy} {F : FT} {n : Nat} {L : LV} {st : List AV} {h : AH}
theorem r_X8_loseAllOn_0 : run E g mi_X8_loseAllOn d lm RT F pm_X8_loseAllOn (n + 1) 0 L st h = exI E d lm RT F (run E g mi_X8_loseAllOn d lm RT F pm_X8_loseAllOn n) (0, 0, 0, 1, []) L st h := run_s rfl
theorem r_X8_loseAllOn_1 : run E g mi_X8_loseAllOn d lm RT F pm_X8_loseAllOn (n + 1) 1 L st h = exI E d lm RT F (run E g mi_X8_loseAllOn d lm RT F pm_X8_loseAllOn n) (4, ((2 : Nat) : Int), 0, 2, []) L st h := run_s rfl
theorem r_X8_loseAllOn_2 : run E g mi_X8_loseAllOn d lm RT F pm_X8_loseAllOn (n + 1) 2 L st h = exI E d lm RT F (run E g mi_X8_loseAllOn d lm RT F pm_X8_loseAllOn n) (0, 0, 0, 3, []) L st h := run_s rfl
theorem r_X8_loseAllOn_3 : run E g mi_X8_loseAllOn d lm RT F pm_X8_loseAllOn (n + 1) 3 L st h = exI E d lm RT F (run E g mi_X8_loseAllOn d lm RT F pm_X8_loseAllOn n) (4, ((3 : Nat) : Int), 0, 4, []) L st h := run_s rfl
theorem r_X8_loseAllOn_4 : run E g mi_X8_loseAllOn d lm RT F pm_X8_loseAllOn (n + 1) 4 L st h = G E g mi_X8_loseAllOn d lm RT 4 L st h := run_c rfl
theorem q_X8_loseAllOn_4 (n : Nat) (hF : FOk E d F) (hx : exI E d lm RT F (run E g mi_X8_loseAllOn d lm RT F pm_X8_loseAllOn n) (1, ((3 : Nat) : Int), 0, 5, []) L st h) : G E g mi_X8_loseAllOn d lm RT 4 L st h := sstep hF (tOk_spec tk_X8_loseAllOn (by decide +kernel)) (run_sound hF pk_X8_loseAllOn n) hx
theorem r_X8_loseAllOn_5 : run E g mi_X8_loseAllOn d lm RT F pm_X8_loseAllOn (n + 1) 5 L st h = exI E d lm RT F (run E g mi_X8_loseAllOn d lm RT F pm_X8_loseAllOn n) (0, 12, 0, 7, []) L st h := run_s rfl
theorem r_X8_loseAllOn_7 : run E g mi_X8_loseAllOn d lm RT F pm_X8_loseAllOn (n + 1) 7 L st h = exI E d lm RT F (run E g mi_X8_loseAllOn d lm RT F pm_X8_loseAllOn n) (32, 3, ((42 : Nat) : Int), 10, []) L st h := run_s rfl
theorem r_X8_loseAllOn_10 : run E g mi_X8_loseAllOn d lm RT F pm_X8_loseAllOn (n + 1) 10 L st h = exI E d lm RT F (run E g mi_X8_loseAllOn d lm RT F pm_X8_loseAllOn n) (2, ((0 : Nat) : Int), 0, 11, []) L st h := run_s rfl
theorem r_X8_loseAllOn_11 : run E g mi_X8_loseAllOn d lm RT F pm_X8_loseAllOn (n + 1) 11 L st h = exI E d lm RT F (run E g mi_X8_loseAllOn d lm RT F pm_X8_loseAllOn n) (35, ((8 : Nat) : Int), ((3 : Nat) : Int), 14, []) L st h := run_s rfl
theorem r_X8_loseAllOn_14 : run E g mi_X8_loseAllOn d lm RT F pm_X8_loseAllOn (n + 1) 14 L st h = exI E d lm RT F (run E g mi_X8_loseAllOn d lm RT F pm_X8_loseAllOn n) (1, ((3 : Nat) : Int), 0, 15, []) L st h := run_s rfl
theorem r_X8_loseAllOn_15 : run E g mi_X8_loseAllOn d lm RT F pm_X8_loseAllOn (n + 1) 15 L st h = exI E d lm RT F (run E g mi_X8_loseAllOn d lm RT F pm_X8_loseAllOn n) (49, 0, 0, 16, []) L st h := run_s rfl
theorem r_X8_loseAllOn_16 : run E g mi_X8_loseAllOn d lm RT F pm_X8_loseAllOn (n + 1) 16 L st h = exI E d lm RT F (run E g mi_X8_loseAllOn d lm RT F pm_X8_loseAllOn n) (35, ((7 : Nat) : Int), ((8 : Nat) : Int), 19, []) L st h := run_s rfl
theorem r_X8_loseAllOn_19 : run E g mi_X8_loseAllOn d lm RT F pm_X8_loseAllOn (n + 1) 19 L st h = exI E d lm RT F (run E g mi_X8_loseAllOn d lm RT F pm_X8_loseAllOn n) (1, ((1 : Nat) : Int), 0, 20, []) L st h := run_s rfl
theorem r_X8_loseAllOn_20 : run E g mi_X8_loseAllOn d lm RT F pm_X8_loseAllOn (n + 1) 20 L st h = exI E d lm RT F (run E g mi_X8_loseAllOn d lm RT F pm_X8_loseAllOn n) (32, 1, ((36 : Nat) : Int), 23, []) L st h := run_s rfl
theorem r_X8_loseAllOn_23 : run E g mi_X8_loseAllOn d lm RT F pm_X8_loseAllOn (n + 1) 23 L st h = exI E d lm RT F (run E g mi_X8_loseAllOn d lm RT F pm_X8_loseAllOn n) (2, ((0 : Nat) : Int), 0, 24, []) L st h := run_s rfl
theorem r_X8_loseAllOn_24 : run E g mi_X8_loseAllOn d lm RT F pm_X8_loseAllOn (n + 1) 24 L st h = exI E d lm RT F (run E g mi_X8_loseAllOn d lm RT F pm_X8_loseAllOn n) (2, ((0 : Nat) : Int), 0, 25, []) L st h := run_s rfl
theorem r_X8_loseAllOn_25 : run E g mi_X8_loseAllOn d lm RT F pm_X8_loseAllOn (n + 1) 25 L st h = exI E d lm RT F (run E g mi_X8_loseAllOn d lm RT F pm_X8_loseAllOn n) (35, ((8 : Nat) : Int), ((3 : Nat) : Int), 28, []) L st h := run_s rfl
theorem r_X8_loseAllOn_28 : run E g mi_X8_loseAllOn d lm RT F pm_X8_loseAllOn (n + 1) 28 L st h = exI E d lm RT F (run E g mi_X8_loseAllOn d lm RT F pm_X8_loseAllOn n) (1, ((3 : Nat) : Int), 0, 29, []) L st h := run_s rfl
theorem r_X8_loseAllOn_29 : run E g mi_X8_loseAllOn d lm RT F pm_X8_loseAllOn (n + 1) 29 L st h = exI E d lm RT F (run E g mi_X8_loseAllOn d lm RT F pm_X8_loseAllOn n) (49, 0, 0, 30, []) L st h := run_s rfl
theorem r_X8_loseAllOn_30 : run E g mi_X8_loseAllOn d lm RT F pm_X8_loseAllOn (n + 1) 30 L st h = exI E d lm RT F (run E g mi_X8_loseAllOn d lm RT F pm_X8_loseAllOn n) (51, ((76 : Nat) : Int), ((2 : Nat) : Int), 33, [8]) L st h := run_s rfl
theorem r_X8_loseAllOn_33 : run E g mi_X8_loseAllOn d lm RT F pm_X8_loseAllOn (n + 1) 33 L st h = exI E d lm RT F (run E g mi_X8_loseAllOn d lm RT F pm_X8_loseAllOn n) (7, ((2 : Nat) : Int), 1, 36, []) L st h := run_s rfl
theorem r_X8_loseAllOn_36 : run E g mi_X8_loseAllOn d lm RT F pm_X8_loseAllOn (n + 1) 36 L st h = exI E d lm RT F (run E g mi_X8_loseAllOn d lm RT F pm_X8_loseAllOn n) (7, ((3 : Nat) : Int), 1, 39, []) L st h := run_s rfl
theorem r_X8_loseAllOn_39 : run E g mi_X8_loseAllOn d lm RT F pm_X8_loseAllOn (n + 1) 39 L st h = exI E d lm RT F (run E g mi_X8_loseAllOn d lm RT F pm_X8_loseAllOn n) (33, ((4 : Nat) : Int), 0, 0, []) L st h := run_s rfl
theorem r_X8_loseAllOn_42 : run E g mi_X8_loseAllOn d lm RT F pm_X8_loseAllOn (n + 1) 42 L st h = exI E d lm RT F (run E g mi_X8_loseAllOn d lm RT F pm_X8_loseAllOn n) (1, ((2 : Nat) : Int), 0, 43, []) L st h := run_s rfl
theorem r_X8_loseAllOn_43 : run E g mi_X8_loseAllOn d lm RT F pm_X8_loseAllOn (n + 1) 43 L st h = exI E d lm RT F (run E g mi_X8_loseAllOn d lm RT F pm_X8_loseAllOn n) (48, 0, 0, 0, []) L st h := run_s rfl
theorem e_X8_loseAllOn (n : Nat) {pc : Nat} (hF : FOk E d F) (hx : run E g mi_X8_loseAllOn d lm RT F pm_X8_loseAllOn n pc L st h) : G E g mi_X8_loseAllOn d lm RT pc L st h := run_sound hF pk_X8_loseAllOn n pc L st h hx
end
def mi_X8_lose : MI := (8, cX8_lose, 2, 4, false)
theorem mo_X8_lose : miOk mi_X8_lose (mt 76) = true := by decide +kernel
def tl_X8_lose : List (Nat × PT) := [(0, (2, ((1 : Nat) : Int), 0, 1, [])),
  (1, (51, ((40 : Nat) : Int), ((1 : Nat) : Int), 4, [7])),
  (4, (2, ((0 : Nat) : Int), 0, 5, [])),
  (5, (28, 0, 0, 6, [])),
  (6, (35, ((8 : Nat) : Int), ((12 : Nat) : Int), 9, [])),
  (9, (0, 1, 0, 10, [])),
  (10, (8, 0, 0, 11, [])),
  (11, (36, ((8 : Nat) : Int), ((12 : Nat) : Int), 14, [0])),
  (14, (48, 4, 0, 0, []))]
theorem tk_X8_lose : tOk mi_X8_lose tl_X8_lose = true := by decide +kernel
def pm_X8_lose (pc : Nat) : Option PT := if [].contains pc then none else tl_X8_lose.lookup pc
theorem pk_X8_lose : ∀ pc pt, pm_X8_lose pc = some pt → okPt mi_X8_lose pc pt := fun pc pt h => tOk_pm tk_X8_lose h
section
variable {E : ET} {g : GT} {d : Nat} {lm : Nat × Nat} {RT : RTy} {F : FT} {n : Nat} {L : LV} {st : List AV} {h : AH}
theorem r_X8_lose_0 : run E g mi_X8_lose d lm RT F pm_X8_lose (n + 1) 0 L st h = exI E d lm RT F (run E g mi_X8_lose d lm RT F pm_X8_lose n) (2, ((1 : Nat) : Int), 0, 1, []) L st h := run_s rfl
theorem r_X8_lose_1 : run E g mi_X8_lose d lm RT F pm_X8_lose (n + 1) 1 L st h = exI E d lm RT F (run E g mi_X8_lose d lm RT F pm_X8_lose n) (51, ((40 : Nat) : Int), ((1 : Nat) : Int), 4, [7]) L st h := run_s rfl
theorem r_X8_lose_4 : run E g mi_X8_lose d lm RT F pm_X8_lose (n + 1) 4 L st h = exI E d lm RT F (run E g mi_X8_lose d lm RT F pm_X8_lose n) (2, ((0 : Nat) : Int), 0, 5, []) L st h := run_s rfl
theorem r_X8_lose_5 : run E g mi_X8_lose d lm RT F pm_X8_lose (n + 1) 5 L st h = exI E d lm RT F (run E g mi_X8_lose d lm RT F pm_X8_lose n) (28, 0, 0, 6, []) L st h := run_s rfl
theorem r_X8_lose_6 : run E g mi_X8_lose d lm RT F pm_X8_lose (n + 1) 6 L st h = exI E d lm RT F (run E g mi_X8_lose d lm RT F pm_X8_lose n) (35, ((8 : Nat) : Int), ((12 : Nat) : Int), 9, []) L st h := run_s rfl
theorem r_X8_lose_9 : run E g mi_X8_lose d lm RT F pm_X8_lose (n + 1) 9 L st h = exI E d lm RT F (run E g mi_X8_lose d lm RT F pm_X8_lose n) (0, 1, 0, 10, []) L st h := run_s rfl
theorem r_X8_lose_10 : run E g mi_X8_lose d lm RT F pm_X8_lose (n + 1) 10 L st h = exI E d lm RT F (run E g mi_X8_lose d lm RT F pm_X8_lose n) (8, 0, 0, 11, []) L st h := run_s rfl
theorem r_X8_lose_11 : run E g mi_X8_lose d lm RT F pm_X8_lose (n + 1) 11 L st h = exI E d lm RT F (run E g mi_X8_lose d lm RT F pm_X8_lose n) (36, ((8 : Nat) : Int), ((12 : Nat) : Int), 14, [0]) L st h := run_s rfl
theorem r_X8_lose_14 : run E g mi_X8_lose d lm RT F pm_X8_lose (n + 1) 14 L st h = exI E d lm RT F (run E g mi_X8_lose d lm RT F pm_X8_lose n) (48, 4, 0, 0, []) L st h := run_s rfl
theorem e_X8_lose (n : Nat) {pc : Nat} (hF : FOk E d F) (hx : run E g mi_X8_lose d lm RT F pm_X8_lose n pc L st h) : G E g mi_X8_lose d lm RT pc L st h := run_sound hF pk_X8_lose n pc L st h hx
end
def mi_X8_finish : MI := (8, cX8_finish, 3, 4, false)
theorem mo_X8_finish : miOk mi_X8_finish (mt 77) = true := by decide +kernel
def tl_X8_finish : List (Nat × PT) := [(0, (2, ((1 : Nat) : Int), 0, 1, [])),
  (1, (51, ((40 : Nat) : Int), ((1 : Nat) : Int), 4, [7])),
  (4, (2, ((0 : Nat) : Int), 0, 5, [])),
  (5, (28, 0, 0, 6, [])),
  (6, (35, ((8 : Nat) : Int), ((11 : Nat) : Int), 9, [])),
  (9, (0, 1, 0, 10, [])),
  (10, (8, 0, 0, 11, [])),
  (11, (36, ((8 : Nat) : Int), ((11 : Nat) : Int), 14, [0])),
  (14, (2, ((0 : Nat) : Int), 0, 15, [])),
  (15, (28, 0, 0, 16, [])),
  (16, (35, ((8 : Nat) : Int), ((13 : Nat) : Int), 19, [])),
  (19, (1, ((2 : Nat) : Int), 0, 20, [])),
  (20, (8, 0, 0, 21, [])),
  (21, (36, ((8 : Nat) : Int), ((13 : Nat) : Int), 24, [0])),
  (24, (48, 4, 0, 0, []))]
theorem tk_X8_finish : tOk mi_X8_finish tl_X8_finish = true := by decide +kernel
def pm_X8_finish (pc : Nat) : Option PT := if [].contains pc then none else tl_X8_finish.lookup pc
theorem pk_X8_finish : ∀ pc pt, pm_X8_finish pc = some pt → okPt mi_X8_finish pc pt := fun pc pt h => tOk_pm tk_X8_finish h
section
variable {E : ET} {g : GT} {d : Nat} {lm : Nat × Nat} {RT : RTy} {F : FT} {n : Nat} {L : LV} {st : List AV} {h : AH}
theorem r_X8_finish_0 : run E g mi_X8_finish d lm RT F pm_X8_finish (n + 1) 0 L st h = exI E d lm RT F (run E g mi_X8_finish d lm RT F pm_X8_finish n) (2, ((1 : Nat) : Int), 0, 1, []) L st h := run_s rfl
theorem r_X8_finish_1 : run E g mi_X8_finish d lm RT F pm_X8_finish (n + 1) 1 L st h = exI E d lm RT F (run E g mi_X8_finish d lm RT F pm_X8_finish n) (51, ((40 : Nat) : Int), ((1 : Nat) : Int), 4, [7]) L st h := run_s rfl
theorem r_X8_finish_4 : run E g mi_X8_finish d lm RT F pm_X8_finish (n + 1) 4 L st h = exI E d lm RT F (run E g mi_X8_finish d lm RT F pm_X8_finish n) (2, ((0 : Nat) : Int), 0, 5, []) L st h := run_s rfl
theorem r_X8_finish_5 : run E g mi_X8_finish d lm RT F pm_X8_finish (n + 1) 5 L st h = exI E d lm RT F (run E g mi_X8_finish d lm RT F pm_X8_finish n) (28, 0, 0, 6, []) L st h := run_s rfl
theorem r_X8_finish_6 : run E g mi_X8_finish d lm RT F pm_X8_finish (n + 1) 6 L st h = exI E d lm RT F (run E g mi_X8_finish d lm RT F pm_X8_finish n) (35, ((8 : Nat) : Int), ((11 : Nat) : Int), 9, []) L st h := run_s rfl
theorem r_X8_finish_9 : run E g mi_X8_finish d lm RT F pm_X8_finish (n + 1) 9 L st h = exI E d lm RT F (run E g mi_X8_finish d lm RT F pm_X8_finish n) (0, 1, 0, 10, []) L st h := run_s rfl
theorem r_X8_finish_10 : run E g mi_X8_finish d lm RT F pm_X8_finish (n + 1) 10 L st h = exI E d lm RT F (run E g mi_X8_finish d lm RT F pm_X8_finish n) (8, 0, 0, 11, []) L st h := run_s rfl
theorem r_X8_finish_11 : run E g mi_X8_finish d lm RT F pm_X8_finish (n + 1) 11 L st h = exI E d lm RT F (run E g mi_X8_finish d lm RT F pm_X8_finish n) (36, ((8 : Nat) : Int), ((11 : Nat) : Int), 14, [0]) L st h := run_s rfl
theorem r_X8_finish_14 : run E g mi_X8_finish d lm RT F pm_X8_finish (n + 1) 14 L st h = exI E d lm RT F (run E g mi_X8_finish d lm RT F pm_X8_finish n) (2, ((0 : Nat) : Int), 0, 15, []) L st h := run_s rfl
theorem r_X8_finish_15 : run E g mi_X8_finish d lm RT F pm_X8_finish (n + 1) 15 L st h = exI E d lm RT F (run E g mi_X8_finish d lm RT F pm_X8_finish n) (28, 0, 0, 16, []) L st h := run_s rfl
theorem r_X8_finish_16 : run E g mi_X8_finish d lm RT F pm_X8_finish (n + 1) 16 L st h = exI E d lm RT F (run E g mi_X8_finish d lm RT F pm_X8_finish n) (35, ((8 : Nat) : Int), ((13 : Nat) : Int), 19, []) L st h := run_s rfl
theorem r_X8_finish_19 : run E g mi_X8_finish d lm RT F pm_X8_finish (n + 1) 19 L st h = exI E d lm RT F (run E g mi_X8_finish d lm RT F pm_X8_finish n) (1, ((2 : Nat) : Int), 0, 20, []) L st h := run_s rfl
theorem r_X8_finish_20 : run E g mi_X8_finish d lm RT F pm_X8_finish (n + 1) 20 L st h = exI E d lm RT F (run E g mi_X8_finish d lm RT F pm_X8_finish n) (8, 0, 0, 21, []) L st h := run_s rfl
theorem r_X8_finish_21 : run E g mi_X8_finish d lm RT F pm_X8_finish (n + 1) 21 L st h = exI E d lm RT F (run E g mi_X8_finish d lm RT F pm_X8_finish n) (36, ((8 : Nat) : Int), ((13 : Nat) : Int), 24, [0]) L st h := run_s rfl
theorem r_X8_finish_24 : run E g mi_X8_finish d lm RT F pm_X8_finish (n + 1) 24 L st h = exI E d lm RT F (run E g mi_X8_finish d lm RT F pm_X8_finish n) (48, 4, 0, 0, []) L st h := run_s rfl
theorem e_X8_finish (n : Nat) {pc : Nat} (hF : FOk E d F) (hx : run E g mi_X8_finish d lm RT F pm_X8_finish n pc L st h) : G E g mi_X8_finish d lm RT pc L st h := run_sound hF pk_X8_finish n pc L st h hx
end
