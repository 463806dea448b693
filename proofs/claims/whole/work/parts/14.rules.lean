/-! ===== the steps as rules ===== -/
def b2 (p : Prop) [Decidable p] : Int := if p then 1 else 0
theorem b2_01 (p : Prop) [Decidable p] : b2 p = 0 ∨ b2 p = 1 := by unfold b2; split <;> simp
theorem b2_eq0 {p : Prop} [Decidable p] : (b2 p = 0) = ¬ p := by unfold b2; split <;> simp_all
theorem b2_rng (p : Prop) [Decidable p] : 0 ≤ b2 p ∧ b2 p ≤ 1 := by unfold b2; split <;> omega
section RU
variable {E : ET} {g : GT} {mi : MI} {d : Nat} {lm : Nat × Nat} {RT : RTy} {F : FT} {K : KT} {P : Nat → Option PT} {n pc nx : Nat} {a b : Int} {tb : List Nat} {L : LV} {st : List AV} {h : AH}
theorem run_s {pt : PT} (hp : P pc = some pt) : run E g mi d lm RT F P (n + 1) pc L st h = exI E d lm RT F (run E g mi d lm RT F P n) pt L st h := by
  unfold run
  rw [hp]
theorem run_c (hp : P pc = none) : run E g mi d lm RT F P (n + 1) pc L st h = G E g mi d lm RT pc L st h := by
  unfold run
  rw [hp]
theorem x0 : exI E d lm RT F K (0, a, b, nx, tb) L st h = K nx L (vi a :: st) h := propext Iff.rfl
theorem x1_0 {z : Int} : exI E d lm RT F K (1, ((0 : Nat) : Int), b, nx, tb) (some (vi z) :: L) st h = K nx (some (vi z) :: L) (vi z :: st) h := propext Iff.rfl
theorem x1_1 {v0 : Option AV} {z : Int} : exI E d lm RT F K (1, ((1 : Nat) : Int), b, nx, tb) (v0 :: some (vi z) :: L) st h = K nx (v0 :: some (vi z) :: L) (vi z :: st) h := propext Iff.rfl
theorem x1_2 {v0 v1 : Option AV} {z : Int} : exI E d lm RT F K (1, ((2 : Nat) : Int), b, nx, tb) (v0 :: v1 :: some (vi z) :: L) st h = K nx (v0 :: v1 :: some (vi z) :: L) (vi z :: st) h := propext Iff.rfl
theorem x1_3 {v0 v1 v2 : Option AV} {z : Int} : exI E d lm RT F K (1, ((3 : Nat) : Int), b, nx, tb) (v0 :: v1 :: v2 :: some (vi z) :: L) st h = K nx (v0 :: v1 :: v2 :: some (vi z) :: L) (vi z :: st) h := propext Iff.rfl
theorem x1_4 {v0 v1 v2 v3 : Option AV} {z : Int} : exI E d lm RT F K (1, ((4 : Nat) : Int), b, nx, tb) (v0 :: v1 :: v2 :: v3 :: some (vi z) :: L) st h = K nx (v0 :: v1 :: v2 :: v3 :: some (vi z) :: L) (vi z :: st) h := propext Iff.rfl
theorem x1_5 {v0 v1 v2 v3 v4 : Option AV} {z : Int} : exI E d lm RT F K (1, ((5 : Nat) : Int), b, nx, tb) (v0 :: v1 :: v2 :: v3 :: v4 :: some (vi z) :: L) st h = K nx (v0 :: v1 :: v2 :: v3 :: v4 :: some (vi z) :: L) (vi z :: st) h := propext Iff.rfl
theorem x1_6 {v0 v1 v2 v3 v4 v5 : Option AV} {z : Int} : exI E d lm RT F K (1, ((6 : Nat) : Int), b, nx, tb) (v0 :: v1 :: v2 :: v3 :: v4 :: v5 :: some (vi z) :: L) st h = K nx (v0 :: v1 :: v2 :: v3 :: v4 :: v5 :: some (vi z) :: L) (vi z :: st) h := propext Iff.rfl
theorem x1_7 {v0 v1 v2 v3 v4 v5 v6 : Option AV} {z : Int} : exI E d lm RT F K (1, ((7 : Nat) : Int), b, nx, tb) (v0 :: v1 :: v2 :: v3 :: v4 :: v5 :: v6 :: some (vi z) :: L) st h = K nx (v0 :: v1 :: v2 :: v3 :: v4 :: v5 :: v6 :: some (vi z) :: L) (vi z :: st) h := propext Iff.rfl
theorem x1_8 {v0 v1 v2 v3 v4 v5 v6 v7 : Option AV} {z : Int} : exI E d lm RT F K (1, ((8 : Nat) : Int), b, nx, tb) (v0 :: v1 :: v2 :: v3 :: v4 :: v5 :: v6 :: v7 :: some (vi z) :: L) st h = K nx (v0 :: v1 :: v2 :: v3 :: v4 :: v5 :: v6 :: v7 :: some (vi z) :: L) (vi z :: st) h := propext Iff.rfl
theorem x1_9 {v0 v1 v2 v3 v4 v5 v6 v7 v8 : Option AV} {z : Int} : exI E d lm RT F K (1, ((9 : Nat) : Int), b, nx, tb) (v0 :: v1 :: v2 :: v3 :: v4 :: v5 :: v6 :: v7 :: v8 :: some (vi z) :: L) st h = K nx (v0 :: v1 :: v2 :: v3 :: v4 :: v5 :: v6 :: v7 :: v8 :: some (vi z) :: L) (vi z :: st) h := propext Iff.rfl
theorem x1_10 {v0 v1 v2 v3 v4 v5 v6 v7 v8 v9 : Option AV} {z : Int} : exI E d lm RT F K (1, ((10 : Nat) : Int), b, nx, tb) (v0 :: v1 :: v2 :: v3 :: v4 :: v5 :: v6 :: v7 :: v8 :: v9 :: some (vi z) :: L) st h = K nx (v0 :: v1 :: v2 :: v3 :: v4 :: v5 :: v6 :: v7 :: v8 :: v9 :: some (vi z) :: L) (vi z :: st) h := propext Iff.rfl
theorem x1_11 {v0 v1 v2 v3 v4 v5 v6 v7 v8 v9 v10 : Option AV} {z : Int} : exI E d lm RT F K (1, ((11 : Nat) : Int), b, nx, tb) (v0 :: v1 :: v2 :: v3 :: v4 :: v5 :: v6 :: v7 :: v8 :: v9 :: v10 :: some (vi z) :: L) st h = K nx (v0 :: v1 :: v2 :: v3 :: v4 :: v5 :: v6 :: v7 :: v8 :: v9 :: v10 :: some (vi z) :: L) (vi z :: st) h := propext Iff.rfl
theorem x2_0 {z : Int} : exI E d lm RT F K (2, ((0 : Nat) : Int), b, nx, tb) (some (vr z) :: L) st h = K nx (some (vr z) :: L) (vr z :: st) h := propext Iff.rfl
theorem x2_1 {v0 : Option AV} {z : Int} : exI E d lm RT F K (2, ((1 : Nat) : Int), b, nx, tb) (v0 :: some (vr z) :: L) st h = K nx (v0 :: some (vr z) :: L) (vr z :: st) h := propext Iff.rfl
theorem x2_2 {v0 v1 : Option AV} {z : Int} : exI E d lm RT F K (2, ((2 : Nat) : Int), b, nx, tb) (v0 :: v1 :: some (vr z) :: L) st h = K nx (v0 :: v1 :: some (vr z) :: L) (vr z :: st) h := propext Iff.rfl
theorem x2_3 {v0 v1 v2 : Option AV} {z : Int} : exI E d lm RT F K (2, ((3 : Nat) : Int), b, nx, tb) (v0 :: v1 :: v2 :: some (vr z) :: L) st h = K nx (v0 :: v1 :: v2 :: some (vr z) :: L) (vr z :: st) h := propext Iff.rfl
theorem x2_4 {v0 v1 v2 v3 : Option AV} {z : Int} : exI E d lm RT F K (2, ((4 : Nat) : Int), b, nx, tb) (v0 :: v1 :: v2 :: v3 :: some (vr z) :: L) st h = K nx (v0 :: v1 :: v2 :: v3 :: some (vr z) :: L) (vr z :: st) h := propext Iff.rfl
theorem x2_5 {v0 v1 v2 v3 v4 : Option AV} {z : Int} : exI E d lm RT F K (2, ((5 : Nat) : Int), b, nx, tb) (v0 :: v1 :: v2 :: v3 :: v4 :: some (vr z) :: L) st h = K nx (v0 :: v1 :: v2 :: v3 :: v4 :: some (vr z) :: L) (vr z :: st) h := propext Iff.rfl
theorem x2_6 {v0 v1 v2 v3 v4 v5 : Option AV} {z : Int} : exI E d lm RT F K (2, ((6 : Nat) : Int), b, nx, tb) (v0 :: v1 :: v2 :: v3 :: v4 :: v5 :: some (vr z) :: L) st h = K nx (v0 :: v1 :: v2 :: v3 :: v4 :: v5 :: some (vr z) :: L) (vr z :: st) h := propext Iff.rfl
theorem x2_7 {v0 v1 v2 v3 v4 v5 v6 : Option AV} {z : Int} : exI E d lm RT F K (2, ((7 : Nat) : Int), b, nx, tb) (v0 :: v1 :: v2 :: v3 :: v4 :: v5 :: v6 :: some (vr z) :: L) st h = K nx (v0 :: v1 :: v2 :: v3 :: v4 :: v5 :: v6 :: some (vr z) :: L) (vr z :: st) h := propext Iff.rfl
theorem x2_8 {v0 v1 v2 v3 v4 v5 v6 v7 : Option AV} {z : Int} : exI E d lm RT F K (2, ((8 : Nat) : Int), b, nx, tb) (v0 :: v1 :: v2 :: v3 :: v4 :: v5 :: v6 :: v7 :: some (vr z) :: L) st h = K nx (v0 :: v1 :: v2 :: v3 :: v4 :: v5 :: v6 :: v7 :: some (vr z) :: L) (vr z :: st) h := propext Iff.rfl
theorem x2_9 {v0 v1 v2 v3 v4 v5 v6 v7 v8 : Option AV} {z : Int} : exI E d lm RT F K (2, ((9 : Nat) : Int), b, nx, tb) (v0 :: v1 :: v2 :: v3 :: v4 :: v5 :: v6 :: v7 :: v8 :: some (vr z) :: L) st h = K nx (v0 :: v1 :: v2 :: v3 :: v4 :: v5 :: v6 :: v7 :: v8 :: some (vr z) :: L) (vr z :: st) h := propext Iff.rfl
theorem x2_10 {v0 v1 v2 v3 v4 v5 v6 v7 v8 v9 : Option AV} {z : Int} : exI E d lm RT F K (2, ((10 : Nat) : Int), b, nx, tb) (v0 :: v1 :: v2 :: v3 :: v4 :: v5 :: v6 :: v7 :: v8 :: v9 :: some (vr z) :: L) st h = K nx (v0 :: v1 :: v2 :: v3 :: v4 :: v5 :: v6 :: v7 :: v8 :: v9 :: some (vr z) :: L) (vr z :: st) h := propext Iff.rfl
theorem x2_11 {v0 v1 v2 v3 v4 v5 v6 v7 v8 v9 v10 : Option AV} {z : Int} : exI E d lm RT F K (2, ((11 : Nat) : Int), b, nx, tb) (v0 :: v1 :: v2 :: v3 :: v4 :: v5 :: v6 :: v7 :: v8 :: v9 :: v10 :: some (vr z) :: L) st h = K nx (v0 :: v1 :: v2 :: v3 :: v4 :: v5 :: v6 :: v7 :: v8 :: v9 :: v10 :: some (vr z) :: L) (vr z :: st) h := propext Iff.rfl
theorem x3_0 {z : Int} : exI E d lm RT F K (3, ((0 : Nat) : Int), b, nx, tb) (some (vl z) :: L) st h = K nx (some (vl z) :: L) (vl z :: st) h := propext Iff.rfl
theorem x3_1 {v0 : Option AV} {z : Int} : exI E d lm RT F K (3, ((1 : Nat) : Int), b, nx, tb) (v0 :: some (vl z) :: L) st h = K nx (v0 :: some (vl z) :: L) (vl z :: st) h := propext Iff.rfl
theorem x3_2 {v0 v1 : Option AV} {z : Int} : exI E d lm RT F K (3, ((2 : Nat) : Int), b, nx, tb) (v0 :: v1 :: some (vl z) :: L) st h = K nx (v0 :: v1 :: some (vl z) :: L) (vl z :: st) h := propext Iff.rfl
theorem x3_3 {v0 v1 v2 : Option AV} {z : Int} : exI E d lm RT F K (3, ((3 : Nat) : Int), b, nx, tb) (v0 :: v1 :: v2 :: some (vl z) :: L) st h = K nx (v0 :: v1 :: v2 :: some (vl z) :: L) (vl z :: st) h := propext Iff.rfl
theorem x3_4 {v0 v1 v2 v3 : Option AV} {z : Int} : exI E d lm RT F K (3, ((4 : Nat) : Int), b, nx, tb) (v0 :: v1 :: v2 :: v3 :: some (vl z) :: L) st h = K nx (v0 :: v1 :: v2 :: v3 :: some (vl z) :: L) (vl z :: st) h := propext Iff.rfl
theorem x3_5 {v0 v1 v2 v3 v4 : Option AV} {z : Int} : exI E d lm RT F K (3, ((5 : Nat) : Int), b, nx, tb) (v0 :: v1 :: v2 :: v3 :: v4 :: some (vl z) :: L) st h = K nx (v0 :: v1 :: v2 :: v3 :: v4 :: some (vl z) :: L) (vl z :: st) h := propext Iff.rfl
theorem x3_6 {v0 v1 v2 v3 v4 v5 : Option AV} {z : Int} : exI E d lm RT F K (3, ((6 : Nat) : Int), b, nx, tb) (v0 :: v1 :: v2 :: v3 :: v4 :: v5 :: some (vl z) :: L) st h = K nx (v0 :: v1 :: v2 :: v3 :: v4 :: v5 :: some (vl z) :: L) (vl z :: st) h := propext Iff.rfl
theorem x3_7 {v0 v1 v2 v3 v4 v5 v6 : Option AV} {z : Int} : exI E d lm RT F K (3, ((7 : Nat) : Int), b, nx, tb) (v0 :: v1 :: v2 :: v3 :: v4 :: v5 :: v6 :: some (vl z) :: L) st h = K nx (v0 :: v1 :: v2 :: v3 :: v4 :: v5 :: v6 :: some (vl z) :: L) (vl z :: st) h := propext Iff.rfl
theorem x3_8 {v0 v1 v2 v3 v4 v5 v6 v7 : Option AV} {z : Int} : exI E d lm RT F K (3, ((8 : Nat) : Int), b, nx, tb) (v0 :: v1 :: v2 :: v3 :: v4 :: v5 :: v6 :: v7 :: some (vl z) :: L) st h = K nx (v0 :: v1 :: v2 :: v3 :: v4 :: v5 :: v6 :: v7 :: some (vl z) :: L) (vl z :: st) h := propext Iff.rfl
theorem x3_9 {v0 v1 v2 v3 v4 v5 v6 v7 v8 : Option AV} {z : Int} : exI E d lm RT F K (3, ((9 : Nat) : Int), b, nx, tb) (v0 :: v1 :: v2 :: v3 :: v4 :: v5 :: v6 :: v7 :: v8 :: some (vl z) :: L) st h = K nx (v0 :: v1 :: v2 :: v3 :: v4 :: v5 :: v6 :: v7 :: v8 :: some (vl z) :: L) (vl z :: st) h := propext Iff.rfl
theorem x3_10 {v0 v1 v2 v3 v4 v5 v6 v7 v8 v9 : Option AV} {z : Int} : exI E d lm RT F K (3, ((10 : Nat) : Int), b, nx, tb) (v0 :: v1 :: v2 :: v3 :: v4 :: v5 :: v6 :: v7 :: v8 :: v9 :: some (vl z) :: L) st h = K nx (v0 :: v1 :: v2 :: v3 :: v4 :: v5 :: v6 :: v7 :: v8 :: v9 :: some (vl z) :: L) (vl z :: st) h := propext Iff.rfl
theorem x3_11 {v0 v1 v2 v3 v4 v5 v6 v7 v8 v9 v10 : Option AV} {z : Int} : exI E d lm RT F K (3, ((11 : Nat) : Int), b, nx, tb) (v0 :: v1 :: v2 :: v3 :: v4 :: v5 :: v6 :: v7 :: v8 :: v9 :: v10 :: some (vl z) :: L) st h = K nx (v0 :: v1 :: v2 :: v3 :: v4 :: v5 :: v6 :: v7 :: v8 :: v9 :: v10 :: some (vl z) :: L) (vl z :: st) h := propext Iff.rfl
theorem x4_0 {v0 : Option AV} {z : Int} : exI E d lm RT F K (4, ((0 : Nat) : Int), b, nx, tb) (v0 :: L) (vi z :: st) h = K nx (some (vi z) :: L) st h := propext ⟨fun q => q.2, fun q => ⟨⟨by show 0 < _; simp, rfl⟩, q⟩⟩
theorem x4_1n {w : Option AV} {z : Int} : exI E d lm RT F K (4, ((1 : Nat) : Int), b, nx, tb) (none :: w :: L) (vi z :: st) h = K nx (none :: some (vi z) :: L) st h := propext ⟨fun q => q.2, fun q => ⟨⟨by show 1 < _; simp, rfl⟩, q⟩⟩
theorem x4_1i {u : Int} {w : Option AV} {z : Int} : exI E d lm RT F K (4, ((1 : Nat) : Int), b, nx, tb) (some (vi u) :: w :: L) (vi z :: st) h = K nx (some (vi u) :: some (vi z) :: L) st h := propext ⟨fun q => q.2, fun q => ⟨⟨by show 1 < _; simp, rfl⟩, q⟩⟩
theorem x4_1r {u : Int} {w : Option AV} {z : Int} : exI E d lm RT F K (4, ((1 : Nat) : Int), b, nx, tb) (some (vr u) :: w :: L) (vi z :: st) h = K nx (some (vr u) :: some (vi z) :: L) st h := propext ⟨fun q => q.2, fun q => ⟨⟨by show 1 < _; simp, rfl⟩, q⟩⟩
theorem x4_2n {v0 : Option AV} {w : Option AV} {z : Int} : exI E d lm RT F K (4, ((2 : Nat) : Int), b, nx, tb) (v0 :: none :: w :: L) (vi z :: st) h = K nx (v0 :: none :: some (vi z) :: L) st h := propext ⟨fun q => q.2, fun q => ⟨⟨by show 2 < _; simp, rfl⟩, q⟩⟩
theorem x4_2i {v0 : Option AV} {u : Int} {w : Option AV} {z : Int} : exI E d lm RT F K (4, ((2 : Nat) : Int), b, nx, tb) (v0 :: some (vi u) :: w :: L) (vi z :: st) h = K nx (v0 :: some (vi u) :: some (vi z) :: L) st h := propext ⟨fun q => q.2, fun q => ⟨⟨by show 2 < _; simp, rfl⟩, q⟩⟩
theorem x4_2r {v0 : Option AV} {u : Int} {w : Option AV} {z : Int} : exI E d lm RT F K (4, ((2 : Nat) : Int), b, nx, tb) (v0 :: some (vr u) :: w :: L) (vi z :: st) h = K nx (v0 :: some (vr u) :: some (vi z) :: L) st h := propext ⟨fun q => q.2, fun q => ⟨⟨by show 2 < _; simp, rfl⟩, q⟩⟩
theorem x4_3n {v0 v1 : Option AV} {w : Option AV} {z : Int} : exI E d lm RT F K (4, ((3 : Nat) : Int), b, nx, tb) (v0 :: v1 :: none :: w :: L) (vi z :: st) h = K nx (v0 :: v1 :: none :: some (vi z) :: L) st h := propext ⟨fun q => q.2, fun q => ⟨⟨by show 3 < _; simp, rfl⟩, q⟩⟩
theorem x4_3i {v0 v1 : Option AV} {u : Int} {w : Option AV} {z : Int} : exI E d lm RT F K (4, ((3 : Nat) : Int), b, nx, tb) (v0 :: v1 :: some (vi u) :: w :: L) (vi z :: st) h = K nx (v0 :: v1 :: some (vi u) :: some (vi z) :: L) st h := propext ⟨fun q => q.2, fun q => ⟨⟨by show 3 < _; simp, rfl⟩, q⟩⟩
theorem x4_3r {v0 v1 : Option AV} {u : Int} {w : Option AV} {z : Int} : exI E d lm RT F K (4, ((3 : Nat) : Int), b, nx, tb) (v0 :: v1 :: some (vr u) :: w :: L) (vi z :: st) h = K nx (v0 :: v1 :: some (vr u) :: some (vi z) :: L) st h := propext ⟨fun q => q.2, fun q => ⟨⟨by show 3 < _; simp, rfl⟩, q⟩⟩
theorem x4_4n {v0 v1 v2 : Option AV} {w : Option AV} {z : Int} : exI E d lm RT F K (4, ((4 : Nat) : Int), b, nx, tb) (v0 :: v1 :: v2 :: none :: w :: L) (vi z :: st) h = K nx (v0 :: v1 :: v2 :: none :: some (vi z) :: L) st h := propext ⟨fun q => q.2, fun q => ⟨⟨by show 4 < _; simp, rfl⟩, q⟩⟩
theorem x4_4i {v0 v1 v2 : Option AV} {u : Int} {w : Option AV} {z : Int} : exI E d lm RT F K (4, ((4 : Nat) : Int), b, nx, tb) (v0 :: v1 :: v2 :: some (vi u) :: w :: L) (vi z :: st) h = K nx (v0 :: v1 :: v2 :: some (vi u) :: some (vi z) :: L) st h := propext ⟨fun q => q.2, fun q => ⟨⟨by show 4 < _; simp, rfl⟩, q⟩⟩
theorem x4_4r {v0 v1 v2 : Option AV} {u : Int} {w : Option AV} {z : Int} : exI E d lm RT F K (4, ((4 : Nat) : Int), b, nx, tb) (v0 :: v1 :: v2 :: some (vr u) :: w :: L) (vi z :: st) h = K nx (v0 :: v1 :: v2 :: some (vr u) :: some (vi z) :: L) st h := propext ⟨fun q => q.2, fun q => ⟨⟨by show 4 < _; simp, rfl⟩, q⟩⟩
theorem x4_5n {v0 v1 v2 v3 : Option AV} {w : Option AV} {z : Int} : exI E d lm RT F K (4, ((5 : Nat) : Int), b, nx, tb) (v0 :: v1 :: v2 :: v3 :: none :: w :: L) (vi z :: st) h = K nx (v0 :: v1 :: v2 :: v3 :: none :: some (vi z) :: L) st h := propext ⟨fun q => q.2, fun q => ⟨⟨by show 5 < _; simp, rfl⟩, q⟩⟩
theorem x4_5i {v0 v1 v2 v3 : Option AV} {u : Int} {w : Option AV} {z : Int} : exI E d lm RT F K (4, ((5 : Nat) : Int), b, nx, tb) (v0 :: v1 :: v2 :: v3 :: some (vi u) :: w :: L) (vi z :: st) h = K nx (v0 :: v1 :: v2 :: v3 :: some (vi u) :: some (vi z) :: L) st h := propext ⟨fun q => q.2, fun q => ⟨⟨by show 5 < _; simp, rfl⟩, q⟩⟩
theorem x4_5r {v0 v1 v2 v3 : Option AV} {u : Int} {w : Option AV} {z : Int} : exI E d lm RT F K (4, ((5 : Nat) : Int), b, nx, tb) (v0 :: v1 :: v2 :: v3 :: some (vr u) :: w :: L) (vi z :: st) h = K nx (v0 :: v1 :: v2 :: v3 :: some (vr u) :: some (vi z) :: L) st h := propext ⟨fun q => q.2, fun q => ⟨⟨by show 5 < _; simp, rfl⟩, q⟩⟩
theorem x4_6n {v0 v1 v2 v3 v4 : Option AV} {w : Option AV} {z : Int} : exI E d lm RT F K (4, ((6 : Nat) : Int), b, nx, tb) (v0 :: v1 :: v2 :: v3 :: v4 :: none :: w :: L) (vi z :: st) h = K nx (v0 :: v1 :: v2 :: v3 :: v4 :: none :: some (vi z) :: L) st h := propext ⟨fun q => q.2, fun q => ⟨⟨by show 6 < _; simp, rfl⟩, q⟩⟩
theorem x4_6i {v0 v1 v2 v3 v4 : Option AV} {u : Int} {w : Option AV} {z : Int} : exI E d lm RT F K (4, ((6 : Nat) : Int), b, nx, tb) (v0 :: v1 :: v2 :: v3 :: v4 :: some (vi u) :: w :: L) (vi z :: st) h = K nx (v0 :: v1 :: v2 :: v3 :: v4 :: some (vi u) :: some (vi z) :: L) st h := propext ⟨fun q => q.2, fun q => ⟨⟨by show 6 < _; simp, rfl⟩, q⟩⟩
theorem x4_6r {v0 v1 v2 v3 v4 : Option AV} {u : Int} {w : Option AV} {z : Int} : exI E d lm RT F K (4, ((6 : Nat) : Int), b, nx, tb) (v0 :: v1 :: v2 :: v3 :: v4 :: some (vr u) :: w :: L) (vi z :: st) h = K nx (v0 :: v1 :: v2 :: v3 :: v4 :: some (vr u) :: some (vi z) :: L) st h := propext ⟨fun q => q.2, fun q => ⟨⟨by show 6 < _; simp, rfl⟩, q⟩⟩
theorem x4_7n {v0 v1 v2 v3 v4 v5 : Option AV} {w : Option AV} {z : Int} : exI E d lm RT F K (4, ((7 : Nat) : Int), b, nx, tb) (v0 :: v1 :: v2 :: v3 :: v4 :: v5 :: none :: w :: L) (vi z :: st) h = K nx (v0 :: v1 :: v2 :: v3 :: v4 :: v5 :: none :: some (vi z) :: L) st h := propext ⟨fun q => q.2, fun q => ⟨⟨by show 7 < _; simp, rfl⟩, q⟩⟩
theorem x4_7i {v0 v1 v2 v3 v4 v5 : Option AV} {u : Int} {w : Option AV} {z : Int} : exI E d lm RT F K (4, ((7 : Nat) : Int), b, nx, tb) (v0 :: v1 :: v2 :: v3 :: v4 :: v5 :: some (vi u) :: w :: L) (vi z :: st) h = K nx (v0 :: v1 :: v2 :: v3 :: v4 :: v5 :: some (vi u) :: some (vi z) :: L) st h := propext ⟨fun q => q.2, fun q => ⟨⟨by show 7 < _; simp, rfl⟩, q⟩⟩
theorem x4_7r {v0 v1 v2 v3 v4 v5 : Option AV} {u : Int} {w : Option AV} {z : Int} : exI E d lm RT F K (4, ((7 : Nat) : Int), b, nx, tb) (v0 :: v1 :: v2 :: v3 :: v4 :: v5 :: some (vr u) :: w :: L) (vi z :: st) h = K nx (v0 :: v1 :: v2 :: v3 :: v4 :: v5 :: some (vr u) :: some (vi z) :: L) st h := propext ⟨fun q => q.2, fun q => ⟨⟨by show 7 < _; simp, rfl⟩, q⟩⟩
theorem x4_8n {v0 v1 v2 v3 v4 v5 v6 : Option AV} {w : Option AV} {z : Int} : exI E d lm RT F K (4, ((8 : Nat) : Int), b, nx, tb) (v0 :: v1 :: v2 :: v3 :: v4 :: v5 :: v6 :: none :: w :: L) (vi z :: st) h = K nx (v0 :: v1 :: v2 :: v3 :: v4 :: v5 :: v6 :: none :: some (vi z) :: L) st h := propext ⟨fun q => q.2, fun q => ⟨⟨by show 8 < _; simp, rfl⟩, q⟩⟩
theorem x4_8i {v0 v1 v2 v3 v4 v5 v6 : Option AV} {u : Int} {w : Option AV} {z : Int} : exI E d lm RT F K (4, ((8 : Nat) : Int), b, nx, tb) (v0 :: v1 :: v2 :: v3 :: v4 :: v5 :: v6 :: some (vi u) :: w :: L) (vi z :: st) h = K nx (v0 :: v1 :: v2 :: v3 :: v4 :: v5 :: v6 :: some (vi u) :: some (vi z) :: L) st h := propext ⟨fun q => q.2, fun q => ⟨⟨by show 8 < _; simp, rfl⟩, q⟩⟩
theorem x4_8r {v0 v1 v2 v3 v4 v5 v6 : Option AV} {u : Int} {w : Option AV} {z : Int} : exI E d lm RT F K (4, ((8 : Nat) : Int), b, nx, tb) (v0 :: v1 :: v2 :: v3 :: v4 :: v5 :: v6 :: some (vr u) :: w :: L) (vi z :: st) h = K nx (v0 :: v1 :: v2 :: v3 :: v4 :: v5 :: v6 :: some (vr u) :: some (vi z) :: L) st h := propext ⟨fun q => q.2, fun q => ⟨⟨by show 8 < _; simp, rfl⟩, q⟩⟩
theorem x4_9n {v0 v1 v2 v3 v4 v5 v6 v7 : Option AV} {w : Option AV} {z : Int} : exI E d lm RT F K (4, ((9 : Nat) : Int), b, nx, tb) (v0 :: v1 :: v2 :: v3 :: v4 :: v5 :: v6 :: v7 :: none :: w :: L) (vi z :: st) h = K nx (v0 :: v1 :: v2 :: v3 :: v4 :: v5 :: v6 :: v7 :: none :: some (vi z) :: L) st h := propext ⟨fun q => q.2, fun q => ⟨⟨by show 9 < _; simp, rfl⟩, q⟩⟩
theorem x4_9i {v0 v1 v2 v3 v4 v5 v6 v7 : Option AV} {u : Int} {w : Option AV} {z : Int} : exI E d lm RT F K (4, ((9 : Nat) : Int), b, nx, tb) (v0 :: v1 :: v2 :: v3 :: v4 :: v5 :: v6 :: v7 :: some (vi u) :: w :: L) (vi z :: st) h = K nx (v0 :: v1 :: v2 :: v3 :: v4 :: v5 :: v6 :: v7 :: some (vi u) :: some (vi z) :: L) st h := propext ⟨fun q => q.2, fun q => ⟨⟨by show 9 < _; simp, rfl⟩, q⟩⟩
theorem x4_9r {v0 v1 v2 v3 v4 v5 v6 v7 : Option AV} {u : Int} {w : Option AV} {z : Int} : exI E d lm RT F K (4, ((9 : Nat) : Int), b, nx, tb) (v0 :: v1 :: v2 :: v3 :: v4 :: v5 :: v6 :: v7 :: some (vr u) :: w :: L) (vi z :: st) h = K nx (v0 :: v1 :: v2 :: v3 :: v4 :: v5 :: v6 :: v7 :: some (vr u) :: some (vi z) :: L) st h := propext ⟨fun q => q.2, fun q => ⟨⟨by show 9 < _; simp, rfl⟩, q⟩⟩
theorem x4_10n {v0 v1 v2 v3 v4 v5 v6 v7 v8 : Option AV} {w : Option AV} {z : Int} : exI E d lm RT F K (4, ((10 : Nat) : Int), b, nx, tb) (v0 :: v1 :: v2 :: v3 :: v4 :: v5 :: v6 :: v7 :: v8 :: none :: w :: L) (vi z :: st) h = K nx (v0 :: v1 :: v2 :: v3 :: v4 :: v5 :: v6 :: v7 :: v8 :: none :: some (vi z) :: L) st h := propext ⟨fun q => q.2, fun q => ⟨⟨by show 10 < _; simp, rfl⟩, q⟩⟩
theorem x4_10i {v0 v1 v2 v3 v4 v5 v6 v7 v8 : Option AV} {u : Int} {w : Option AV} {z : Int} : exI E d lm RT F K (4, ((10 : Nat) : Int), b, nx, tb) (v0 :: v1 :: v2 :: v3 :: v4 :: v5 :: v6 :: v7 :: v8 :: some (vi u) :: w :: L) (vi z :: st) h = K nx (v0 :: v1 :: v2 :: v3 :: v4 :: v5 :: v6 :: v7 :: v8 :: some (vi u) :: some (vi z) :: L) st h := propext ⟨fun q => q.2, fun q => ⟨⟨by show 10 < _; simp, rfl⟩, q⟩⟩
theorem x4_10r {v0 v1 v2 v3 v4 v5 v6 v7 v8 : Option AV} {u : Int} {w : Option AV} {z : Int} : exI E d lm RT F K (4, ((10 : Nat) : Int), b, nx, tb) (v0 :: v1 :: v2 :: v3 :: v4 :: v5 :: v6 :: v7 :: v8 :: some (vr u) :: w :: L) (vi z :: st) h = K nx (v0 :: v1 :: v2 :: v3 :: v4 :: v5 :: v6 :: v7 :: v8 :: some (vr u) :: some (vi z) :: L) st h := propext ⟨fun q => q.2, fun q => ⟨⟨by show 10 < _; simp, rfl⟩, q⟩⟩
theorem x4_11n {v0 v1 v2 v3 v4 v5 v6 v7 v8 v9 : Option AV} {w : Option AV} {z : Int} : exI E d lm RT F K (4, ((11 : Nat) : Int), b, nx, tb) (v0 :: v1 :: v2 :: v3 :: v4 :: v5 :: v6 :: v7 :: v8 :: v9 :: none :: w :: L) (vi z :: st) h = K nx (v0 :: v1 :: v2 :: v3 :: v4 :: v5 :: v6 :: v7 :: v8 :: v9 :: none :: some (vi z) :: L) st h := propext ⟨fun q => q.2, fun q => ⟨⟨by show 11 < _; simp, rfl⟩, q⟩⟩
theorem x4_11i {v0 v1 v2 v3 v4 v5 v6 v7 v8 v9 : Option AV} {u : Int} {w : Option AV} {z : Int} : exI E d lm RT F K (4, ((11 : Nat) : Int), b, nx, tb) (v0 :: v1 :: v2 :: v3 :: v4 :: v5 :: v6 :: v7 :: v8 :: v9 :: some (vi u) :: w :: L) (vi z :: st) h = K nx (v0 :: v1 :: v2 :: v3 :: v4 :: v5 :: v6 :: v7 :: v8 :: v9 :: some (vi u) :: some (vi z) :: L) st h := propext ⟨fun q => q.2, fun q => ⟨⟨by show 11 < _; simp, rfl⟩, q⟩⟩
theorem x4_11r {v0 v1 v2 v3 v4 v5 v6 v7 v8 v9 : Option AV} {u : Int} {w : Option AV} {z : Int} : exI E d lm RT F K (4, ((11 : Nat) : Int), b, nx, tb) (v0 :: v1 :: v2 :: v3 :: v4 :: v5 :: v6 :: v7 :: v8 :: v9 :: some (vr u) :: w :: L) (vi z :: st) h = K nx (v0 :: v1 :: v2 :: v3 :: v4 :: v5 :: v6 :: v7 :: v8 :: v9 :: some (vr u) :: some (vi z) :: L) st h := propext ⟨fun q => q.2, fun q => ⟨⟨by show 11 < _; simp, rfl⟩, q⟩⟩
theorem x5_0 {v0 : Option AV} {z : Int} : exI E d lm RT F K (5, ((0 : Nat) : Int), b, nx, tb) (v0 :: L) (vr z :: st) h = K nx (some (vr z) :: L) st h := propext ⟨fun q => q.2, fun q => ⟨⟨by show 0 < _; simp, rfl⟩, q⟩⟩
theorem x5_1n {w : Option AV} {z : Int} : exI E d lm RT F K (5, ((1 : Nat) : Int), b, nx, tb) (none :: w :: L) (vr z :: st) h = K nx (none :: some (vr z) :: L) st h := propext ⟨fun q => q.2, fun q => ⟨⟨by show 1 < _; simp, rfl⟩, q⟩⟩
theorem x5_1i {u : Int} {w : Option AV} {z : Int} : exI E d lm RT F K (5, ((1 : Nat) : Int), b, nx, tb) (some (vi u) :: w :: L) (vr z :: st) h = K nx (some (vi u) :: some (vr z) :: L) st h := propext ⟨fun q => q.2, fun q => ⟨⟨by show 1 < _; simp, rfl⟩, q⟩⟩
theorem x5_1r {u : Int} {w : Option AV} {z : Int} : exI E d lm RT F K (5, ((1 : Nat) : Int), b, nx, tb) (some (vr u) :: w :: L) (vr z :: st) h = K nx (some (vr u) :: some (vr z) :: L) st h := propext ⟨fun q => q.2, fun q => ⟨⟨by show 1 < _; simp, rfl⟩, q⟩⟩
theorem x5_2n {v0 : Option AV} {w : Option AV} {z : Int} : exI E d lm RT F K (5, ((2 : Nat) : Int), b, nx, tb) (v0 :: none :: w :: L) (vr z :: st) h = K nx (v0 :: none :: some (vr z) :: L) st h := propext ⟨fun q => q.2, fun q => ⟨⟨by show 2 < _; simp, rfl⟩, q⟩⟩
theorem x5_2i {v0 : Option AV} {u : Int} {w : Option AV} {z : Int} : exI E d lm RT F K (5, ((2 : Nat) : Int), b, nx, tb) (v0 :: some (vi u) :: w :: L) (vr z :: st) h = K nx (v0 :: some (vi u) :: some (vr z) :: L) st h := propext ⟨fun q => q.2, fun q => ⟨⟨by show 2 < _; simp, rfl⟩, q⟩⟩
theorem x5_2r {v0 : Option AV} {u : Int} {w : Option AV} {z : Int} : exI E d lm RT F K (5, ((2 : Nat) : Int), b, nx, tb) (v0 :: some (vr u) :: w :: L) (vr z :: st) h = K nx (v0 :: some (vr u) :: some (vr z) :: L) st h := propext ⟨fun q => q.2, fun q => ⟨⟨by show 2 < _; simp, rfl⟩, q⟩⟩
theorem x5_3n {v0 v1 : Option AV} {w : Option AV} {z : Int} : exI E d lm RT F K (5, ((3 : Nat) : Int), b, nx, tb) (v0 :: v1 :: none :: w :: L) (vr z :: st) h = K nx (v0 :: v1 :: none :: some (vr z) :: L) st h := propext ⟨fun q => q.2, fun q => ⟨⟨by show 3 < _; simp, rfl⟩, q⟩⟩
theorem x5_3i {v0 v1 : Option AV} {u : Int} {w : Option AV} {z : Int} : exI E d lm RT F K (5, ((3 : Nat) : Int), b, nx, tb) (v0 :: v1 :: some (vi u) :: w :: L) (vr z :: st) h = K nx (v0 :: v1 :: some (vi u) :: some (vr z) :: L) st h := propext ⟨fun q => q.2, fun q => ⟨⟨by show 3 < _; simp, rfl⟩, q⟩⟩
theorem x5_3r {v0 v1 : Option AV} {u : Int} {w : Option AV} {z : Int} : exI E d lm RT F K (5, ((3 : Nat) : Int), b, nx, tb) (v0 :: v1 :: some (vr u) :: w :: L) (vr z :: st) h = K nx (v0 :: v1 :: some (vr u) :: some (vr z) :: L) st h := propext ⟨fun q => q.2, fun q => ⟨⟨by show 3 < _; simp, rfl⟩, q⟩⟩
theorem x5_4n {v0 v1 v2 : Option AV} {w : Option AV} {z : Int} : exI E d lm RT F K (5, ((4 : Nat) : Int), b, nx, tb) (v0 :: v1 :: v2 :: none :: w :: L) (vr z :: st) h = K nx (v0 :: v1 :: v2 :: none :: some (vr z) :: L) st h := propext ⟨fun q => q.2, fun q => ⟨⟨by show 4 < _; simp, rfl⟩, q⟩⟩
theorem x5_4i {v0 v1 v2 : Option AV} {u : Int} {w : Option AV} {z : Int} : exI E d lm RT F K (5, ((4 : Nat) : Int), b, nx, tb) (v0 :: v1 :: v2 :: some (vi u) :: w :: L) (vr z :: st) h = K nx (v0 :: v1 :: v2 :: some (vi u) :: some (vr z) :: L) st h := propext ⟨fun q => q.2, fun q => ⟨⟨by show 4 < _; simp, rfl⟩, q⟩⟩
theorem x5_4r {v0 v1 v2 : Option AV} {u : Int} {w : Option AV} {z : Int} : exI E d lm RT F K (5, ((4 : Nat) : Int), b, nx, tb) (v0 :: v1 :: v2 :: some (vr u) :: w :: L) (vr z :: st) h = K nx (v0 :: v1 :: v2 :: some (vr u) :: some (vr z) :: L) st h := propext ⟨fun q => q.2, fun q => ⟨⟨by show 4 < _; simp, rfl⟩, q⟩⟩
theorem x5_5n {v0 v1 v2 v3 : Option AV} {w : Option AV} {z : Int} : exI E d lm RT F K (5, ((5 : Nat) : Int), b, nx, tb) (v0 :: v1 :: v2 :: v3 :: none :: w :: L) (vr z :: st) h = K nx (v0 :: v1 :: v2 :: v3 :: none :: some (vr z) :: L) st h := propext ⟨fun q => q.2, fun q => ⟨⟨by show 5 < _; simp, rfl⟩, q⟩⟩
theorem x5_5i {v0 v1 v2 v3 : Option AV} {u : Int} {w : Option AV} {z : Int} : exI E d lm RT F K (5, ((5 : Nat) : Int), b, nx, tb) (v0 :: v1 :: v2 :: v3 :: some (vi u) :: w :: L) (vr z :: st) h = K nx (v0 :: v1 :: v2 :: v3 :: some (vi u) :: some (vr z) :: L) st h := propext ⟨fun q => q.2, fun q => ⟨⟨by show 5 < _; simp, rfl⟩, q⟩⟩
theorem x5_5r {v0 v1 v2 v3 : Option AV} {u : Int} {w : Option AV} {z : Int} : exI E d lm RT F K (5, ((5 : Nat) : Int), b, nx, tb) (v0 :: v1 :: v2 :: v3 :: some (vr u) :: w :: L) (vr z :: st) h = K nx (v0 :: v1 :: v2 :: v3 :: some (vr u) :: some (vr z) :: L) st h := propext ⟨fun q => q.2, fun q => ⟨⟨by show 5 < _; simp, rfl⟩, q⟩⟩
theorem x5_6n {v0 v1 v2 v3 v4 : Option AV} {w : Option AV} {z : Int} : exI E d lm RT F K (5, ((6 : Nat) : Int), b, nx, tb) (v0 :: v1 :: v2 :: v3 :: v4 :: none :: w :: L) (vr z :: st) h = K nx (v0 :: v1 :: v2 :: v3 :: v4 :: none :: some (vr z) :: L) st h := propext ⟨fun q => q.2, fun q => ⟨⟨by show 6 < _; simp, rfl⟩, q⟩⟩
theorem x5_6i {v0 v1 v2 v3 v4 : Option AV} {u : Int} {w : Option AV} {z : Int} : exI E d lm RT F K (5, ((6 : Nat) : Int), b, nx, tb) (v0 :: v1 :: v2 :: v3 :: v4 :: some (vi u) :: w :: L) (vr z :: st) h = K nx (v0 :: v1 :: v2 :: v3 :: v4 :: some (vi u) :: some (vr z) :: L) st h := propext ⟨fun q => q.2, fun q => ⟨⟨by show 6 < _; simp, rfl⟩, q⟩⟩
theorem x5_6r {v0 v1 v2 v3 v4 : Option AV} {u : Int} {w : Option AV} {z : Int} : exI E d lm RT F K (5, ((6 : Nat) : Int), b, nx, tb) (v0 :: v1 :: v2 :: v3 :: v4 :: some (vr u) :: w :: L) (vr z :: st) h = K nx (v0 :: v1 :: v2 :: v3 :: v4 :: some (vr u) :: some (vr z) :: L) st h := propext ⟨fun q => q.2, fun q => ⟨⟨by show 6 < _; simp, rfl⟩, q⟩⟩
theorem x5_7n {v0 v1 v2 v3 v4 v5 : Option AV} {w : Option AV} {z : Int} : exI E d lm RT F K (5, ((7 : Nat) : Int), b, nx, tb) (v0 :: v1 :: v2 :: v3 :: v4 :: v5 :: none :: w :: L) (vr z :: st) h = K nx (v0 :: v1 :: v2 :: v3 :: v4 :: v5 :: none :: some (vr z) :: L) st h := propext ⟨fun q => q.2, fun q => ⟨⟨by show 7 < _; simp, rfl⟩, q⟩⟩
theorem x5_7i {v0 v1 v2 v3 v4 v5 : Option AV} {u : Int} {w : Option AV} {z : Int} : exI E d lm RT F K (5, ((7 : Nat) : Int), b, nx, tb) (v0 :: v1 :: v2 :: v3 :: v4 :: v5 :: some (vi u) :: w :: L) (vr z :: st) h = K nx (v0 :: v1 :: v2 :: v3 :: v4 :: v5 :: some (vi u) :: some (vr z) :: L) st h := propext ⟨fun q => q.2, fun q => ⟨⟨by show 7 < _; simp, rfl⟩, q⟩⟩
theorem x5_7r {v0 v1 v2 v3 v4 v5 : Option AV} {u : Int} {w : Option AV} {z : Int} : exI E d lm RT F K (5, ((7 : Nat) : Int), b, nx, tb) (v0 :: v1 :: v2 :: v3 :: v4 :: v5 :: some (vr u) :: w :: L) (vr z :: st) h = K nx (v0 :: v1 :: v2 :: v3 :: v4 :: v5 :: some (vr u) :: some (vr z) :: L) st h := propext ⟨fun q => q.2, fun q => ⟨⟨by show 7 < _; simp, rfl⟩, q⟩⟩
theorem x5_8n {v0 v1 v2 v3 v4 v5 v6 : Option AV} {w : Option AV} {z : Int} : exI E d lm RT F K (5, ((8 : Nat) : Int), b, nx, tb) (v0 :: v1 :: v2 :: v3 :: v4 :: v5 :: v6 :: none :: w :: L) (vr z :: st) h = K nx (v0 :: v1 :: v2 :: v3 :: v4 :: v5 :: v6 :: none :: some (vr z) :: L) st h := propext ⟨fun q => q.2, fun q => ⟨⟨by show 8 < _; simp, rfl⟩, q⟩⟩
theorem x5_8i {v0 v1 v2 v3 v4 v5 v6 : Option AV} {u : Int} {w : Option AV} {z : Int} : exI E d lm RT F K (5, ((8 : Nat) : Int), b, nx, tb) (v0 :: v1 :: v2 :: v3 :: v4 :: v5 :: v6 :: some (vi u) :: w :: L) (vr z :: st) h = K nx (v0 :: v1 :: v2 :: v3 :: v4 :: v5 :: v6 :: some (vi u) :: some (vr z) :: L) st h := propext ⟨fun q => q.2, fun q => ⟨⟨by show 8 < _; simp, rfl⟩, q⟩⟩
theorem x5_8r {v0 v1 v2 v3 v4 v5 v6 : Option AV} {u : Int} {w : Option AV} {z : Int} : exI E d lm RT F K (5, ((8 : Nat) : Int), b, nx, tb) (v0 :: v1 :: v2 :: v3 :: v4 :: v5 :: v6 :: some (vr u) :: w :: L) (vr z :: st) h = K nx (v0 :: v1 :: v2 :: v3 :: v4 :: v5 :: v6 :: some (vr u) :: some (vr z) :: L) st h := propext ⟨fun q => q.2, fun q => ⟨⟨by show 8 < _; simp, rfl⟩, q⟩⟩
theorem x5_9n {v0 v1 v2 v3 v4 v5 v6 v7 : Option AV} {w : Option AV} {z : Int} : exI E d lm RT F K (5, ((9 : Nat) : Int), b, nx, tb) (v0 :: v1 :: v2 :: v3 :: v4 :: v5 :: v6 :: v7 :: none :: w :: L) (vr z :: st) h = K nx (v0 :: v1 :: v2 :: v3 :: v4 :: v5 :: v6 :: v7 :: none :: some (vr z) :: L) st h := propext ⟨fun q => q.2, fun q => ⟨⟨by show 9 < _; simp, rfl⟩, q⟩⟩
theorem x5_9i {v0 v1 v2 v3 v4 v5 v6 v7 : Option AV} {u : Int} {w : Option AV} {z : Int} : exI E d lm RT F K (5, ((9 : Nat) : Int), b, nx, tb) (v0 :: v1 :: v2 :: v3 :: v4 :: v5 :: v6 :: v7 :: some (vi u) :: w :: L) (vr z :: st) h = K nx (v0 :: v1 :: v2 :: v3 :: v4 :: v5 :: v6 :: v7 :: some (vi u) :: some (vr z) :: L) st h := propext ⟨fun q => q.2, fun q => ⟨⟨by show 9 < _; simp, rfl⟩, q⟩⟩
theorem x5_9r {v0 v1 v2 v3 v4 v5 v6 v7 : Option AV} {u : Int} {w : Option AV} {z : Int} : exI E d lm RT F K (5, ((9 : Nat) : Int), b, nx, tb) (v0 :: v1 :: v2 :: v3 :: v4 :: v5 :: v6 :: v7 :: some (vr u) :: w :: L) (vr z :: st) h = K nx (v0 :: v1 :: v2 :: v3 :: v4 :: v5 :: v6 :: v7 :: some (vr u) :: some (vr z) :: L) st h := propext ⟨fun q => q.2, fun q => ⟨⟨by show 9 < _; simp, rfl⟩, q⟩⟩
theorem x5_10n {v0 v1 v2 v3 v4 v5 v6 v7 v8 : Option AV} {w : Option AV} {z : Int} : exI E d lm RT F K (5, ((10 : Nat) : Int), b, nx, tb) (v0 :: v1 :: v2 :: v3 :: v4 :: v5 :: v6 :: v7 :: v8 :: none :: w :: L) (vr z :: st) h = K nx (v0 :: v1 :: v2 :: v3 :: v4 :: v5 :: v6 :: v7 :: v8 :: none :: some (vr z) :: L) st h := propext ⟨fun q => q.2, fun q => ⟨⟨by show 10 < _; simp, rfl⟩, q⟩⟩
theorem x5_10i {v0 v1 v2 v3 v4 v5 v6 v7 v8 : Option AV} {u : Int} {w : Option AV} {z : Int} : exI E d lm RT F K (5, ((10 : Nat) : Int), b, nx, tb) (v0 :: v1 :: v2 :: v3 :: v4 :: v5 :: v6 :: v7 :: v8 :: some (vi u) :: w :: L) (vr z :: st) h = K nx (v0 :: v1 :: v2 :: v3 :: v4 :: v5 :: v6 :: v7 :: v8 :: some (vi u) :: some (vr z) :: L) st h := propext ⟨fun q => q.2, fun q => ⟨⟨by show 10 < _; simp, rfl⟩, q⟩⟩
theorem x5_10r {v0 v1 v2 v3 v4 v5 v6 v7 v8 : Option AV} {u : Int} {w : Option AV} {z : Int} : exI E d lm RT F K (5, ((10 : Nat) : Int), b, nx, tb) (v0 :: v1 :: v2 :: v3 :: v4 :: v5 :: v6 :: v7 :: v8 :: some (vr u) :: w :: L) (vr z :: st) h = K nx (v0 :: v1 :: v2 :: v3 :: v4 :: v5 :: v6 :: v7 :: v8 :: some (vr u) :: some (vr z) :: L) st h := propext ⟨fun q => q.2, fun q => ⟨⟨by show 10 < _; simp, rfl⟩, q⟩⟩
theorem x5_11n {v0 v1 v2 v3 v4 v5 v6 v7 v8 v9 : Option AV} {w : Option AV} {z : Int} : exI E d lm RT F K (5, ((11 : Nat) : Int), b, nx, tb) (v0 :: v1 :: v2 :: v3 :: v4 :: v5 :: v6 :: v7 :: v8 :: v9 :: none :: w :: L) (vr z :: st) h = K nx (v0 :: v1 :: v2 :: v3 :: v4 :: v5 :: v6 :: v7 :: v8 :: v9 :: none :: some (vr z) :: L) st h := propext ⟨fun q => q.2, fun q => ⟨⟨by show 11 < _; simp, rfl⟩, q⟩⟩
theorem x5_11i {v0 v1 v2 v3 v4 v5 v6 v7 v8 v9 : Option AV} {u : Int} {w : Option AV} {z : Int} : exI E d lm RT F K (5, ((11 : Nat) : Int), b, nx, tb) (v0 :: v1 :: v2 :: v3 :: v4 :: v5 :: v6 :: v7 :: v8 :: v9 :: some (vi u) :: w :: L) (vr z :: st) h = K nx (v0 :: v1 :: v2 :: v3 :: v4 :: v5 :: v6 :: v7 :: v8 :: v9 :: some (vi u) :: some (vr z) :: L) st h := propext ⟨fun q => q.2, fun q => ⟨⟨by show 11 < _; simp, rfl⟩, q⟩⟩
theorem x5_11r {v0 v1 v2 v3 v4 v5 v6 v7 v8 v9 : Option AV} {u : Int} {w : Option AV} {z : Int} : exI E d lm RT F K (5, ((11 : Nat) : Int), b, nx, tb) (v0 :: v1 :: v2 :: v3 :: v4 :: v5 :: v6 :: v7 :: v8 :: v9 :: some (vr u) :: w :: L) (vr z :: st) h = K nx (v0 :: v1 :: v2 :: v3 :: v4 :: v5 :: v6 :: v7 :: v8 :: v9 :: some (vr u) :: some (vr z) :: L) st h := propext ⟨fun q => q.2, fun q => ⟨⟨by show 11 < _; simp, rfl⟩, q⟩⟩
theorem x6_0 {v0 v1 : Option AV} {z : Int} : exI E d lm RT F K (6, ((0 : Nat) : Int), b, nx, tb) (v0 :: v1 :: L) (vl z :: st) h = K nx (some (vl z) :: none :: L) st h := propext ⟨fun q => q.2.2, fun q => ⟨⟨by show 0 < _; simp, rfl⟩, by show 0 + 1 < _; simp, q⟩⟩
theorem x6_1n {w w2 : Option AV} {z : Int} : exI E d lm RT F K (6, ((1 : Nat) : Int), b, nx, tb) (none :: w :: w2 :: L) (vl z :: st) h = K nx (none :: some (vl z) :: none :: L) st h := propext ⟨fun q => q.2.2, fun q => ⟨⟨by show 1 < _; simp, rfl⟩, by show 1 + 1 < _; simp, q⟩⟩
theorem x6_1i {u : Int} {w w2 : Option AV} {z : Int} : exI E d lm RT F K (6, ((1 : Nat) : Int), b, nx, tb) (some (vi u) :: w :: w2 :: L) (vl z :: st) h = K nx (some (vi u) :: some (vl z) :: none :: L) st h := propext ⟨fun q => q.2.2, fun q => ⟨⟨by show 1 < _; simp, rfl⟩, by show 1 + 1 < _; simp, q⟩⟩
theorem x6_1r {u : Int} {w w2 : Option AV} {z : Int} : exI E d lm RT F K (6, ((1 : Nat) : Int), b, nx, tb) (some (vr u) :: w :: w2 :: L) (vl z :: st) h = K nx (some (vr u) :: some (vl z) :: none :: L) st h := propext ⟨fun q => q.2.2, fun q => ⟨⟨by show 1 < _; simp, rfl⟩, by show 1 + 1 < _; simp, q⟩⟩
theorem x6_2n {v0 : Option AV} {w w2 : Option AV} {z : Int} : exI E d lm RT F K (6, ((2 : Nat) : Int), b, nx, tb) (v0 :: none :: w :: w2 :: L) (vl z :: st) h = K nx (v0 :: none :: some (vl z) :: none :: L) st h := propext ⟨fun q => q.2.2, fun q => ⟨⟨by show 2 < _; simp, rfl⟩, by show 2 + 1 < _; simp, q⟩⟩
theorem x6_2i {v0 : Option AV} {u : Int} {w w2 : Option AV} {z : Int} : exI E d lm RT F K (6, ((2 : Nat) : Int), b, nx, tb) (v0 :: some (vi u) :: w :: w2 :: L) (vl z :: st) h = K nx (v0 :: some (vi u) :: some (vl z) :: none :: L) st h := propext ⟨fun q => q.2.2, fun q => ⟨⟨by show 2 < _; simp, rfl⟩, by show 2 + 1 < _; simp, q⟩⟩
theorem x6_2r {v0 : Option AV} {u : Int} {w w2 : Option AV} {z : Int} : exI E d lm RT F K (6, ((2 : Nat) : Int), b, nx, tb) (v0 :: some (vr u) :: w :: w2 :: L) (vl z :: st) h = K nx (v0 :: some (vr u) :: some (vl z) :: none :: L) st h := propext ⟨fun q => q.2.2, fun q => ⟨⟨by show 2 < _; simp, rfl⟩, by show 2 + 1 < _; simp, q⟩⟩
theorem x6_3n {v0 v1 : Option AV} {w w2 : Option AV} {z : Int} : exI E d lm RT F K (6, ((3 : Nat) : Int), b, nx, tb) (v0 :: v1 :: none :: w :: w2 :: L) (vl z :: st) h = K nx (v0 :: v1 :: none :: some (vl z) :: none :: L) st h := propext ⟨fun q => q.2.2, fun q => ⟨⟨by show 3 < _; simp, rfl⟩, by show 3 + 1 < _; simp, q⟩⟩
theorem x6_3i {v0 v1 : Option AV} {u : Int} {w w2 : Option AV} {z : Int} : exI E d lm RT F K (6, ((3 : Nat) : Int), b, nx, tb) (v0 :: v1 :: some (vi u) :: w :: w2 :: L) (vl z :: st) h = K nx (v0 :: v1 :: some (vi u) :: some (vl z) :: none :: L) st h := propext ⟨fun q => q.2.2, fun q => ⟨⟨by show 3 < _; simp, rfl⟩, by show 3 + 1 < _; simp, q⟩⟩
theorem x6_3r {v0 v1 : Option AV} {u : Int} {w w2 : Option AV} {z : Int} : exI E d lm RT F K (6, ((3 : Nat) : Int), b, nx, tb) (v0 :: v1 :: some (vr u) :: w :: w2 :: L) (vl z :: st) h = K nx (v0 :: v1 :: some (vr u) :: some (vl z) :: none :: L) st h := propext ⟨fun q => q.2.2, fun q => ⟨⟨by show 3 < _; simp, rfl⟩, by show 3 + 1 < _; simp, q⟩⟩
theorem x6_4n {v0 v1 v2 : Option AV} {w w2 : Option AV} {z : Int} : exI E d lm RT F K (6, ((4 : Nat) : Int), b, nx, tb) (v0 :: v1 :: v2 :: none :: w :: w2 :: L) (vl z :: st) h = K nx (v0 :: v1 :: v2 :: none :: some (vl z) :: none :: L) st h := propext ⟨fun q => q.2.2, fun q => ⟨⟨by show 4 < _; simp, rfl⟩, by show 4 + 1 < _; simp, q⟩⟩
theorem x6_4i {v0 v1 v2 : Option AV} {u : Int} {w w2 : Option AV} {z : Int} : exI E d lm RT F K (6, ((4 : Nat) : Int), b, nx, tb) (v0 :: v1 :: v2 :: some (vi u) :: w :: w2 :: L) (vl z :: st) h = K nx (v0 :: v1 :: v2 :: some (vi u) :: some (vl z) :: none :: L) st h := propext ⟨fun q => q.2.2, fun q => ⟨⟨by show 4 < _; simp, rfl⟩, by show 4 + 1 < _; simp, q⟩⟩
theorem x6_4r {v0 v1 v2 : Option AV} {u : Int} {w w2 : Option AV} {z : Int} : exI E d lm RT F K (6, ((4 : Nat) : Int), b, nx, tb) (v0 :: v1 :: v2 :: some (vr u) :: w :: w2 :: L) (vl z :: st) h = K nx (v0 :: v1 :: v2 :: some (vr u) :: some (vl z) :: none :: L) st h := propext ⟨fun q => q.2.2, fun q => ⟨⟨by show 4 < _; simp, rfl⟩, by show 4 + 1 < _; simp, q⟩⟩
theorem x6_5n {v0 v1 v2 v3 : Option AV} {w w2 : Option AV} {z : Int} : exI E d lm RT F K (6, ((5 : Nat) : Int), b, nx, tb) (v0 :: v1 :: v2 :: v3 :: none :: w :: w2 :: L) (vl z :: st) h = K nx (v0 :: v1 :: v2 :: v3 :: none :: some (vl z) :: none :: L) st h := propext ⟨fun q => q.2.2, fun q => ⟨⟨by show 5 < _; simp, rfl⟩, by show 5 + 1 < _; simp, q⟩⟩
theorem x6_5i {v0 v1 v2 v3 : Option AV} {u : Int} {w w2 : Option AV} {z : Int} : exI E d lm RT F K (6, ((5 : Nat) : Int), b, nx, tb) (v0 :: v1 :: v2 :: v3 :: some (vi u) :: w :: w2 :: L) (vl z :: st) h = K nx (v0 :: v1 :: v2 :: v3 :: some (vi u) :: some (vl z) :: none :: L) st h := propext ⟨fun q => q.2.2, fun q => ⟨⟨by show 5 < _; simp, rfl⟩, by show 5 + 1 < _; simp, q⟩⟩
theorem x6_5r {v0 v1 v2 v3 : Option AV} {u : Int} {w w2 : Option AV} {z : Int} : exI E d lm RT F K (6, ((5 : Nat) : Int), b, nx, tb) (v0 :: v1 :: v2 :: v3 :: some (vr u) :: w :: w2 :: L) (vl z :: st) h = K nx (v0 :: v1 :: v2 :: v3 :: some (vr u) :: some (vl z) :: none :: L) st h := propext ⟨fun q => q.2.2, fun q => ⟨⟨by show 5 < _; simp, rfl⟩, by show 5 + 1 < _; simp, q⟩⟩
theorem x6_6n {v0 v1 v2 v3 v4 : Option AV} {w w2 : Option AV} {z : Int} : exI E d lm RT F K (6, ((6 : Nat) : Int), b, nx, tb) (v0 :: v1 :: v2 :: v3 :: v4 :: none :: w :: w2 :: L) (vl z :: st) h = K nx (v0 :: v1 :: v2 :: v3 :: v4 :: none :: some (vl z) :: none :: L) st h := propext ⟨fun q => q.2.2, fun q => ⟨⟨by show 6 < _; simp, rfl⟩, by show 6 + 1 < _; simp, q⟩⟩
theorem x6_6i {v0 v1 v2 v3 v4 : Option AV} {u : Int} {w w2 : Option AV} {z : Int} : exI E d lm RT F K (6, ((6 : Nat) : Int), b, nx, tb) (v0 :: v1 :: v2 :: v3 :: v4 :: some (vi u) :: w :: w2 :: L) (vl z :: st) h = K nx (v0 :: v1 :: v2 :: v3 :: v4 :: some (vi u) :: some (vl z) :: none :: L) st h := propext ⟨fun q => q.2.2, fun q => ⟨⟨by show 6 < _; simp, rfl⟩, by show 6 + 1 < _; simp, q⟩⟩
theorem x6_6r {v0 v1 v2 v3 v4 : Option AV} {u : Int} {w w2 : Option AV} {z : Int} : exI E d lm RT F K (6, ((6 : Nat) : Int), b, nx, tb) (v0 :: v1 :: v2 :: v3 :: v4 :: some (vr u) :: w :: w2 :: L) (vl z :: st) h = K nx (v0 :: v1 :: v2 :: v3 :: v4 :: some (vr u) :: some (vl z) :: none :: L) st h := propext ⟨fun q => q.2.2, fun q => ⟨⟨by show 6 < _; simp, rfl⟩, by show 6 + 1 < _; simp, q⟩⟩
theorem x6_7n {v0 v1 v2 v3 v4 v5 : Option AV} {w w2 : Option AV} {z : Int} : exI E d lm RT F K (6, ((7 : Nat) : Int), b, nx, tb) (v0 :: v1 :: v2 :: v3 :: v4 :: v5 :: none :: w :: w2 :: L) (vl z :: st) h = K nx (v0 :: v1 :: v2 :: v3 :: v4 :: v5 :: none :: some (vl z) :: none :: L) st h := propext ⟨fun q => q.2.2, fun q => ⟨⟨by show 7 < _; simp, rfl⟩, by show 7 + 1 < _; simp, q⟩⟩
theorem x6_7i {v0 v1 v2 v3 v4 v5 : Option AV} {u : Int} {w w2 : Option AV} {z : Int} : exI E d lm RT F K (6, ((7 : Nat) : Int), b, nx, tb) (v0 :: v1 :: v2 :: v3 :: v4 :: v5 :: some (vi u) :: w :: w2 :: L) (vl z :: st) h = K nx (v0 :: v1 :: v2 :: v3 :: v4 :: v5 :: some (vi u) :: some (vl z) :: none :: L) st h := propext ⟨fun q => q.2.2, fun q => ⟨⟨by show 7 < _; simp, rfl⟩, by show 7 + 1 < _; simp, q⟩⟩
theorem x6_7r {v0 v1 v2 v3 v4 v5 : Option AV} {u : Int} {w w2 : Option AV} {z : Int} : exI E d lm RT F K (6, ((7 : Nat) : Int), b, nx, tb) (v0 :: v1 :: v2 :: v3 :: v4 :: v5 :: some (vr u) :: w :: w2 :: L) (vl z :: st) h = K nx (v0 :: v1 :: v2 :: v3 :: v4 :: v5 :: some (vr u) :: some (vl z) :: none :: L) st h := propext ⟨fun q => q.2.2, fun q => ⟨⟨by show 7 < _; simp, rfl⟩, by show 7 + 1 < _; simp, q⟩⟩
theorem x6_8n {v0 v1 v2 v3 v4 v5 v6 : Option AV} {w w2 : Option AV} {z : Int} : exI E d lm RT F K (6, ((8 : Nat) : Int), b, nx, tb) (v0 :: v1 :: v2 :: v3 :: v4 :: v5 :: v6 :: none :: w :: w2 :: L) (vl z :: st) h = K nx (v0 :: v1 :: v2 :: v3 :: v4 :: v5 :: v6 :: none :: some (vl z) :: none :: L) st h := propext ⟨fun q => q.2.2, fun q => ⟨⟨by show 8 < _; simp, rfl⟩, by show 8 + 1 < _; simp, q⟩⟩
theorem x6_8i {v0 v1 v2 v3 v4 v5 v6 : Option AV} {u : Int} {w w2 : Option AV} {z : Int} : exI E d lm RT F K (6, ((8 : Nat) : Int), b, nx, tb) (v0 :: v1 :: v2 :: v3 :: v4 :: v5 :: v6 :: some (vi u) :: w :: w2 :: L) (vl z :: st) h = K nx (v0 :: v1 :: v2 :: v3 :: v4 :: v5 :: v6 :: some (vi u) :: some (vl z) :: none :: L) st h := propext ⟨fun q => q.2.2, fun q => ⟨⟨by show 8 < _; simp, rfl⟩, by show 8 + 1 < _; simp, q⟩⟩
theorem x6_8r {v0 v1 v2 v3 v4 v5 v6 : Option AV} {u : Int} {w w2 : Option AV} {z : Int} : exI E d lm RT F K (6, ((8 : Nat) : Int), b, nx, tb) (v0 :: v1 :: v2 :: v3 :: v4 :: v5 :: v6 :: some (vr u) :: w :: w2 :: L) (vl z :: st) h = K nx (v0 :: v1 :: v2 :: v3 :: v4 :: v5 :: v6 :: some (vr u) :: some (vl z) :: none :: L) st h := propext ⟨fun q => q.2.2, fun q => ⟨⟨by show 8 < _; simp, rfl⟩, by show 8 + 1 < _; simp, q⟩⟩
theorem x6_9n {v0 v1 v2 v3 v4 v5 v6 v7 : Option AV} {w w2 : Option AV} {z : Int} : exI E d lm RT F K (6, ((9 : Nat) : Int), b, nx, tb) (v0 :: v1 :: v2 :: v3 :: v4 :: v5 :: v6 :: v7 :: none :: w :: w2 :: L) (vl z :: st) h = K nx (v0 :: v1 :: v2 :: v3 :: v4 :: v5 :: v6 :: v7 :: none :: some (vl z) :: none :: L) st h := propext ⟨fun q => q.2.2, fun q => ⟨⟨by show 9 < _; simp, rfl⟩, by show 9 + 1 < _; simp, q⟩⟩
theorem x6_9i {v0 v1 v2 v3 v4 v5 v6 v7 : Option AV} {u : Int} {w w2 : Option AV} {z : Int} : exI E d lm RT F K (6, ((9 : Nat) : Int), b, nx, tb) (v0 :: v1 :: v2 :: v3 :: v4 :: v5 :: v6 :: v7 :: some (vi u) :: w :: w2 :: L) (vl z :: st) h = K nx (v0 :: v1 :: v2 :: v3 :: v4 :: v5 :: v6 :: v7 :: some (vi u) :: some (vl z) :: none :: L) st h := propext ⟨fun q => q.2.2, fun q => ⟨⟨by show 9 < _; simp, rfl⟩, by show 9 + 1 < _; simp, q⟩⟩
theorem x6_9r {v0 v1 v2 v3 v4 v5 v6 v7 : Option AV} {u : Int} {w w2 : Option AV} {z : Int} : exI E d lm RT F K (6, ((9 : Nat) : Int), b, nx, tb) (v0 :: v1 :: v2 :: v3 :: v4 :: v5 :: v6 :: v7 :: some (vr u) :: w :: w2 :: L) (vl z :: st) h = K nx (v0 :: v1 :: v2 :: v3 :: v4 :: v5 :: v6 :: v7 :: some (vr u) :: some (vl z) :: none :: L) st h := propext ⟨fun q => q.2.2, fun q => ⟨⟨by show 9 < _; simp, rfl⟩, by show 9 + 1 < _; simp, q⟩⟩
theorem x6_10n {v0 v1 v2 v3 v4 v5 v6 v7 v8 : Option AV} {w w2 : Option AV} {z : Int} : exI E d lm RT F K (6, ((10 : Nat) : Int), b, nx, tb) (v0 :: v1 :: v2 :: v3 :: v4 :: v5 :: v6 :: v7 :: v8 :: none :: w :: w2 :: L) (vl z :: st) h = K nx (v0 :: v1 :: v2 :: v3 :: v4 :: v5 :: v6 :: v7 :: v8 :: none :: some (vl z) :: none :: L) st h := propext ⟨fun q => q.2.2, fun q => ⟨⟨by show 10 < _; simp, rfl⟩, by show 10 + 1 < _; simp, q⟩⟩
theorem x6_10i {v0 v1 v2 v3 v4 v5 v6 v7 v8 : Option AV} {u : Int} {w w2 : Option AV} {z : Int} : exI E d lm RT F K (6, ((10 : Nat) : Int), b, nx, tb) (v0 :: v1 :: v2 :: v3 :: v4 :: v5 :: v6 :: v7 :: v8 :: some (vi u) :: w :: w2 :: L) (vl z :: st) h = K nx (v0 :: v1 :: v2 :: v3 :: v4 :: v5 :: v6 :: v7 :: v8 :: some (vi u) :: some (vl z) :: none :: L) st h := propext ⟨fun q => q.2.2, fun q => ⟨⟨by show 10 < _; simp, rfl⟩, by show 10 + 1 < _; simp, q⟩⟩
theorem x6_10r {v0 v1 v2 v3 v4 v5 v6 v7 v8 : Option AV} {u : Int} {w w2 : Option AV} {z : Int} : exI E d lm RT F K (6, ((10 : Nat) : Int), b, nx, tb) (v0 :: v1 :: v2 :: v3 :: v4 :: v5 :: v6 :: v7 :: v8 :: some (vr u) :: w :: w2 :: L) (vl z :: st) h = K nx (v0 :: v1 :: v2 :: v3 :: v4 :: v5 :: v6 :: v7 :: v8 :: some (vr u) :: some (vl z) :: none :: L) st h := propext ⟨fun q => q.2.2, fun q => ⟨⟨by show 10 < _; simp, rfl⟩, by show 10 + 1 < _; simp, q⟩⟩
theorem x7_0 {z : Int} : exI E d lm RT F K (7, ((0 : Nat) : Int), b, nx, tb) (some (vi z) :: L) st h = K nx (some (vi (z + b)) :: L) st h := propext ⟨fun q => q.2, fun q => ⟨rfl, q⟩⟩
theorem x7_1n {z : Int} : exI E d lm RT F K (7, ((1 : Nat) : Int), b, nx, tb) (none :: some (vi z) :: L) st h = K nx (none :: some (vi (z + b)) :: L) st h := propext ⟨fun q => q.2, fun q => ⟨rfl, q⟩⟩
theorem x7_1i {u : Int} {z : Int} : exI E d lm RT F K (7, ((1 : Nat) : Int), b, nx, tb) (some (vi u) :: some (vi z) :: L) st h = K nx (some (vi u) :: some (vi (z + b)) :: L) st h := propext ⟨fun q => q.2, fun q => ⟨rfl, q⟩⟩
theorem x7_1r {u : Int} {z : Int} : exI E d lm RT F K (7, ((1 : Nat) : Int), b, nx, tb) (some (vr u) :: some (vi z) :: L) st h = K nx (some (vr u) :: some (vi (z + b)) :: L) st h := propext ⟨fun q => q.2, fun q => ⟨rfl, q⟩⟩
theorem x7_2n {v0 : Option AV} {z : Int} : exI E d lm RT F K (7, ((2 : Nat) : Int), b, nx, tb) (v0 :: none :: some (vi z) :: L) st h = K nx (v0 :: none :: some (vi (z + b)) :: L) st h := propext ⟨fun q => q.2, fun q => ⟨rfl, q⟩⟩
theorem x7_2i {v0 : Option AV} {u : Int} {z : Int} : exI E d lm RT F K (7, ((2 : Nat) : Int), b, nx, tb) (v0 :: some (vi u) :: some (vi z) :: L) st h = K nx (v0 :: some (vi u) :: some (vi (z + b)) :: L) st h := propext ⟨fun q => q.2, fun q => ⟨rfl, q⟩⟩
theorem x7_2r {v0 : Option AV} {u : Int} {z : Int} : exI E d lm RT F K (7, ((2 : Nat) : Int), b, nx, tb) (v0 :: some (vr u) :: some (vi z) :: L) st h = K nx (v0 :: some (vr u) :: some (vi (z + b)) :: L) st h := propext ⟨fun q => q.2, fun q => ⟨rfl, q⟩⟩
theorem x7_3n {v0 v1 : Option AV} {z : Int} : exI E d lm RT F K (7, ((3 : Nat) : Int), b, nx, tb) (v0 :: v1 :: none :: some (vi z) :: L) st h = K nx (v0 :: v1 :: none :: some (vi (z + b)) :: L) st h := propext ⟨fun q => q.2, fun q => ⟨rfl, q⟩⟩
theorem x7_3i {v0 v1 : Option AV} {u : Int} {z : Int} : exI E d lm RT F K (7, ((3 : Nat) : Int), b, nx, tb) (v0 :: v1 :: some (vi u) :: some (vi z) :: L) st h = K nx (v0 :: v1 :: some (vi u) :: some (vi (z + b)) :: L) st h := propext ⟨fun q => q.2, fun q => ⟨rfl, q⟩⟩
theorem x7_3r {v0 v1 : Option AV} {u : Int} {z : Int} : exI E d lm RT F K (7, ((3 : Nat) : Int), b, nx, tb) (v0 :: v1 :: some (vr u) :: some (vi z) :: L) st h = K nx (v0 :: v1 :: some (vr u) :: some (vi (z + b)) :: L) st h := propext ⟨fun q => q.2, fun q => ⟨rfl, q⟩⟩
theorem x7_4n {v0 v1 v2 : Option AV} {z : Int} : exI E d lm RT F K (7, ((4 : Nat) : Int), b, nx, tb) (v0 :: v1 :: v2 :: none :: some (vi z) :: L) st h = K nx (v0 :: v1 :: v2 :: none :: some (vi (z + b)) :: L) st h := propext ⟨fun q => q.2, fun q => ⟨rfl, q⟩⟩
theorem x7_4i {v0 v1 v2 : Option AV} {u : Int} {z : Int} : exI E d lm RT F K (7, ((4 : Nat) : Int), b, nx, tb) (v0 :: v1 :: v2 :: some (vi u) :: some (vi z) :: L) st h = K nx (v0 :: v1 :: v2 :: some (vi u) :: some (vi (z + b)) :: L) st h := propext ⟨fun q => q.2, fun q => ⟨rfl, q⟩⟩
theorem x7_4r {v0 v1 v2 : Option AV} {u : Int} {z : Int} : exI E d lm RT F K (7, ((4 : Nat) : Int), b, nx, tb) (v0 :: v1 :: v2 :: some (vr u) :: some (vi z) :: L) st h = K nx (v0 :: v1 :: v2 :: some (vr u) :: some (vi (z + b)) :: L) st h := propext ⟨fun q => q.2, fun q => ⟨rfl, q⟩⟩
theorem x7_5n {v0 v1 v2 v3 : Option AV} {z : Int} : exI E d lm RT F K (7, ((5 : Nat) : Int), b, nx, tb) (v0 :: v1 :: v2 :: v3 :: none :: some (vi z) :: L) st h = K nx (v0 :: v1 :: v2 :: v3 :: none :: some (vi (z + b)) :: L) st h := propext ⟨fun q => q.2, fun q => ⟨rfl, q⟩⟩
theorem x7_5i {v0 v1 v2 v3 : Option AV} {u : Int} {z : Int} : exI E d lm RT F K (7, ((5 : Nat) : Int), b, nx, tb) (v0 :: v1 :: v2 :: v3 :: some (vi u) :: some (vi z) :: L) st h = K nx (v0 :: v1 :: v2 :: v3 :: some (vi u) :: some (vi (z + b)) :: L) st h := propext ⟨fun q => q.2, fun q => ⟨rfl, q⟩⟩
theorem x7_5r {v0 v1 v2 v3 : Option AV} {u : Int} {z : Int} : exI E d lm RT F K (7, ((5 : Nat) : Int), b, nx, tb) (v0 :: v1 :: v2 :: v3 :: some (vr u) :: some (vi z) :: L) st h = K nx (v0 :: v1 :: v2 :: v3 :: some (vr u) :: some (vi (z + b)) :: L) st h := propext ⟨fun q => q.2, fun q => ⟨rfl, q⟩⟩
theorem x7_6n {v0 v1 v2 v3 v4 : Option AV} {z : Int} : exI E d lm RT F K (7, ((6 : Nat) : Int), b, nx, tb) (v0 :: v1 :: v2 :: v3 :: v4 :: none :: some (vi z) :: L) st h = K nx (v0 :: v1 :: v2 :: v3 :: v4 :: none :: some (vi (z + b)) :: L) st h := propext ⟨fun q => q.2, fun q => ⟨rfl, q⟩⟩
theorem x7_6i {v0 v1 v2 v3 v4 : Option AV} {u : Int} {z : Int} : exI E d lm RT F K (7, ((6 : Nat) : Int), b, nx, tb) (v0 :: v1 :: v2 :: v3 :: v4 :: some (vi u) :: some (vi z) :: L) st h = K nx (v0 :: v1 :: v2 :: v3 :: v4 :: some (vi u) :: some (vi (z + b)) :: L) st h := propext ⟨fun q => q.2, fun q => ⟨rfl, q⟩⟩
theorem x7_6r {v0 v1 v2 v3 v4 : Option AV} {u : Int} {z : Int} : exI E d lm RT F K (7, ((6 : Nat) : Int), b, nx, tb) (v0 :: v1 :: v2 :: v3 :: v4 :: some (vr u) :: some (vi z) :: L) st h = K nx (v0 :: v1 :: v2 :: v3 :: v4 :: some (vr u) :: some (vi (z + b)) :: L) st h := propext ⟨fun q => q.2, fun q => ⟨rfl, q⟩⟩
theorem x7_7n {v0 v1 v2 v3 v4 v5 : Option AV} {z : Int} : exI E d lm RT F K (7, ((7 : Nat) : Int), b, nx, tb) (v0 :: v1 :: v2 :: v3 :: v4 :: v5 :: none :: some (vi z) :: L) st h = K nx (v0 :: v1 :: v2 :: v3 :: v4 :: v5 :: none :: some (vi (z + b)) :: L) st h := propext ⟨fun q => q.2, fun q => ⟨rfl, q⟩⟩
theorem x7_7i {v0 v1 v2 v3 v4 v5 : Option AV} {u : Int} {z : Int} : exI E d lm RT F K (7, ((7 : Nat) : Int), b, nx, tb) (v0 :: v1 :: v2 :: v3 :: v4 :: v5 :: some (vi u) :: some (vi z) :: L) st h = K nx (v0 :: v1 :: v2 :: v3 :: v4 :: v5 :: some (vi u) :: some (vi (z + b)) :: L) st h := propext ⟨fun q => q.2, fun q => ⟨rfl, q⟩⟩
theorem x7_7r {v0 v1 v2 v3 v4 v5 : Option AV} {u : Int} {z : Int} : exI E d lm RT F K (7, ((7 : Nat) : Int), b, nx, tb) (v0 :: v1 :: v2 :: v3 :: v4 :: v5 :: some (vr u) :: some (vi z) :: L) st h = K nx (v0 :: v1 :: v2 :: v3 :: v4 :: v5 :: some (vr u) :: some (vi (z + b)) :: L) st h := propext ⟨fun q => q.2, fun q => ⟨rfl, q⟩⟩
theorem x7_8n {v0 v1 v2 v3 v4 v5 v6 : Option AV} {z : Int} : exI E d lm RT F K (7, ((8 : Nat) : Int), b, nx, tb) (v0 :: v1 :: v2 :: v3 :: v4 :: v5 :: v6 :: none :: some (vi z) :: L) st h = K nx (v0 :: v1 :: v2 :: v3 :: v4 :: v5 :: v6 :: none :: some (vi (z + b)) :: L) st h := propext ⟨fun q => q.2, fun q => ⟨rfl, q⟩⟩
theorem x7_8i {v0 v1 v2 v3 v4 v5 v6 : Option AV} {u : Int} {z : Int} : exI E d lm RT F K (7, ((8 : Nat) : Int), b, nx, tb) (v0 :: v1 :: v2 :: v3 :: v4 :: v5 :: v6 :: some (vi u) :: some (vi z) :: L) st h = K nx (v0 :: v1 :: v2 :: v3 :: v4 :: v5 :: v6 :: some (vi u) :: some (vi (z + b)) :: L) st h := propext ⟨fun q => q.2, fun q => ⟨rfl, q⟩⟩
theorem x7_8r {v0 v1 v2 v3 v4 v5 v6 : Option AV} {u : Int} {z : Int} : exI E d lm RT F K (7, ((8 : Nat) : Int), b, nx, tb) (v0 :: v1 :: v2 :: v3 :: v4 :: v5 :: v6 :: some (vr u) :: some (vi z) :: L) st h = K nx (v0 :: v1 :: v2 :: v3 :: v4 :: v5 :: v6 :: some (vr u) :: some (vi (z + b)) :: L) st h := propext ⟨fun q => q.2, fun q => ⟨rfl, q⟩⟩
theorem x7_9n {v0 v1 v2 v3 v4 v5 v6 v7 : Option AV} {z : Int} : exI E d lm RT F K (7, ((9 : Nat) : Int), b, nx, tb) (v0 :: v1 :: v2 :: v3 :: v4 :: v5 :: v6 :: v7 :: none :: some (vi z) :: L) st h = K nx (v0 :: v1 :: v2 :: v3 :: v4 :: v5 :: v6 :: v7 :: none :: some (vi (z + b)) :: L) st h := propext ⟨fun q => q.2, fun q => ⟨rfl, q⟩⟩
theorem x7_9i {v0 v1 v2 v3 v4 v5 v6 v7 : Option AV} {u : Int} {z : Int} : exI E d lm RT F K (7, ((9 : Nat) : Int), b, nx, tb) (v0 :: v1 :: v2 :: v3 :: v4 :: v5 :: v6 :: v7 :: some (vi u) :: some (vi z) :: L) st h = K nx (v0 :: v1 :: v2 :: v3 :: v4 :: v5 :: v6 :: v7 :: some (vi u) :: some (vi (z + b)) :: L) st h := propext ⟨fun q => q.2, fun q => ⟨rfl, q⟩⟩
theorem x7_9r {v0 v1 v2 v3 v4 v5 v6 v7 : Option AV} {u : Int} {z : Int} : exI E d lm RT F K (7, ((9 : Nat) : Int), b, nx, tb) (v0 :: v1 :: v2 :: v3 :: v4 :: v5 :: v6 :: v7 :: some (vr u) :: some (vi z) :: L) st h = K nx (v0 :: v1 :: v2 :: v3 :: v4 :: v5 :: v6 :: v7 :: some (vr u) :: some (vi (z + b)) :: L) st h := propext ⟨fun q => q.2, fun q => ⟨rfl, q⟩⟩
theorem x7_10n {v0 v1 v2 v3 v4 v5 v6 v7 v8 : Option AV} {z : Int} : exI E d lm RT F K (7, ((10 : Nat) : Int), b, nx, tb) (v0 :: v1 :: v2 :: v3 :: v4 :: v5 :: v6 :: v7 :: v8 :: none :: some (vi z) :: L) st h = K nx (v0 :: v1 :: v2 :: v3 :: v4 :: v5 :: v6 :: v7 :: v8 :: none :: some (vi (z + b)) :: L) st h := propext ⟨fun q => q.2, fun q => ⟨rfl, q⟩⟩
theorem x7_10i {v0 v1 v2 v3 v4 v5 v6 v7 v8 : Option AV} {u : Int} {z : Int} : exI E d lm RT F K (7, ((10 : Nat) : Int), b, nx, tb) (v0 :: v1 :: v2 :: v3 :: v4 :: v5 :: v6 :: v7 :: v8 :: some (vi u) :: some (vi z) :: L) st h = K nx (v0 :: v1 :: v2 :: v3 :: v4 :: v5 :: v6 :: v7 :: v8 :: some (vi u) :: some (vi (z + b)) :: L) st h := propext ⟨fun q => q.2, fun q => ⟨rfl, q⟩⟩
theorem x7_10r {v0 v1 v2 v3 v4 v5 v6 v7 v8 : Option AV} {u : Int} {z : Int} : exI E d lm RT F K (7, ((10 : Nat) : Int), b, nx, tb) (v0 :: v1 :: v2 :: v3 :: v4 :: v5 :: v6 :: v7 :: v8 :: some (vr u) :: some (vi z) :: L) st h = K nx (v0 :: v1 :: v2 :: v3 :: v4 :: v5 :: v6 :: v7 :: v8 :: some (vr u) :: some (vi (z + b)) :: L) st h := propext ⟨fun q => q.2, fun q => ⟨rfl, q⟩⟩
theorem x7_11n {v0 v1 v2 v3 v4 v5 v6 v7 v8 v9 : Option AV} {z : Int} : exI E d lm RT F K (7, ((11 : Nat) : Int), b, nx, tb) (v0 :: v1 :: v2 :: v3 :: v4 :: v5 :: v6 :: v7 :: v8 :: v9 :: none :: some (vi z) :: L) st h = K nx (v0 :: v1 :: v2 :: v3 :: v4 :: v5 :: v6 :: v7 :: v8 :: v9 :: none :: some (vi (z + b)) :: L) st h := propext ⟨fun q => q.2, fun q => ⟨rfl, q⟩⟩
theorem x7_11i {v0 v1 v2 v3 v4 v5 v6 v7 v8 v9 : Option AV} {u : Int} {z : Int} : exI E d lm RT F K (7, ((11 : Nat) : Int), b, nx, tb) (v0 :: v1 :: v2 :: v3 :: v4 :: v5 :: v6 :: v7 :: v8 :: v9 :: some (vi u) :: some (vi z) :: L) st h = K nx (v0 :: v1 :: v2 :: v3 :: v4 :: v5 :: v6 :: v7 :: v8 :: v9 :: some (vi u) :: some (vi (z + b)) :: L) st h := propext ⟨fun q => q.2, fun q => ⟨rfl, q⟩⟩
theorem x7_11r {v0 v1 v2 v3 v4 v5 v6 v7 v8 v9 : Option AV} {u : Int} {z : Int} : exI E d lm RT F K (7, ((11 : Nat) : Int), b, nx, tb) (v0 :: v1 :: v2 :: v3 :: v4 :: v5 :: v6 :: v7 :: v8 :: v9 :: some (vr u) :: some (vi z) :: L) st h = K nx (v0 :: v1 :: v2 :: v3 :: v4 :: v5 :: v6 :: v7 :: v8 :: v9 :: some (vr u) :: some (vi (z + b)) :: L) st h := propext ⟨fun q => q.2, fun q => ⟨rfl, q⟩⟩
theorem x8 {x y : Int} : exI E d lm RT F K (8, a, b, nx, tb) L (vi y :: vi x :: st) h = K nx L (vi (x + y) :: st) h := propext Iff.rfl
theorem x9 {x y : Int} : exI E d lm RT F K (9, a, b, nx, tb) L (vi y :: vi x :: st) h = K nx L (vi (x - y) :: st) h := propext Iff.rfl
theorem x10 {x y : Int} : exI E d lm RT F K (10, a, b, nx, tb) L (vi y :: vi x :: st) h = K nx L (vi (x * y) :: st) h := propext Iff.rfl
theorem x13 {x y : Int} : exI E d lm RT F K (13, a, b, nx, tb) L (vi y :: vi x :: st) h = K nx L (vi (ian x y) :: st) h := propext Iff.rfl
theorem x14 {x y : Int} : exI E d lm RT F K (14, a, b, nx, tb) L (vi y :: vi x :: st) h = K nx L (vi (ior x y) :: st) h := propext Iff.rfl
theorem x15 {x y : Int} : exI E d lm RT F K (15, a, b, nx, tb) L (vi y :: vi x :: st) h = K nx L (vi (ixo x y) :: st) h := propext Iff.rfl
theorem x16 {x y : Int} : exI E d lm RT F K (16, a, b, nx, tb) L (vi y :: vi x :: st) h = K nx L (vi (isl x y) :: st) h := propext Iff.rfl
theorem x17 {x y : Int} : exI E d lm RT F K (17, a, b, nx, tb) L (vi y :: vi x :: st) h = K nx L (vi (isr x y) :: st) h := propext Iff.rfl
theorem x18 {x y : Int} : exI E d lm RT F K (18, a, b, nx, tb) L (vi y :: vi x :: st) h = K nx L (vi (ius x y) :: st) h := propext Iff.rfl
theorem x19 {x y : Int} : exI E d lm RT F K (19, a, b, nx, tb) L (vl y :: vl x :: st) h = K nx L (vl (x + y) :: st) h := propext Iff.rfl
theorem x20 {x y : Int} : exI E d lm RT F K (20, a, b, nx, tb) L (vl y :: vl x :: st) h = K nx L (vl (x - y) :: st) h := propext Iff.rfl
theorem x21 {x y : Int} : exI E d lm RT F K (21, a, b, nx, tb) L (vl y :: vl x :: st) h = K nx L (vl (x * y) :: st) h := propext Iff.rfl
theorem z3_div {x y : Int} (h1 : 0 ≤ x) (h2 : x < 2147483648) (h3 : 0 < y) (h4 : y < 2147483648) : idv x y = x / y := by
  unfold idv
  rw [Int32.toInt_div, z3_int (by omega) h2, z3_int (by omega) h4, Int.tdiv_eq_ediv_of_nonneg h1]
  have hq : 0 ≤ x / y := Int.ediv_nonneg h1 (by omega)
  have hq2 : x / y ≤ x := Int.ediv_le_self y h1
  have := z3_int (z := x / y) (by omega) (by omega)
  unfold z3 at this
  rw [Int32.toInt_ofInt] at this
  exact this
theorem z3_rem {x y : Int} (h1 : 0 ≤ x) (h2 : x < 2147483648) (h3 : 0 < y) (h4 : y < 2147483648) : irm x y = x % y := by
  have hd := z3_div h1 h2 h3 h4
  unfold idv at hd
  have e1 : z3 x / z3 y = z3 (x / y) := by rw [← hd, z3_toInt]
  unfold irm
  have hq : 0 ≤ x % y := Int.emod_nonneg x (by omega)
  have hq2 : x % y < y := Int.emod_lt_of_pos x h3
  rw [e1, z3_mul, z3_sub, z3_int]
  · have := Int.emod_add_mul_ediv x y
    rw [Int.mul_comm] at this
    omega
  · have := Int.emod_add_mul_ediv x y
    rw [Int.mul_comm] at this
    omega
  · have := Int.emod_add_mul_ediv x y
    rw [Int.mul_comm] at this
    omega
theorem z6_div {x y : Int} (h1 : 0 ≤ x) (h2 : x < 9223372036854775808) (h3 : 0 < y) (h4 : y < 9223372036854775808) : ldv x y = x / y := by
  unfold ldv
  rw [Int64.toInt_div, z6_int (by omega) h2, z6_int (by omega) h4, Int.tdiv_eq_ediv_of_nonneg h1]
  have hq : 0 ≤ x / y := Int.ediv_nonneg h1 (by omega)
  have hq2 : x / y ≤ x := Int.ediv_le_self y h1
  have := z6_int (z := x / y) (by omega) (by omega)
  unfold z6 at this
  rw [Int64.toInt_ofInt] at this
  exact this
theorem z6_rem {x y : Int} (h1 : 0 ≤ x) (h2 : x < 9223372036854775808) (h3 : 0 < y) (h4 : y < 9223372036854775808) : lrm x y = x % y := by
  have hd := z6_div h1 h2 h3 h4
  unfold ldv at hd
  have e1 : z6 x / z6 y = z6 (x / y) := by rw [← hd, z6_toInt]
  unfold lrm
  have hq : 0 ≤ x % y := Int.emod_nonneg x (by omega)
  have hq2 : x % y < y := Int.emod_lt_of_pos x h3
  rw [e1, z6_mul, z6_sub, z6_int]
  · have := Int.emod_add_mul_ediv x y
    rw [Int.mul_comm] at this
    omega
  · have := Int.emod_add_mul_ediv x y
    rw [Int.mul_comm] at this
    omega
  · have := Int.emod_add_mul_ediv x y
    rw [Int.mul_comm] at this
    omega
theorem z3_ne0 {y : Int} (h3 : 0 < y) (h4 : y < 2147483648) : ¬ z3 y = 0 := by
  have h : (z3 y = z3 0) = (y = 0) := z3_eq (by omega) (by omega)
  intro q
  have : z3 y = z3 0 := q
  rw [h] at this
  omega
theorem z6_ne0 {y : Int} (h3 : 0 < y) (h4 : y < 9223372036854775808) : ¬ z6 y = 0 := by
  intro q
  have h1 := z6_int (z := y) (by omega) h4
  rw [q] at h1
  have h2 : (0 : Int64).toInt = 0 := rfl
  omega
theorem x11 {x y : Int} (h1 : 0 ≤ x) (h2 : x < 2147483648) (h3 : 0 < y) (h4 : y < 2147483648) : exI E d lm RT F K (11, a, b, nx, tb) L (vi y :: vi x :: st) h = K nx L (vi (x / y) :: st) h := by
  rw [← z3_div h1 h2 h3 h4]
  exact propext ⟨fun q => q.2, fun q => ⟨z3_ne0 h3 h4, q⟩⟩
theorem x12 {x y : Int} (h1 : 0 ≤ x) (h2 : x < 2147483648) (h3 : 0 < y) (h4 : y < 2147483648) : exI E d lm RT F K (12, a, b, nx, tb) L (vi y :: vi x :: st) h = K nx L (vi (x % y) :: st) h := by
  rw [← z3_rem h1 h2 h3 h4]
  exact propext ⟨fun q => q.2, fun q => ⟨z3_ne0 h3 h4, q⟩⟩
theorem x22 {x y : Int} (h1 : 0 ≤ x) (h2 : x < 9223372036854775808) (h3 : 0 < y) (h4 : y < 9223372036854775808) : exI E d lm RT F K (22, a, b, nx, tb) L (vl y :: vl x :: st) h = K nx L (vl (x / y) :: st) h := by
  rw [← z6_div h1 h2 h3 h4]
  exact propext ⟨fun q => q.2, fun q => ⟨z6_ne0 h3 h4, q⟩⟩
theorem x23 {x y : Int} (h1 : 0 ≤ x) (h2 : x < 9223372036854775808) (h3 : 0 < y) (h4 : y < 9223372036854775808) : exI E d lm RT F K (23, a, b, nx, tb) L (vl y :: vl x :: st) h = K nx L (vl (x % y) :: st) h := by
  rw [← z6_rem h1 h2 h3 h4]
  exact propext ⟨fun q => q.2, fun q => ⟨z6_ne0 h3 h4, q⟩⟩
/-- compare of longs -/
def cmpz (x y : Int) : Int := if y < x then 1 else if x = y then 0 else -1
theorem lcp_eq {x y : Int} (hx : -9223372036854775808 ≤ x ∧ x < 9223372036854775808) (hy : -9223372036854775808 ≤ y ∧ y < 9223372036854775808) : lcp x y = cmpz x y := by
  unfold lcp cmpz lg_cmp
  have h1 : (z6 x > z6 y) = (y < x) := by
    show (z6 y < z6 x) = _
    rw [Int64.lt_iff_toInt_lt, z6_int hx.1 hx.2, z6_int hy.1 hy.2]
  have h2 : (z6 x = z6 y) = (x = y) := by
    rw [← Int64.toInt_inj, z6_int hx.1 hx.2, z6_int hy.1 hy.2]
  simp only [h1, h2]
  split
  · rfl
  · split <;> rfl
theorem x24 {x y : Int} (hx : -9223372036854775808 ≤ x ∧ x < 9223372036854775808) (hy : -9223372036854775808 ≤ y ∧ y < 9223372036854775808) : exI E d lm RT F K (24, a, b, nx, tb) L (vl y :: vl x :: st) h = K nx L (vi (cmpz x y) :: st) h := by
  rw [← lcp_eq hx hy]; rfl
theorem x25 {x : Int} (hx : -2147483648 ≤ x ∧ x < 2147483648) : exI E d lm RT F K (25, a, b, nx, tb) L (vi x :: st) h = K nx L (vl x :: st) h := by
  have : i2l x = x := by
    unfold i2l
    rw [Int32.toInt_toInt64, z3_int hx.1 hx.2]
  show K nx L (vl (i2l x) :: st) h = _
  rw [this]
theorem x26 {x : Int} (hx : -2147483648 ≤ x ∧ x < 2147483648) : exI E d lm RT F K (26, a, b, nx, tb) L (vl x :: st) h = K nx L (vi x :: st) h := by
  have : l2i x = x := by
    unfold l2i
    have h1 : (z6 x).toInt32 = z3 x := by
      unfold z6 z3
      exact Int64.toInt32_ofInt
    rw [h1, z3_int hx.1 hx.2]
  show K nx L (vi (l2i x) :: st) h = _
  rw [this]
theorem x27 : exI E d lm RT F K (27, a, b, nx, tb) L st h = K nx L (vl a :: st) h := propext Iff.rfl
theorem x28i {z : Int} : exI E d lm RT F K (28, a, b, nx, tb) L (vi z :: st) h = K nx L (vi z :: vi z :: st) h := propext ⟨fun q => q.2, fun q => ⟨rfl, q⟩⟩
theorem x28r {z : Int} : exI E d lm RT F K (28, a, b, nx, tb) L (vr z :: st) h = K nx L (vr z :: vr z :: st) h := propext ⟨fun q => q.2, fun q => ⟨rfl, q⟩⟩
theorem x29 {y z : Int} : exI E d lm RT F K (29, a, b, nx, tb) L (vi y :: vr z :: st) h = K nx L (vi y :: vr z :: vi y :: vr z :: st) h := propext ⟨fun q => q.2.2, fun q => ⟨rfl, rfl, q⟩⟩
theorem x30 {z : Int} : exI E d lm RT F K (30, a, b, nx, tb) L (vi z :: st) h = K nx L st h := propext ⟨fun q => q.2, fun q => ⟨rfl, q⟩⟩
theorem x32_0 {x y : Int} {t : Nat} (hx : -2147483648 ≤ x ∧ x < 2147483648) (hy : -2147483648 ≤ y ∧ y < 2147483648) : exI E d lm RT F K (32, 0, ((t : Nat) : Int), nx, tb) L (vi y :: vi x :: st) h = ((x = y → K t L st h) ∧ (¬ (x = y) → K nx L st h)) := by
  have e : ccp 0 x y = (x = y) := z3_eq hx hy
  show ((ccp 0 x y → K ((t : Nat) : Int).toNat L st h) ∧ (¬ ccp 0 x y → K nx L st h)) = _
  rw [e, Int.toNat_natCast]
theorem x31_0 {x : Int} {t : Nat} (hx : -2147483648 ≤ x ∧ x < 2147483648) : exI E d lm RT F K (31, 0, ((t : Nat) : Int), nx, tb) L (vi x :: st) h = ((x = 0 → K t L st h) ∧ (¬ (x = 0) → K nx L st h)) := by
  have hy : -2147483648 ≤ (0 : Int) ∧ (0 : Int) < 2147483648 := by omega
  have e : ccp 0 x 0 = (x = 0) := z3_eq hx hy
  show ((ccp 0 x 0 → K ((t : Nat) : Int).toNat L st h) ∧ (¬ ccp 0 x 0 → K nx L st h)) = _
  rw [e, Int.toNat_natCast]
theorem x32_1 {x y : Int} {t : Nat} (hx : -2147483648 ≤ x ∧ x < 2147483648) (hy : -2147483648 ≤ y ∧ y < 2147483648) : exI E d lm RT F K (32, 1, ((t : Nat) : Int), nx, tb) L (vi y :: vi x :: st) h = ((¬ x = y → K t L st h) ∧ (¬ (¬ x = y) → K nx L st h)) := by
  have e : ccp 1 x y = (¬ x = y) := congrArg Not (z3_eq hx hy)
  show ((ccp 1 x y → K ((t : Nat) : Int).toNat L st h) ∧ (¬ ccp 1 x y → K nx L st h)) = _
  rw [e, Int.toNat_natCast]
theorem x31_1 {x : Int} {t : Nat} (hx : -2147483648 ≤ x ∧ x < 2147483648) : exI E d lm RT F K (31, 1, ((t : Nat) : Int), nx, tb) L (vi x :: st) h = ((¬ x = 0 → K t L st h) ∧ (¬ (¬ x = 0) → K nx L st h)) := by
  have hy : -2147483648 ≤ (0 : Int) ∧ (0 : Int) < 2147483648 := by omega
  have e : ccp 1 x 0 = (¬ x = 0) := congrArg Not (z3_eq hx hy)
  show ((ccp 1 x 0 → K ((t : Nat) : Int).toNat L st h) ∧ (¬ ccp 1 x 0 → K nx L st h)) = _
  rw [e, Int.toNat_natCast]
theorem x32_2 {x y : Int} {t : Nat} (hx : -2147483648 ≤ x ∧ x < 2147483648) (hy : -2147483648 ≤ y ∧ y < 2147483648) : exI E d lm RT F K (32, 2, ((t : Nat) : Int), nx, tb) L (vi y :: vi x :: st) h = ((x < y → K t L st h) ∧ (¬ (x < y) → K nx L st h)) := by
  have e : ccp 2 x y = (x < y) := z3_lt hx hy
  show ((ccp 2 x y → K ((t : Nat) : Int).toNat L st h) ∧ (¬ ccp 2 x y → K nx L st h)) = _
  rw [e, Int.toNat_natCast]
theorem x31_2 {x : Int} {t : Nat} (hx : -2147483648 ≤ x ∧ x < 2147483648) : exI E d lm RT F K (31, 2, ((t : Nat) : Int), nx, tb) L (vi x :: st) h = ((x < 0 → K t L st h) ∧ (¬ (x < 0) → K nx L st h)) := by
  have hy : -2147483648 ≤ (0 : Int) ∧ (0 : Int) < 2147483648 := by omega
  have e : ccp 2 x 0 = (x < 0) := z3_lt hx hy
  show ((ccp 2 x 0 → K ((t : Nat) : Int).toNat L st h) ∧ (¬ ccp 2 x 0 → K nx L st h)) = _
  rw [e, Int.toNat_natCast]
theorem x32_3 {x y : Int} {t : Nat} (hx : -2147483648 ≤ x ∧ x < 2147483648) (hy : -2147483648 ≤ y ∧ y < 2147483648) : exI E d lm RT F K (32, 3, ((t : Nat) : Int), nx, tb) L (vi y :: vi x :: st) h = ((y ≤ x → K t L st h) ∧ (¬ (y ≤ x) → K nx L st h)) := by
  have e : ccp 3 x y = (y ≤ x) := z3_le hy hx
  show ((ccp 3 x y → K ((t : Nat) : Int).toNat L st h) ∧ (¬ ccp 3 x y → K nx L st h)) = _
  rw [e, Int.toNat_natCast]
theorem x31_3 {x : Int} {t : Nat} (hx : -2147483648 ≤ x ∧ x < 2147483648) : exI E d lm RT F K (31, 3, ((t : Nat) : Int), nx, tb) L (vi x :: st) h = ((0 ≤ x → K t L st h) ∧ (¬ (0 ≤ x) → K nx L st h)) := by
  have hy : -2147483648 ≤ (0 : Int) ∧ (0 : Int) < 2147483648 := by omega
  have e : ccp 3 x 0 = (0 ≤ x) := z3_le hy hx
  show ((ccp 3 x 0 → K ((t : Nat) : Int).toNat L st h) ∧ (¬ ccp 3 x 0 → K nx L st h)) = _
  rw [e, Int.toNat_natCast]
theorem x32_4 {x y : Int} {t : Nat} (hx : -2147483648 ≤ x ∧ x < 2147483648) (hy : -2147483648 ≤ y ∧ y < 2147483648) : exI E d lm RT F K (32, 4, ((t : Nat) : Int), nx, tb) L (vi y :: vi x :: st) h = ((y < x → K t L st h) ∧ (¬ (y < x) → K nx L st h)) := by
  have e : ccp 4 x y = (y < x) := z3_lt hy hx
  show ((ccp 4 x y → K ((t : Nat) : Int).toNat L st h) ∧ (¬ ccp 4 x y → K nx L st h)) = _
  rw [e, Int.toNat_natCast]
theorem x31_4 {x : Int} {t : Nat} (hx : -2147483648 ≤ x ∧ x < 2147483648) : exI E d lm RT F K (31, 4, ((t : Nat) : Int), nx, tb) L (vi x :: st) h = ((0 < x → K t L st h) ∧ (¬ (0 < x) → K nx L st h)) := by
  have hy : -2147483648 ≤ (0 : Int) ∧ (0 : Int) < 2147483648 := by omega
  have e : ccp 4 x 0 = (0 < x) := z3_lt hy hx
  show ((ccp 4 x 0 → K ((t : Nat) : Int).toNat L st h) ∧ (¬ ccp 4 x 0 → K nx L st h)) = _
  rw [e, Int.toNat_natCast]
theorem x32_5 {x y : Int} {t : Nat} (hx : -2147483648 ≤ x ∧ x < 2147483648) (hy : -2147483648 ≤ y ∧ y < 2147483648) : exI E d lm RT F K (32, 5, ((t : Nat) : Int), nx, tb) L (vi y :: vi x :: st) h = ((x ≤ y → K t L st h) ∧ (¬ (x ≤ y) → K nx L st h)) := by
  have e : ccp 5 x y = (x ≤ y) := z3_le hx hy
  show ((ccp 5 x y → K ((t : Nat) : Int).toNat L st h) ∧ (¬ ccp 5 x y → K nx L st h)) = _
  rw [e, Int.toNat_natCast]
theorem x31_5 {x : Int} {t : Nat} (hx : -2147483648 ≤ x ∧ x < 2147483648) : exI E d lm RT F K (31, 5, ((t : Nat) : Int), nx, tb) L (vi x :: st) h = ((x ≤ 0 → K t L st h) ∧ (¬ (x ≤ 0) → K nx L st h)) := by
  have hy : -2147483648 ≤ (0 : Int) ∧ (0 : Int) < 2147483648 := by omega
  have e : ccp 5 x 0 = (x ≤ 0) := z3_le hx hy
  show ((ccp 5 x 0 → K ((t : Nat) : Int).toNat L st h) ∧ (¬ ccp 5 x 0 → K nx L st h)) = _
  rw [e, Int.toNat_natCast]
theorem x31b0 {p : Prop} [Decidable p] {t : Nat} : exI E d lm RT F K (31, 0, ((t : Nat) : Int), nx, tb) L (vi (b2 p) :: st) h = ((¬ p → K t L st h) ∧ (p → K nx L st h)) := by
  rw [x31_0 (by have := b2_rng p; omega), b2_eq0]
  simp only [Classical.not_not]
theorem x31b1 {p : Prop} [Decidable p] {t : Nat} : exI E d lm RT F K (31, 1, ((t : Nat) : Int), nx, tb) L (vi (b2 p) :: st) h = ((p → K t L st h) ∧ (¬ p → K nx L st h)) := by
  rw [x31_1 (by have := b2_rng p; omega), b2_eq0]
  simp only [Classical.not_not]
theorem x33 {t : Nat} : exI E d lm RT F K (33, ((t : Nat) : Int), b, nx, tb) L st h = K t L st h := by
  show K ((t : Nat) : Int).toNat L st h = _
  rw [Int.toNat_natCast]
def tsw (K : KT) (L : LV) (st : List AV) (h : AH) (x : Int) : Int → List Nat → Prop
  | _, [] => True
  | k, t :: ts => (x = k → K t L st h) ∧ tsw K L st h x (k + 1) ts
theorem tsw_all {x : Int} : ∀ (ts : List Nat) (lo : Int), tsw K L st h x lo ts ↔ ∀ (k : Nat) (t : Nat), ts[k]? = some t → x = lo + k → K t L st h := by
  intro ts
  induction ts with
  | nil => intro lo; simp [tsw]
  | cons t ts ih =>
    intro lo
    simp only [tsw, ih]
    constructor
    · rintro ⟨h1, h2⟩ k t' hk hx
      rcases k with _ | k
      · simp at hk
        subst hk
        exact h1 (by simpa using hx)
      · simp at hk
        exact h2 k t' hk (by omega)
    · intro h1
      exact ⟨fun hx => h1 0 t rfl (by simpa using hx), fun k t' hk hx => h1 (k + 1) t' (by simpa using hk) (by omega)⟩
theorem x34 {x : Int} {t : Nat} (hx : -2147483648 ≤ x ∧ x < 2147483648) : exI E d lm RT F K (34, a, ((t : Nat) : Int), nx, tb) L (vi x :: st) h = ((x < a ∨ a + tb.length ≤ x → K t L st h) ∧ tsw K L st h x a tb) := by
  show (((z3 x).toInt < a ∨ a + tb.length ≤ (z3 x).toInt → K ((t : Nat) : Int).toNat L st h) ∧ (∀ (k : Nat) (t : Nat), tb[k]? = some t → (z3 x).toInt = a + k → K t L st h)) = _
  rw [Int.toNat_natCast, z3_int hx.1 hx.2]
  exact propext ⟨fun q => ⟨q.1, (tsw_all tb a).mpr q.2⟩, fun q => ⟨q.1, (tsw_all tb a).mp q.2⟩⟩
theorem x45 {j na : Nat} {r : AV} {L : LV} : ∀ {as rest : List AV}, as.length = na → F j as.reverse h = some r → rest.length ≤ 4 → exI E d lm RT F K (45, ((j : Nat) : Int), ((na : Nat) : Int), nx, tb) L (as ++ rest) h = K nx L (r :: rest) h := by
  intro as rest h1 h2 h3
  show (((na : Nat) : Int).toNat ≤ (as ++ rest).length ∧ (match F ((j : Nat) : Int).toNat ((as ++ rest).take ((na : Nat) : Int).toNat).reverse h with | some r => ((as ++ rest).drop ((na : Nat) : Int).toNat).length ≤ 4 ∧ K nx L (r :: (as ++ rest).drop ((na : Nat) : Int).toNat) h | none => False)) = _
  rw [Int.toNat_natCast, Int.toNat_natCast, ← h1, List.take_left, List.drop_left, h2]
  exact propext ⟨fun q => q.2.2, fun q => ⟨by simp, h3, q⟩⟩
theorem x52 {j na ci : Nat} {r : AV} {L : LV} {c : Int} : ∀ {as rest : List AV}, as.length + 1 = na → isOb h c ci → F j (vr c :: as.reverse) h = some r → rest.length ≤ 4 → exI E d lm RT F K (52, ((j : Nat) : Int), ((na : Nat) : Int), nx, [ci]) L (as ++ vr c :: rest) h = K nx L (r :: rest) h := by
  intro as rest h1 h0 h2 h3
  generalize hS : as ++ vr c :: rest = S
  show (match S[((na : Nat) : Int).toNat - 1]? with | some (.inr (.inr (some c))) => isOb h c ci ∧ (match F ((j : Nat) : Int).toNat (S.take ((na : Nat) : Int).toNat).reverse h with | some r => (S.drop ((na : Nat) : Int).toNat).length ≤ 4 ∧ K nx L (r :: S.drop ((na : Nat) : Int).toNat) h | none => False) | _ => False) = _
  rw [Int.toNat_natCast, Int.toNat_natCast, ← h1, ← hS]
  have e1 : (as ++ vr c :: rest)[as.length + 1 - 1]? = some (vr c) := by simp
  have e2 : ((as ++ vr c :: rest).take (as.length + 1)).reverse = vr c :: as.reverse := by simp [List.take_append, List.take_of_length_le]
  have e3 : (as ++ vr c :: rest).drop (as.length + 1) = rest := by simp [List.drop_append]
  rw [e1, e2, e3]
  dsimp only
  rw [h2]
  exact propext ⟨fun q => q.2.2, fun q => ⟨h0, h3, q⟩⟩
theorem x48_0 {z : Int} : exI E d lm RT F K (48, 0, b, nx, tb) L [vi z] h = RT (some (vi z)) h := propext Iff.rfl
theorem x48_1 {z : Int} : exI E d lm RT F K (48, 1, b, nx, tb) L [vi z] h = ((z = 0 ∨ z = 1) ∧ RT (some (vi z)) h) := propext Iff.rfl
theorem x48_2 {z : Int} : exI E d lm RT F K (48, 2, b, nx, tb) L [vl z] h = RT (some (vl z)) h := propext Iff.rfl
theorem x48_3 {z : Int} : exI E d lm RT F K (48, 3, b, nx, tb) L [vr z] h = RT (some (vr z)) h := propext Iff.rfl
theorem x48_4 : exI E d lm RT F K (48, 4, b, nx, tb) L [] h = RT none h := propext Iff.rfl
end RU
