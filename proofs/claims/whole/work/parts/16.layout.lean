/-! ===== the layout: where each cell lies once both objects are made; the state is a function of cell and place ===== -/
abbrev Mem : Type := Int → Int → Int
def up2 (M : Mem) (c i v : Int) : Mem := fun c' i' => if c' = c ∧ i' = i then v else M c' i'
theorem up2_eq {M : Mem} {c i v : Int} : up2 M c i v c i = v := by simp [up2]
theorem up2_ne {M : Mem} {c i v c' i' : Int} (h : ¬ (c' = c ∧ i' = i)) : up2 M c i v c' i' = M c' i' := by simp [up2, h]
theorem up2_c {M : Mem} {c i v c' i' : Int} (h : c' ≠ c) : up2 M c i v c' i' = M c' i' := by simp [up2, h]
theorem up2_i {M : Mem} {c i v i' : Int} (h : i' ≠ i) : up2 M c i v c i' = M c i' := by simp [up2, h]
theorem up2_up2 {M : Mem} {c i v w : Int} : up2 (up2 M c i v) c i w = up2 M c i w := by
  funext a b
  simp only [up2]
  split <;> simp_all
/-- kind (10 and more: an object of a class), length -/
def shp (c : Int) : Option (Nat × Int) :=
  if 17 ≤ c ∧ c < 209 then (if (c - 17) % 3 = 0 then some (15, 0) else some (0, 8))
  else if 209 ≤ c ∧ c < 245 then (if (c - 209) % 3 = 0 then some (17, 0) else some (0, 8))
  else if 0 ≤ c ∧ c < 17 then ([(18, 0), (13, 0), (0, 16), (0, 16), (0, 16), (0, 8), (0, 8), (3, 64), (16, 0), (2, 8), (0, 8), (2, 8), (4, 12), (5, 3), (10, 0), (0, 8), (0, 8)] : List (Nat × Int))[c.toNat]?
  else if 245 ≤ c then ([(14, 0), (12, 0), (11, 0), (19, 0), (1, 16), (0, 16), (0, 16), (0, 16), (0, 64), (0, 512), (2, 8), (2, 8), (0, 8), (1, 12), (0, 12), (0, 12), (0, 12), (1, 12), (0, 12), (0, 12), (0, 12), (0, 12), (0, 12), (0, 96), (0, 96), (0, 12), (0, 64), (0, 512), (0, 9), (0, 64)] : List (Nat × Int))[(c - 245).toNat]?
  else none
def objF : Nat → Int → (Int → Int) → List AV
  | 0, c, m => [vi (m 0), vi (m 1)]
  | 3, c, m => [vr (c + 1), vr (c + 2), vr (c + 3), vr (c + 4), vr (c + 5), vi (m 5)]
  | 5, c, m => [vr (c + 1), vr (c + 2), vi (m 2), vi (m 3), vi (m 4)]
  | 6, c, m => [vr (c + 1), vr (c + 2), vr (c + 3)]
  | 7, c, m => [vr (c + 1), vr (c + 2), vi (m 2), vi (m 3), vi (m 4), vi (m 5), vi (m 6), vi (m 7), vi (m 8), vi (m 9), vi (m 10), vi (m 11), vi (m 12)]
  | 8, c, m => [vr (c + 1), vr (c + 7), vr (c + 8), vr (c + 12), vr (c + 13), vr (c + 14), vr (c + 15), vr (c + 16), vi (m 8), vi (m 9), vi (m 10), vi (m 11), vi (m 12), vi (m 13)]
  | 9, c, m => [vr (c + 1), vr (c + 2), vr (c + 3), vr (c + 4), vr (c + 5), vr (c + 6), vi (m 6), vi (m 7), vr (c + 7), vr (c + 8), vr (c + 9), vi (m 11), vi (m 12), vi (m 13), vi (m 14), vi (m 15), vi (m 16), vr (c + 10), vr (c + 11), vr (c + 12), vr (c + 13), vr (c + 14), vr (c + 15), vr (c + 16), vr (c + 17), vr (c + 18), vr (c + 19), vr (c + 20), vr (c + 21), vr (c + 22), vr (c + 23), vr (c + 24), vr (c + 25), vr (c + 26)]
  | _, _, _ => []
def arrF (k : Nat) (m : Int → Int) : Int → AV := match k with
  | 2 => fun i => vl (m i)
  | 3 => fun i => vr (17 + 3 * i)
  | 4 => fun i => vr (209 + 3 * i)
  | 5 => fun i => vr (245 + i)
  | _ => fun i => vi (m i)
def celF (M : Mem) (c : Int) : Option AC := match shp c with
  | none => none
  | some (k, n) => if 10 ≤ k then some (.inr (k - 10, objF (k - 10) c (M c))) else some (.inl (k, n, arrF k (M c)))
/-- the script's length and ints -/
abbrev SCR : Type := Int × (Int → Int)
def toAH (S : SCR) (M : Mem) : AH := (275, 3571, fun c => if c = -1 then some (.inl (9, S.1, fun i => vi (S.2 i))) else celF M c)
theorem toAH_at {S : SCR} {M : Mem} {c : Int} (h : 0 ≤ c) : (toAH S M).2.2 c = celF M c := by
  show (if c = -1 then _ else celF M c) = _
  rw [if_neg (by omega)]
theorem cel_ob {M : Mem} {c : Int} {k : Nat} (h : shp c = some (k, 0)) (hk : 10 ≤ k) : celF M c = some (.inr (k - 10, objF (k - 10) c (M c))) := by
  unfold celF
  rw [h]
  simp [hk]
theorem cel_ar {M : Mem} {c n : Int} {k : Nat} (h : shp c = some (k, n)) (hk : k < 10) : celF M c = some (.inl (k, n, arrF k (M c))) := by
  unfold celF
  rw [h]
  simp [Nat.not_le.mpr hk]
theorem celF_up {M : Mem} {c i v c' : Int} (h : c' ≠ c) : celF (up2 M c i v) c' = celF M c' := by
  have e : up2 M c i v c' = M c' := by
    funext j
    exact up2_c h
  unfold celF
  rw [e]
theorem set_toAH {S : SCR} {M : Mem} {c i v : Int} {x : AC} (h0 : 0 ≤ c) (hx : celF (up2 M c i v) c = some x) : hset (toAH S M) c x = toAH S (up2 M c i v) := by
  unfold hset toAH
  refine Prod.ext rfl (Prod.ext rfl ?_)
  funext c'
  dsimp only
  by_cases h1 : c' = c
  · subst h1
    rw [if_pos rfl, if_neg (by omega), hx]
  · rw [if_neg h1]
    by_cases h2 : c' = -1
    · rw [if_pos h2, if_pos h2]
    · rw [if_neg h2, if_neg h2, celF_up h1]
theorem shp_row {z : Int} (h1 : 0 ≤ z) (h2 : z < 64) : shp (17 + 3 * z) = some (15, 0) := by
  unfold shp
  rw [if_pos (by omega), if_pos (by omega)]
theorem shp_row1 {z : Int} (h1 : 0 ≤ z) (h2 : z < 64) : shp (18 + 3 * z) = some (0, 8) := by
  unfold shp
  rw [if_pos (by omega), if_neg (by omega)]
theorem shp_row2 {z : Int} (h1 : 0 ≤ z) (h2 : z < 64) : shp (19 + 3 * z) = some (0, 8) := by
  unfold shp
  rw [if_pos (by omega), if_neg (by omega)]
theorem shp_wal {z : Int} (h1 : 0 ≤ z) (h2 : z < 12) : shp (209 + 3 * z) = some (17, 0) := by
  unfold shp
  rw [if_neg (by omega), if_pos (by omega), if_pos (by omega)]
theorem shp_wal1 {z : Int} (h1 : 0 ≤ z) (h2 : z < 12) : shp (210 + 3 * z) = some (0, 8) := by
  unfold shp
  rw [if_neg (by omega), if_pos (by omega), if_neg (by omega)]
theorem shp_wal2 {z : Int} (h1 : 0 ≤ z) (h2 : z < 12) : shp (211 + 3 * z) = some (0, 8) := by
  unfold shp
  rw [if_neg (by omega), if_pos (by omega), if_neg (by omega)]
section LY
variable {E : ET} {d : Nat} {lm : Nat × Nat} {RT : RTy} {F : FT} {K : KT} {nx : Nat} {a b : Int} {tb : List Nat} {L : LV} {st : List AV} {S : SCR} {M : Mem}
theorem y35 {ci k : Nat} {c : Int} {v : AV} (h0 : 0 ≤ c) (hs : shp c = some (10 + ci, 0)) (hv : (objF ci c (M c))[k]? = some v) : exI E d lm RT F K (35, ((ci : Nat) : Int), ((k : Nat) : Int), nx, tb) L (vr c :: st) (toAH S M) = K nx L (v :: st) (toAH S M) := by
  show (match gfv (toAH S M) c ((ci : Nat) : Int).toNat ((k : Nat) : Int).toNat with | some v => K nx L (v :: st) (toAH S M) | none => False) = _
  have e : gfv (toAH S M) c ci k = some v := by
    unfold gfv
    rw [toAH_at h0, cel_ob hs (by omega), show 10 + ci - 10 = ci by omega]
    simp [hv]
  rw [Int.toNat_natCast, Int.toNat_natCast, e]
theorem y36 {ci k fk : Nat} {c v : Int} (h0 : 0 ≤ c) (hs : shp c = some (10 + ci, 0)) (hv : ∀ m : Int → Int, k < (objF ci c m).length ∧ (objF ci c m).set k (vi v) = objF ci c (fun j => if j = (k : Int) then v else m j)) (hf : fitk fk (vi v)) : exI E d lm RT F K (36, ((ci : Nat) : Int), ((k : Nat) : Int), nx, [fk]) L (vi v :: vr c :: st) (toAH S M) = K nx L st (toAH S (up2 M c (k : Int) v)) := by
  have hc : (toAH S M).2.2 c = some (.inr (ci, objF ci c (M c))) := by rw [toAH_at h0, cel_ob hs (by omega), show 10 + ci - 10 = ci by omega]
  have hset1 : hset (toAH S M) c (.inr (ci, (objF ci c (M c)).set k (vi v))) = toAH S (up2 M c (k : Int) v) := by
    apply set_toAH h0
    rw [cel_ob hs (by omega), show 10 + ci - 10 = ci by omega, (hv (M c)).2, show up2 M c (k : Int) v c = (fun j => if j = (k : Int) then v else M c j) from by funext j; simp [up2]]
  show (fitk fk (vi v) ∧ 0 ≤ c ∧ (match (toAH S M).2.2 c with | some (.inr (ci', fs)) => ci' = ((ci : Nat) : Int).toNat ∧ ((k : Nat) : Int).toNat < fs.length ∧ K nx L st (hset (toAH S M) c (.inr (ci', fs.set ((k : Nat) : Int).toNat (vi v)))) | _ => False)) = _
  rw [Int.toNat_natCast, Int.toNat_natCast, hc]
  dsimp only
  rw [hset1]
  exact propext ⟨fun q => q.2.2.2.2, fun q => ⟨hf, h0, rfl, (hv (M c)).1, q⟩⟩
theorem y38 {kd : Nat} {c z n : Int} {a : Int} (ha : a.toNat = kd) (h0 : 0 ≤ c) (hs : shp c = some (kd, n)) (hk : kd < 3) (h1 : 0 ≤ z) (h2 : z < n) : exI E d lm RT F K (38, a, b, nx, tb) L (vi z :: vr c :: st) (toAH S M) = K nx L (arrF kd (M c) z :: st) (toAH S M) := by
  show (match alv (toAH S M) c z a.toNat with | some v => K nx L (v :: st) (toAH S M) | none => False) = _
  have e : alv (toAH S M) c z kd = some (arrF kd (M c) z) := by
    unfold alv
    rw [toAH_at h0, cel_ar hs (by omega)]
    simp [h1, h2]
  rw [ha, e]
theorem y39 {kd : Nat} {c z n v : Int} {a : Int} {w : AV} (ha : a.toNat = kd) (h0 : 0 ≤ c) (hs : shp c = some (kd, n)) (hk : kd < 3) (hw : fitk (min kd 3) w) (hv : ∀ m : Int → Int, updz (arrF kd m) z w = arrF kd (fun j => if j = z then v else m j)) (h1 : 0 ≤ z) (h2 : z < n) : exI E d lm RT F K (39, a, b, nx, tb) L (w :: vi z :: vr c :: st) (toAH S M) = K nx L st (toAH S (up2 M c z v)) := by
  have hc : (toAH S M).2.2 c = some (.inl (kd, n, arrF kd (M c))) := by rw [toAH_at h0, cel_ar hs (by omega)]
  have hset1 : hset (toAH S M) c (.inl (kd, n, updz (arrF kd (M c)) z w)) = toAH S (up2 M c z v) := by
    apply set_toAH h0
    rw [cel_ar hs (by omega), hv (M c), show up2 M c z v c = (fun j => if j = z then v else M c j) from by funext j; simp [up2]]
  show (fitk (min a.toNat 3) w ∧ 0 ≤ c ∧ (match (toAH S M).2.2 c with | some (.inl (k, n, f)) => k = a.toNat ∧ 0 ≤ z ∧ z < n ∧ K nx L st (hset (toAH S M) c (.inl (k, n, updz f z w))) | _ => False)) = _
  rw [ha, hc]
  dsimp only
  rw [hset1]
  exact propext ⟨fun q => q.2.2.2.2.2, fun q => ⟨hw, h0, rfl, h1, h2, q⟩⟩
theorem y39i {c z n v : Int} (h0 : 0 ≤ c) (hs : shp c = some (0, n)) (h1 : 0 ≤ z) (h2 : z < n) : exI E d lm RT F K (39, 0, b, nx, tb) L (vi v :: vi z :: vr c :: st) (toAH S M) = K nx L st (toAH S (up2 M c z v)) := y39 (kd := 0) rfl h0 hs (by omega) trivial (fun m => by funext j; simp only [updz, arrF]; split <;> rfl) h1 h2
theorem y39b {c z n v : Int} (h0 : 0 ≤ c) (hs : shp c = some (1, n)) (hv : v = 0 ∨ v = 1) (h1 : 0 ≤ z) (h2 : z < n) : exI E d lm RT F K (39, 1, b, nx, tb) L (vi v :: vi z :: vr c :: st) (toAH S M) = K nx L st (toAH S (up2 M c z v)) := y39 (kd := 1) rfl h0 hs (by omega) hv (fun m => by funext j; simp only [updz, arrF]; split <;> rfl) h1 h2
theorem y39l {c z n v : Int} (h0 : 0 ≤ c) (hs : shp c = some (2, n)) (h1 : 0 ≤ z) (h2 : z < n) : exI E d lm RT F K (39, 2, b, nx, tb) L (vl v :: vi z :: vr c :: st) (toAH S M) = K nx L st (toAH S (up2 M c z v)) := y39 (kd := 2) rfl h0 hs (by omega) trivial (fun m => by funext j; simp only [updz, arrF]; split <;> rfl) h1 h2
theorem y49 {kd : Nat} {c z n : Int} (h0 : 0 ≤ c) (hs : shp c = some (kd, n)) (hk : 3 ≤ kd ∧ kd ≤ 5) (h1 : 0 ≤ z) (h2 : z < n) : exI E d lm RT F K (49, a, b, nx, tb) L (vi z :: vr c :: st) (toAH S M) = K nx L (arrF kd (M c) z :: st) (toAH S M) := by
  show (match alr (toAH S M) c z with | some v => K nx L (v :: st) (toAH S M) | none => False) = _
  have e : alr (toAH S M) c z = some (arrF kd (M c) z) := by
    unfold alr
    rw [toAH_at h0, cel_ar hs (by omega)]
    simp [h1, h2, hk]
  rw [e]
theorem f8_0 : exI E d lm RT F K (35, ((8 : Nat) : Int), ((0 : Nat) : Int), nx, tb) L (vr 0 :: st) (toAH S M) = K nx L (vr 1 :: st) (toAH S M) := y35 (by omega) rfl rfl
theorem f8_1 : exI E d lm RT F K (35, ((8 : Nat) : Int), ((1 : Nat) : Int), nx, tb) L (vr 0 :: st) (toAH S M) = K nx L (vr 7 :: st) (toAH S M) := y35 (by omega) rfl rfl
theorem f8_2 : exI E d lm RT F K (35, ((8 : Nat) : Int), ((2 : Nat) : Int), nx, tb) L (vr 0 :: st) (toAH S M) = K nx L (vr 8 :: st) (toAH S M) := y35 (by omega) rfl rfl
theorem f8_3 : exI E d lm RT F K (35, ((8 : Nat) : Int), ((3 : Nat) : Int), nx, tb) L (vr 0 :: st) (toAH S M) = K nx L (vr 12 :: st) (toAH S M) := y35 (by omega) rfl rfl
theorem f8_4 : exI E d lm RT F K (35, ((8 : Nat) : Int), ((4 : Nat) : Int), nx, tb) L (vr 0 :: st) (toAH S M) = K nx L (vr 13 :: st) (toAH S M) := y35 (by omega) rfl rfl
theorem f8_5 : exI E d lm RT F K (35, ((8 : Nat) : Int), ((5 : Nat) : Int), nx, tb) L (vr 0 :: st) (toAH S M) = K nx L (vr 14 :: st) (toAH S M) := y35 (by omega) rfl rfl
theorem f8_6 : exI E d lm RT F K (35, ((8 : Nat) : Int), ((6 : Nat) : Int), nx, tb) L (vr 0 :: st) (toAH S M) = K nx L (vr 15 :: st) (toAH S M) := y35 (by omega) rfl rfl
theorem f8_7 : exI E d lm RT F K (35, ((8 : Nat) : Int), ((7 : Nat) : Int), nx, tb) L (vr 0 :: st) (toAH S M) = K nx L (vr 16 :: st) (toAH S M) := y35 (by omega) rfl rfl
theorem f8_8 : exI E d lm RT F K (35, ((8 : Nat) : Int), ((8 : Nat) : Int), nx, tb) L (vr 0 :: st) (toAH S M) = K nx L (vi (M 0 8) :: st) (toAH S M) := y35 (by omega) rfl rfl
theorem p8_8 {v : Int} : exI E d lm RT F K (36, ((8 : Nat) : Int), ((8 : Nat) : Int), nx, [0]) L (vi v :: vr 0 :: st) (toAH S M) = K nx L st (toAH S (up2 M 0 8 v)) := y36 (by omega) rfl (fun m => ⟨by show 8 < 14; decide, rfl⟩) trivial
theorem f8_9 : exI E d lm RT F K (35, ((8 : Nat) : Int), ((9 : Nat) : Int), nx, tb) L (vr 0 :: st) (toAH S M) = K nx L (vi (M 0 9) :: st) (toAH S M) := y35 (by omega) rfl rfl
theorem p8_9 {v : Int} : exI E d lm RT F K (36, ((8 : Nat) : Int), ((9 : Nat) : Int), nx, [0]) L (vi v :: vr 0 :: st) (toAH S M) = K nx L st (toAH S (up2 M 0 9 v)) := y36 (by omega) rfl (fun m => ⟨by show 9 < 14; decide, rfl⟩) trivial
theorem f8_10 : exI E d lm RT F K (35, ((8 : Nat) : Int), ((10 : Nat) : Int), nx, tb) L (vr 0 :: st) (toAH S M) = K nx L (vi (M 0 10) :: st) (toAH S M) := y35 (by omega) rfl rfl
theorem p8_10 {v : Int} : exI E d lm RT F K (36, ((8 : Nat) : Int), ((10 : Nat) : Int), nx, [0]) L (vi v :: vr 0 :: st) (toAH S M) = K nx L st (toAH S (up2 M 0 10 v)) := y36 (by omega) rfl (fun m => ⟨by show 10 < 14; decide, rfl⟩) trivial
theorem f8_11 : exI E d lm RT F K (35, ((8 : Nat) : Int), ((11 : Nat) : Int), nx, tb) L (vr 0 :: st) (toAH S M) = K nx L (vi (M 0 11) :: st) (toAH S M) := y35 (by omega) rfl rfl
theorem p8_11 {v : Int} : exI E d lm RT F K (36, ((8 : Nat) : Int), ((11 : Nat) : Int), nx, [0]) L (vi v :: vr 0 :: st) (toAH S M) = K nx L st (toAH S (up2 M 0 11 v)) := y36 (by omega) rfl (fun m => ⟨by show 11 < 14; decide, rfl⟩) trivial
theorem f8_12 : exI E d lm RT F K (35, ((8 : Nat) : Int), ((12 : Nat) : Int), nx, tb) L (vr 0 :: st) (toAH S M) = K nx L (vi (M 0 12) :: st) (toAH S M) := y35 (by omega) rfl rfl
theorem p8_12 {v : Int} : exI E d lm RT F K (36, ((8 : Nat) : Int), ((12 : Nat) : Int), nx, [0]) L (vi v :: vr 0 :: st) (toAH S M) = K nx L st (toAH S (up2 M 0 12 v)) := y36 (by omega) rfl (fun m => ⟨by show 12 < 14; decide, rfl⟩) trivial
theorem f8_13 : exI E d lm RT F K (35, ((8 : Nat) : Int), ((13 : Nat) : Int), nx, tb) L (vr 0 :: st) (toAH S M) = K nx L (vi (M 0 13) :: st) (toAH S M) := y35 (by omega) rfl rfl
theorem p8_13 {v : Int} : exI E d lm RT F K (36, ((8 : Nat) : Int), ((13 : Nat) : Int), nx, [0]) L (vi v :: vr 0 :: st) (toAH S M) = K nx L st (toAH S (up2 M 0 13 v)) := y36 (by omega) rfl (fun m => ⟨by show 13 < 14; decide, rfl⟩) trivial
theorem f3_0 : exI E d lm RT F K (35, ((3 : Nat) : Int), ((0 : Nat) : Int), nx, tb) L (vr 1 :: st) (toAH S M) = K nx L (vr 2 :: st) (toAH S M) := y35 (by omega) rfl rfl
theorem f3_1 : exI E d lm RT F K (35, ((3 : Nat) : Int), ((1 : Nat) : Int), nx, tb) L (vr 1 :: st) (toAH S M) = K nx L (vr 3 :: st) (toAH S M) := y35 (by omega) rfl rfl
theorem f3_2 : exI E d lm RT F K (35, ((3 : Nat) : Int), ((2 : Nat) : Int), nx, tb) L (vr 1 :: st) (toAH S M) = K nx L (vr 4 :: st) (toAH S M) := y35 (by omega) rfl rfl
theorem f3_3 : exI E d lm RT F K (35, ((3 : Nat) : Int), ((3 : Nat) : Int), nx, tb) L (vr 1 :: st) (toAH S M) = K nx L (vr 5 :: st) (toAH S M) := y35 (by omega) rfl rfl
theorem f3_4 : exI E d lm RT F K (35, ((3 : Nat) : Int), ((4 : Nat) : Int), nx, tb) L (vr 1 :: st) (toAH S M) = K nx L (vr 6 :: st) (toAH S M) := y35 (by omega) rfl rfl
theorem f3_5 : exI E d lm RT F K (35, ((3 : Nat) : Int), ((5 : Nat) : Int), nx, tb) L (vr 1 :: st) (toAH S M) = K nx L (vi (M 1 5) :: st) (toAH S M) := y35 (by omega) rfl rfl
theorem p3_5 {v : Int} : exI E d lm RT F K (36, ((3 : Nat) : Int), ((5 : Nat) : Int), nx, [0]) L (vi v :: vr 1 :: st) (toAH S M) = K nx L st (toAH S (up2 M 1 5 v)) := y36 (by omega) rfl (fun m => ⟨by show 5 < 6; decide, rfl⟩) trivial
theorem f6_0 : exI E d lm RT F K (35, ((6 : Nat) : Int), ((0 : Nat) : Int), nx, tb) L (vr 8 :: st) (toAH S M) = K nx L (vr 9 :: st) (toAH S M) := y35 (by omega) rfl rfl
theorem f6_1 : exI E d lm RT F K (35, ((6 : Nat) : Int), ((1 : Nat) : Int), nx, tb) L (vr 8 :: st) (toAH S M) = K nx L (vr 10 :: st) (toAH S M) := y35 (by omega) rfl rfl
theorem f6_2 : exI E d lm RT F K (35, ((6 : Nat) : Int), ((2 : Nat) : Int), nx, tb) L (vr 8 :: st) (toAH S M) = K nx L (vr 11 :: st) (toAH S M) := y35 (by omega) rfl rfl
theorem f0_0 : exI E d lm RT F K (35, ((0 : Nat) : Int), ((0 : Nat) : Int), nx, tb) L (vr 14 :: st) (toAH S M) = K nx L (vi (M 14 0) :: st) (toAH S M) := y35 (by omega) rfl rfl
theorem p0_0 {v : Int} : exI E d lm RT F K (36, ((0 : Nat) : Int), ((0 : Nat) : Int), nx, [0]) L (vi v :: vr 14 :: st) (toAH S M) = K nx L st (toAH S (up2 M 14 0 v)) := y36 (by omega) rfl (fun m => ⟨by show 0 < 2; decide, rfl⟩) trivial
theorem f0_1 : exI E d lm RT F K (35, ((0 : Nat) : Int), ((1 : Nat) : Int), nx, tb) L (vr 14 :: st) (toAH S M) = K nx L (vi (M 14 1) :: st) (toAH S M) := y35 (by omega) rfl rfl
theorem p0_1 {v : Int} : exI E d lm RT F K (36, ((0 : Nat) : Int), ((1 : Nat) : Int), nx, [0]) L (vi v :: vr 14 :: st) (toAH S M) = K nx L st (toAH S (up2 M 14 1 v)) := y36 (by omega) rfl (fun m => ⟨by show 1 < 2; decide, rfl⟩) trivial
theorem f9_0 : exI E d lm RT F K (35, ((9 : Nat) : Int), ((0 : Nat) : Int), nx, tb) L (vr 248 :: st) (toAH S M) = K nx L (vr 249 :: st) (toAH S M) := y35 (by omega) rfl rfl
theorem f9_1 : exI E d lm RT F K (35, ((9 : Nat) : Int), ((1 : Nat) : Int), nx, tb) L (vr 248 :: st) (toAH S M) = K nx L (vr 250 :: st) (toAH S M) := y35 (by omega) rfl rfl
theorem f9_2 : exI E d lm RT F K (35, ((9 : Nat) : Int), ((2 : Nat) : Int), nx, tb) L (vr 248 :: st) (toAH S M) = K nx L (vr 251 :: st) (toAH S M) := y35 (by omega) rfl rfl
theorem f9_3 : exI E d lm RT F K (35, ((9 : Nat) : Int), ((3 : Nat) : Int), nx, tb) L (vr 248 :: st) (toAH S M) = K nx L (vr 252 :: st) (toAH S M) := y35 (by omega) rfl rfl
theorem f9_4 : exI E d lm RT F K (35, ((9 : Nat) : Int), ((4 : Nat) : Int), nx, tb) L (vr 248 :: st) (toAH S M) = K nx L (vr 253 :: st) (toAH S M) := y35 (by omega) rfl rfl
theorem f9_5 : exI E d lm RT F K (35, ((9 : Nat) : Int), ((5 : Nat) : Int), nx, tb) L (vr 248 :: st) (toAH S M) = K nx L (vr 254 :: st) (toAH S M) := y35 (by omega) rfl rfl
theorem f9_6 : exI E d lm RT F K (35, ((9 : Nat) : Int), ((6 : Nat) : Int), nx, tb) L (vr 248 :: st) (toAH S M) = K nx L (vi (M 248 6) :: st) (toAH S M) := y35 (by omega) rfl rfl
theorem p9_6 {v : Int} : exI E d lm RT F K (36, ((9 : Nat) : Int), ((6 : Nat) : Int), nx, [0]) L (vi v :: vr 248 :: st) (toAH S M) = K nx L st (toAH S (up2 M 248 6 v)) := y36 (by omega) rfl (fun m => ⟨by show 6 < 34; decide, rfl⟩) trivial
theorem f9_7 : exI E d lm RT F K (35, ((9 : Nat) : Int), ((7 : Nat) : Int), nx, tb) L (vr 248 :: st) (toAH S M) = K nx L (vi (M 248 7) :: st) (toAH S M) := y35 (by omega) rfl rfl
theorem p9_7 {v : Int} : exI E d lm RT F K (36, ((9 : Nat) : Int), ((7 : Nat) : Int), nx, [0]) L (vi v :: vr 248 :: st) (toAH S M) = K nx L st (toAH S (up2 M 248 7 v)) := y36 (by omega) rfl (fun m => ⟨by show 7 < 34; decide, rfl⟩) trivial
theorem f9_8 : exI E d lm RT F K (35, ((9 : Nat) : Int), ((8 : Nat) : Int), nx, tb) L (vr 248 :: st) (toAH S M) = K nx L (vr 255 :: st) (toAH S M) := y35 (by omega) rfl rfl
theorem f9_9 : exI E d lm RT F K (35, ((9 : Nat) : Int), ((9 : Nat) : Int), nx, tb) L (vr 248 :: st) (toAH S M) = K nx L (vr 256 :: st) (toAH S M) := y35 (by omega) rfl rfl
theorem f9_10 : exI E d lm RT F K (35, ((9 : Nat) : Int), ((10 : Nat) : Int), nx, tb) L (vr 248 :: st) (toAH S M) = K nx L (vr 257 :: st) (toAH S M) := y35 (by omega) rfl rfl
theorem f9_11 : exI E d lm RT F K (35, ((9 : Nat) : Int), ((11 : Nat) : Int), nx, tb) L (vr 248 :: st) (toAH S M) = K nx L (vi (M 248 11) :: st) (toAH S M) := y35 (by omega) rfl rfl
theorem p9_11 {v : Int} : exI E d lm RT F K (36, ((9 : Nat) : Int), ((11 : Nat) : Int), nx, [0]) L (vi v :: vr 248 :: st) (toAH S M) = K nx L st (toAH S (up2 M 248 11 v)) := y36 (by omega) rfl (fun m => ⟨by show 11 < 34; decide, rfl⟩) trivial
theorem f9_12 : exI E d lm RT F K (35, ((9 : Nat) : Int), ((12 : Nat) : Int), nx, tb) L (vr 248 :: st) (toAH S M) = K nx L (vi (M 248 12) :: st) (toAH S M) := y35 (by omega) rfl rfl
theorem p9_12 {v : Int} : exI E d lm RT F K (36, ((9 : Nat) : Int), ((12 : Nat) : Int), nx, [0]) L (vi v :: vr 248 :: st) (toAH S M) = K nx L st (toAH S (up2 M 248 12 v)) := y36 (by omega) rfl (fun m => ⟨by show 12 < 34; decide, rfl⟩) trivial
theorem f9_13 : exI E d lm RT F K (35, ((9 : Nat) : Int), ((13 : Nat) : Int), nx, tb) L (vr 248 :: st) (toAH S M) = K nx L (vi (M 248 13) :: st) (toAH S M) := y35 (by omega) rfl rfl
theorem p9_13 {v : Int} : exI E d lm RT F K (36, ((9 : Nat) : Int), ((13 : Nat) : Int), nx, [0]) L (vi v :: vr 248 :: st) (toAH S M) = K nx L st (toAH S (up2 M 248 13 v)) := y36 (by omega) rfl (fun m => ⟨by show 13 < 34; decide, rfl⟩) trivial
theorem f9_14 : exI E d lm RT F K (35, ((9 : Nat) : Int), ((14 : Nat) : Int), nx, tb) L (vr 248 :: st) (toAH S M) = K nx L (vi (M 248 14) :: st) (toAH S M) := y35 (by omega) rfl rfl
theorem p9_14 {v : Int} : exI E d lm RT F K (36, ((9 : Nat) : Int), ((14 : Nat) : Int), nx, [0]) L (vi v :: vr 248 :: st) (toAH S M) = K nx L st (toAH S (up2 M 248 14 v)) := y36 (by omega) rfl (fun m => ⟨by show 14 < 34; decide, rfl⟩) trivial
theorem f9_15 : exI E d lm RT F K (35, ((9 : Nat) : Int), ((15 : Nat) : Int), nx, tb) L (vr 248 :: st) (toAH S M) = K nx L (vi (M 248 15) :: st) (toAH S M) := y35 (by omega) rfl rfl
theorem p9_15 {v : Int} : exI E d lm RT F K (36, ((9 : Nat) : Int), ((15 : Nat) : Int), nx, [0]) L (vi v :: vr 248 :: st) (toAH S M) = K nx L st (toAH S (up2 M 248 15 v)) := y36 (by omega) rfl (fun m => ⟨by show 15 < 34; decide, rfl⟩) trivial
theorem f9_16 : exI E d lm RT F K (35, ((9 : Nat) : Int), ((16 : Nat) : Int), nx, tb) L (vr 248 :: st) (toAH S M) = K nx L (vi (M 248 16) :: st) (toAH S M) := y35 (by omega) rfl rfl
theorem p9_16 {v : Int} : exI E d lm RT F K (36, ((9 : Nat) : Int), ((16 : Nat) : Int), nx, [0]) L (vi v :: vr 248 :: st) (toAH S M) = K nx L st (toAH S (up2 M 248 16 v)) := y36 (by omega) rfl (fun m => ⟨by show 16 < 34; decide, rfl⟩) trivial
theorem f9_17 : exI E d lm RT F K (35, ((9 : Nat) : Int), ((17 : Nat) : Int), nx, tb) L (vr 248 :: st) (toAH S M) = K nx L (vr 258 :: st) (toAH S M) := y35 (by omega) rfl rfl
theorem f9_18 : exI E d lm RT F K (35, ((9 : Nat) : Int), ((18 : Nat) : Int), nx, tb) L (vr 248 :: st) (toAH S M) = K nx L (vr 259 :: st) (toAH S M) := y35 (by omega) rfl rfl
theorem f9_19 : exI E d lm RT F K (35, ((9 : Nat) : Int), ((19 : Nat) : Int), nx, tb) L (vr 248 :: st) (toAH S M) = K nx L (vr 260 :: st) (toAH S M) := y35 (by omega) rfl rfl
theorem f9_20 : exI E d lm RT F K (35, ((9 : Nat) : Int), ((20 : Nat) : Int), nx, tb) L (vr 248 :: st) (toAH S M) = K nx L (vr 261 :: st) (toAH S M) := y35 (by omega) rfl rfl
theorem f9_21 : exI E d lm RT F K (35, ((9 : Nat) : Int), ((21 : Nat) : Int), nx, tb) L (vr 248 :: st) (toAH S M) = K nx L (vr 262 :: st) (toAH S M) := y35 (by omega) rfl rfl
theorem f9_22 : exI E d lm RT F K (35, ((9 : Nat) : Int), ((22 : Nat) : Int), nx, tb) L (vr 248 :: st) (toAH S M) = K nx L (vr 263 :: st) (toAH S M) := y35 (by omega) rfl rfl
theorem f9_23 : exI E d lm RT F K (35, ((9 : Nat) : Int), ((23 : Nat) : Int), nx, tb) L (vr 248 :: st) (toAH S M) = K nx L (vr 264 :: st) (toAH S M) := y35 (by omega) rfl rfl
theorem f9_24 : exI E d lm RT F K (35, ((9 : Nat) : Int), ((24 : Nat) : Int), nx, tb) L (vr 248 :: st) (toAH S M) = K nx L (vr 265 :: st) (toAH S M) := y35 (by omega) rfl rfl
theorem f9_25 : exI E d lm RT F K (35, ((9 : Nat) : Int), ((25 : Nat) : Int), nx, tb) L (vr 248 :: st) (toAH S M) = K nx L (vr 266 :: st) (toAH S M) := y35 (by omega) rfl rfl
theorem f9_26 : exI E d lm RT F K (35, ((9 : Nat) : Int), ((26 : Nat) : Int), nx, tb) L (vr 248 :: st) (toAH S M) = K nx L (vr 267 :: st) (toAH S M) := y35 (by omega) rfl rfl
theorem f9_27 : exI E d lm RT F K (35, ((9 : Nat) : Int), ((27 : Nat) : Int), nx, tb) L (vr 248 :: st) (toAH S M) = K nx L (vr 268 :: st) (toAH S M) := y35 (by omega) rfl rfl
theorem f9_28 : exI E d lm RT F K (35, ((9 : Nat) : Int), ((28 : Nat) : Int), nx, tb) L (vr 248 :: st) (toAH S M) = K nx L (vr 269 :: st) (toAH S M) := y35 (by omega) rfl rfl
theorem f9_29 : exI E d lm RT F K (35, ((9 : Nat) : Int), ((29 : Nat) : Int), nx, tb) L (vr 248 :: st) (toAH S M) = K nx L (vr 270 :: st) (toAH S M) := y35 (by omega) rfl rfl
theorem f9_30 : exI E d lm RT F K (35, ((9 : Nat) : Int), ((30 : Nat) : Int), nx, tb) L (vr 248 :: st) (toAH S M) = K nx L (vr 271 :: st) (toAH S M) := y35 (by omega) rfl rfl
theorem f9_31 : exI E d lm RT F K (35, ((9 : Nat) : Int), ((31 : Nat) : Int), nx, tb) L (vr 248 :: st) (toAH S M) = K nx L (vr 272 :: st) (toAH S M) := y35 (by omega) rfl rfl
theorem f9_32 : exI E d lm RT F K (35, ((9 : Nat) : Int), ((32 : Nat) : Int), nx, tb) L (vr 248 :: st) (toAH S M) = K nx L (vr 273 :: st) (toAH S M) := y35 (by omega) rfl rfl
theorem f9_33 : exI E d lm RT F K (35, ((9 : Nat) : Int), ((33 : Nat) : Int), nx, tb) L (vr 248 :: st) (toAH S M) = K nx L (vr 274 :: st) (toAH S M) := y35 (by omega) rfl rfl
theorem f5_0 {z : Int} (h1 : 0 ≤ z) (h2 : z < 64) : exI E d lm RT F K (35, ((5 : Nat) : Int), ((0 : Nat) : Int), nx, tb) L (vr (17 + 3 * z) :: st) (toAH S M) = K nx L (vr (18 + 3 * z) :: st) (toAH S M) := by
  have e : (18 : Int) + 3 * z = 17 + 3 * z + 1 := by omega
  rw [e]
  exact y35 (by omega) (shp_row h1 h2) rfl
theorem f5_1 {z : Int} (h1 : 0 ≤ z) (h2 : z < 64) : exI E d lm RT F K (35, ((5 : Nat) : Int), ((1 : Nat) : Int), nx, tb) L (vr (17 + 3 * z) :: st) (toAH S M) = K nx L (vr (19 + 3 * z) :: st) (toAH S M) := by
  have e : (19 : Int) + 3 * z = 17 + 3 * z + 2 := by omega
  rw [e]
  exact y35 (by omega) (shp_row h1 h2) rfl
theorem f5_2 {z : Int} (h1 : 0 ≤ z) (h2 : z < 64) : exI E d lm RT F K (35, ((5 : Nat) : Int), ((2 : Nat) : Int), nx, tb) L (vr (17 + 3 * z) :: st) (toAH S M) = K nx L (vi (M (17 + 3 * z) 2) :: st) (toAH S M) := y35 (by omega) (shp_row h1 h2) rfl
theorem p5_2 {z v : Int} (h1 : 0 ≤ z) (h2 : z < 64) : exI E d lm RT F K (36, ((5 : Nat) : Int), ((2 : Nat) : Int), nx, [0]) L (vi v :: vr (17 + 3 * z) :: st) (toAH S M) = K nx L st (toAH S (up2 M (17 + 3 * z) 2 v)) := y36 (by omega) (shp_row h1 h2) (fun m => ⟨by show 2 < 5; decide, rfl⟩) trivial
theorem f5_3 {z : Int} (h1 : 0 ≤ z) (h2 : z < 64) : exI E d lm RT F K (35, ((5 : Nat) : Int), ((3 : Nat) : Int), nx, tb) L (vr (17 + 3 * z) :: st) (toAH S M) = K nx L (vi (M (17 + 3 * z) 3) :: st) (toAH S M) := y35 (by omega) (shp_row h1 h2) rfl
theorem p5_3 {z v : Int} (h1 : 0 ≤ z) (h2 : z < 64) : exI E d lm RT F K (36, ((5 : Nat) : Int), ((3 : Nat) : Int), nx, [0]) L (vi v :: vr (17 + 3 * z) :: st) (toAH S M) = K nx L st (toAH S (up2 M (17 + 3 * z) 3 v)) := y36 (by omega) (shp_row h1 h2) (fun m => ⟨by show 3 < 5; decide, rfl⟩) trivial
theorem f5_4 {z : Int} (h1 : 0 ≤ z) (h2 : z < 64) : exI E d lm RT F K (35, ((5 : Nat) : Int), ((4 : Nat) : Int), nx, tb) L (vr (17 + 3 * z) :: st) (toAH S M) = K nx L (vi (M (17 + 3 * z) 4) :: st) (toAH S M) := y35 (by omega) (shp_row h1 h2) rfl
theorem p5_4 {z v : Int} (h1 : 0 ≤ z) (h2 : z < 64) : exI E d lm RT F K (36, ((5 : Nat) : Int), ((4 : Nat) : Int), nx, [0]) L (vi v :: vr (17 + 3 * z) :: st) (toAH S M) = K nx L st (toAH S (up2 M (17 + 3 * z) 4 v)) := y36 (by omega) (shp_row h1 h2) (fun m => ⟨by show 4 < 5; decide, rfl⟩) trivial
theorem f7_0 {z : Int} (h1 : 0 ≤ z) (h2 : z < 12) : exI E d lm RT F K (35, ((7 : Nat) : Int), ((0 : Nat) : Int), nx, tb) L (vr (209 + 3 * z) :: st) (toAH S M) = K nx L (vr (210 + 3 * z) :: st) (toAH S M) := by
  have e : (210 : Int) + 3 * z = 209 + 3 * z + 1 := by omega
  rw [e]
  exact y35 (by omega) (shp_wal h1 h2) rfl
theorem f7_1 {z : Int} (h1 : 0 ≤ z) (h2 : z < 12) : exI E d lm RT F K (35, ((7 : Nat) : Int), ((1 : Nat) : Int), nx, tb) L (vr (209 + 3 * z) :: st) (toAH S M) = K nx L (vr (211 + 3 * z) :: st) (toAH S M) := by
  have e : (211 : Int) + 3 * z = 209 + 3 * z + 2 := by omega
  rw [e]
  exact y35 (by omega) (shp_wal h1 h2) rfl
theorem f7_2 {z : Int} (h1 : 0 ≤ z) (h2 : z < 12) : exI E d lm RT F K (35, ((7 : Nat) : Int), ((2 : Nat) : Int), nx, tb) L (vr (209 + 3 * z) :: st) (toAH S M) = K nx L (vi (M (209 + 3 * z) 2) :: st) (toAH S M) := y35 (by omega) (shp_wal h1 h2) rfl
theorem p7_2 {z v : Int} (h1 : 0 ≤ z) (h2 : z < 12) : exI E d lm RT F K (36, ((7 : Nat) : Int), ((2 : Nat) : Int), nx, [0]) L (vi v :: vr (209 + 3 * z) :: st) (toAH S M) = K nx L st (toAH S (up2 M (209 + 3 * z) 2 v)) := y36 (by omega) (shp_wal h1 h2) (fun m => ⟨by show 2 < 13; decide, rfl⟩) trivial
theorem f7_3 {z : Int} (h1 : 0 ≤ z) (h2 : z < 12) : exI E d lm RT F K (35, ((7 : Nat) : Int), ((3 : Nat) : Int), nx, tb) L (vr (209 + 3 * z) :: st) (toAH S M) = K nx L (vi (M (209 + 3 * z) 3) :: st) (toAH S M) := y35 (by omega) (shp_wal h1 h2) rfl
theorem p7_3 {z v : Int} (h1 : 0 ≤ z) (h2 : z < 12) (hv : v = 0 ∨ v = 1) : exI E d lm RT F K (36, ((7 : Nat) : Int), ((3 : Nat) : Int), nx, [1]) L (vi v :: vr (209 + 3 * z) :: st) (toAH S M) = K nx L st (toAH S (up2 M (209 + 3 * z) 3 v)) := y36 (by omega) (shp_wal h1 h2) (fun m => ⟨by show 3 < 13; decide, rfl⟩) hv
theorem f7_4 {z : Int} (h1 : 0 ≤ z) (h2 : z < 12) : exI E d lm RT F K (35, ((7 : Nat) : Int), ((4 : Nat) : Int), nx, tb) L (vr (209 + 3 * z) :: st) (toAH S M) = K nx L (vi (M (209 + 3 * z) 4) :: st) (toAH S M) := y35 (by omega) (shp_wal h1 h2) rfl
theorem p7_4 {z v : Int} (h1 : 0 ≤ z) (h2 : z < 12) (hv : v = 0 ∨ v = 1) : exI E d lm RT F K (36, ((7 : Nat) : Int), ((4 : Nat) : Int), nx, [1]) L (vi v :: vr (209 + 3 * z) :: st) (toAH S M) = K nx L st (toAH S (up2 M (209 + 3 * z) 4 v)) := y36 (by omega) (shp_wal h1 h2) (fun m => ⟨by show 4 < 13; decide, rfl⟩) hv
theorem f7_5 {z : Int} (h1 : 0 ≤ z) (h2 : z < 12) : exI E d lm RT F K (35, ((7 : Nat) : Int), ((5 : Nat) : Int), nx, tb) L (vr (209 + 3 * z) :: st) (toAH S M) = K nx L (vi (M (209 + 3 * z) 5) :: st) (toAH S M) := y35 (by omega) (shp_wal h1 h2) rfl
theorem p7_5 {z v : Int} (h1 : 0 ≤ z) (h2 : z < 12) : exI E d lm RT F K (36, ((7 : Nat) : Int), ((5 : Nat) : Int), nx, [0]) L (vi v :: vr (209 + 3 * z) :: st) (toAH S M) = K nx L st (toAH S (up2 M (209 + 3 * z) 5 v)) := y36 (by omega) (shp_wal h1 h2) (fun m => ⟨by show 5 < 13; decide, rfl⟩) trivial
theorem f7_6 {z : Int} (h1 : 0 ≤ z) (h2 : z < 12) : exI E d lm RT F K (35, ((7 : Nat) : Int), ((6 : Nat) : Int), nx, tb) L (vr (209 + 3 * z) :: st) (toAH S M) = K nx L (vi (M (209 + 3 * z) 6) :: st) (toAH S M) := y35 (by omega) (shp_wal h1 h2) rfl
theorem p7_6 {z v : Int} (h1 : 0 ≤ z) (h2 : z < 12) : exI E d lm RT F K (36, ((7 : Nat) : Int), ((6 : Nat) : Int), nx, [0]) L (vi v :: vr (209 + 3 * z) :: st) (toAH S M) = K nx L st (toAH S (up2 M (209 + 3 * z) 6 v)) := y36 (by omega) (shp_wal h1 h2) (fun m => ⟨by show 6 < 13; decide, rfl⟩) trivial
theorem f7_7 {z : Int} (h1 : 0 ≤ z) (h2 : z < 12) : exI E d lm RT F K (35, ((7 : Nat) : Int), ((7 : Nat) : Int), nx, tb) L (vr (209 + 3 * z) :: st) (toAH S M) = K nx L (vi (M (209 + 3 * z) 7) :: st) (toAH S M) := y35 (by omega) (shp_wal h1 h2) rfl
theorem p7_7 {z v : Int} (h1 : 0 ≤ z) (h2 : z < 12) : exI E d lm RT F K (36, ((7 : Nat) : Int), ((7 : Nat) : Int), nx, [0]) L (vi v :: vr (209 + 3 * z) :: st) (toAH S M) = K nx L st (toAH S (up2 M (209 + 3 * z) 7 v)) := y36 (by omega) (shp_wal h1 h2) (fun m => ⟨by show 7 < 13; decide, rfl⟩) trivial
theorem f7_8 {z : Int} (h1 : 0 ≤ z) (h2 : z < 12) : exI E d lm RT F K (35, ((7 : Nat) : Int), ((8 : Nat) : Int), nx, tb) L (vr (209 + 3 * z) :: st) (toAH S M) = K nx L (vi (M (209 + 3 * z) 8) :: st) (toAH S M) := y35 (by omega) (shp_wal h1 h2) rfl
theorem p7_8 {z v : Int} (h1 : 0 ≤ z) (h2 : z < 12) : exI E d lm RT F K (36, ((7 : Nat) : Int), ((8 : Nat) : Int), nx, [0]) L (vi v :: vr (209 + 3 * z) :: st) (toAH S M) = K nx L st (toAH S (up2 M (209 + 3 * z) 8 v)) := y36 (by omega) (shp_wal h1 h2) (fun m => ⟨by show 8 < 13; decide, rfl⟩) trivial
theorem f7_9 {z : Int} (h1 : 0 ≤ z) (h2 : z < 12) : exI E d lm RT F K (35, ((7 : Nat) : Int), ((9 : Nat) : Int), nx, tb) L (vr (209 + 3 * z) :: st) (toAH S M) = K nx L (vi (M (209 + 3 * z) 9) :: st) (toAH S M) := y35 (by omega) (shp_wal h1 h2) rfl
theorem p7_9 {z v : Int} (h1 : 0 ≤ z) (h2 : z < 12) : exI E d lm RT F K (36, ((7 : Nat) : Int), ((9 : Nat) : Int), nx, [0]) L (vi v :: vr (209 + 3 * z) :: st) (toAH S M) = K nx L st (toAH S (up2 M (209 + 3 * z) 9 v)) := y36 (by omega) (shp_wal h1 h2) (fun m => ⟨by show 9 < 13; decide, rfl⟩) trivial
theorem f7_10 {z : Int} (h1 : 0 ≤ z) (h2 : z < 12) : exI E d lm RT F K (35, ((7 : Nat) : Int), ((10 : Nat) : Int), nx, tb) L (vr (209 + 3 * z) :: st) (toAH S M) = K nx L (vi (M (209 + 3 * z) 10) :: st) (toAH S M) := y35 (by omega) (shp_wal h1 h2) rfl
theorem p7_10 {z v : Int} (h1 : 0 ≤ z) (h2 : z < 12) : exI E d lm RT F K (36, ((7 : Nat) : Int), ((10 : Nat) : Int), nx, [0]) L (vi v :: vr (209 + 3 * z) :: st) (toAH S M) = K nx L st (toAH S (up2 M (209 + 3 * z) 10 v)) := y36 (by omega) (shp_wal h1 h2) (fun m => ⟨by show 10 < 13; decide, rfl⟩) trivial
theorem f7_11 {z : Int} (h1 : 0 ≤ z) (h2 : z < 12) : exI E d lm RT F K (35, ((7 : Nat) : Int), ((11 : Nat) : Int), nx, tb) L (vr (209 + 3 * z) :: st) (toAH S M) = K nx L (vi (M (209 + 3 * z) 11) :: st) (toAH S M) := y35 (by omega) (shp_wal h1 h2) rfl
theorem p7_11 {z v : Int} (h1 : 0 ≤ z) (h2 : z < 12) : exI E d lm RT F K (36, ((7 : Nat) : Int), ((11 : Nat) : Int), nx, [0]) L (vi v :: vr (209 + 3 * z) :: st) (toAH S M) = K nx L st (toAH S (up2 M (209 + 3 * z) 11 v)) := y36 (by omega) (shp_wal h1 h2) (fun m => ⟨by show 11 < 13; decide, rfl⟩) trivial
theorem f7_12 {z : Int} (h1 : 0 ≤ z) (h2 : z < 12) : exI E d lm RT F K (35, ((7 : Nat) : Int), ((12 : Nat) : Int), nx, tb) L (vr (209 + 3 * z) :: st) (toAH S M) = K nx L (vi (M (209 + 3 * z) 12) :: st) (toAH S M) := y35 (by omega) (shp_wal h1 h2) rfl
theorem p7_12 {z v : Int} (h1 : 0 ≤ z) (h2 : z < 12) : exI E d lm RT F K (36, ((7 : Nat) : Int), ((12 : Nat) : Int), nx, [0]) L (vi v :: vr (209 + 3 * z) :: st) (toAH S M) = K nx L st (toAH S (up2 M (209 + 3 * z) 12 v)) := y36 (by omega) (shp_wal h1 h2) (fun m => ⟨by show 12 < 13; decide, rfl⟩) trivial
theorem l_2 {z : Int} (h1 : 0 ≤ z) (h2 : z < 16) : exI E d lm RT F K (38, 0, b, nx, tb) L (vi z :: vr 2 :: st) (toAH S M) = K nx L (vi (M 2 z) :: st) (toAH S M) := y38 (kd := 0) rfl (by omega) rfl (by omega) h1 h2
theorem s_2 {z v : Int} (h1 : 0 ≤ z) (h2 : z < 16) : exI E d lm RT F K (39, 0, b, nx, tb) L (vi v :: vi z :: vr 2 :: st) (toAH S M) = K nx L st (toAH S (up2 M 2 z v)) := y39i (by omega) rfl h1 h2
theorem l_3 {z : Int} (h1 : 0 ≤ z) (h2 : z < 16) : exI E d lm RT F K (38, 0, b, nx, tb) L (vi z :: vr 3 :: st) (toAH S M) = K nx L (vi (M 3 z) :: st) (toAH S M) := y38 (kd := 0) rfl (by omega) rfl (by omega) h1 h2
theorem s_3 {z v : Int} (h1 : 0 ≤ z) (h2 : z < 16) : exI E d lm RT F K (39, 0, b, nx, tb) L (vi v :: vi z :: vr 3 :: st) (toAH S M) = K nx L st (toAH S (up2 M 3 z v)) := y39i (by omega) rfl h1 h2
theorem l_4 {z : Int} (h1 : 0 ≤ z) (h2 : z < 16) : exI E d lm RT F K (38, 0, b, nx, tb) L (vi z :: vr 4 :: st) (toAH S M) = K nx L (vi (M 4 z) :: st) (toAH S M) := y38 (kd := 0) rfl (by omega) rfl (by omega) h1 h2
theorem s_4 {z v : Int} (h1 : 0 ≤ z) (h2 : z < 16) : exI E d lm RT F K (39, 0, b, nx, tb) L (vi v :: vi z :: vr 4 :: st) (toAH S M) = K nx L st (toAH S (up2 M 4 z v)) := y39i (by omega) rfl h1 h2
theorem l_5 {z : Int} (h1 : 0 ≤ z) (h2 : z < 8) : exI E d lm RT F K (38, 0, b, nx, tb) L (vi z :: vr 5 :: st) (toAH S M) = K nx L (vi (M 5 z) :: st) (toAH S M) := y38 (kd := 0) rfl (by omega) rfl (by omega) h1 h2
theorem s_5 {z v : Int} (h1 : 0 ≤ z) (h2 : z < 8) : exI E d lm RT F K (39, 0, b, nx, tb) L (vi v :: vi z :: vr 5 :: st) (toAH S M) = K nx L st (toAH S (up2 M 5 z v)) := y39i (by omega) rfl h1 h2
theorem l_6 {z : Int} (h1 : 0 ≤ z) (h2 : z < 8) : exI E d lm RT F K (38, 0, b, nx, tb) L (vi z :: vr 6 :: st) (toAH S M) = K nx L (vi (M 6 z) :: st) (toAH S M) := y38 (kd := 0) rfl (by omega) rfl (by omega) h1 h2
theorem s_6 {z v : Int} (h1 : 0 ≤ z) (h2 : z < 8) : exI E d lm RT F K (39, 0, b, nx, tb) L (vi v :: vi z :: vr 6 :: st) (toAH S M) = K nx L st (toAH S (up2 M 6 z v)) := y39i (by omega) rfl h1 h2
theorem l_7 {z : Int} (h1 : 0 ≤ z) (h2 : z < 64) : exI E d lm RT F K (49, a, b, nx, tb) L (vi z :: vr 7 :: st) (toAH S M) = K nx L (vr (17 + 3 * z) :: st) (toAH S M) := y49 (kd := 3) (by omega) rfl (by omega) h1 h2
theorem l_9 {z : Int} (h1 : 0 ≤ z) (h2 : z < 8) : exI E d lm RT F K (38, 2, b, nx, tb) L (vi z :: vr 9 :: st) (toAH S M) = K nx L (vl (M 9 z) :: st) (toAH S M) := y38 (kd := 2) rfl (by omega) rfl (by omega) h1 h2
theorem s_9 {z v : Int} (h1 : 0 ≤ z) (h2 : z < 8) : exI E d lm RT F K (39, 2, b, nx, tb) L (vl v :: vi z :: vr 9 :: st) (toAH S M) = K nx L st (toAH S (up2 M 9 z v)) := y39l (by omega) rfl h1 h2
theorem l_10 {z : Int} (h1 : 0 ≤ z) (h2 : z < 8) : exI E d lm RT F K (38, 0, b, nx, tb) L (vi z :: vr 10 :: st) (toAH S M) = K nx L (vi (M 10 z) :: st) (toAH S M) := y38 (kd := 0) rfl (by omega) rfl (by omega) h1 h2
theorem s_10 {z v : Int} (h1 : 0 ≤ z) (h2 : z < 8) : exI E d lm RT F K (39, 0, b, nx, tb) L (vi v :: vi z :: vr 10 :: st) (toAH S M) = K nx L st (toAH S (up2 M 10 z v)) := y39i (by omega) rfl h1 h2
theorem l_11 {z : Int} (h1 : 0 ≤ z) (h2 : z < 8) : exI E d lm RT F K (38, 2, b, nx, tb) L (vi z :: vr 11 :: st) (toAH S M) = K nx L (vl (M 11 z) :: st) (toAH S M) := y38 (kd := 2) rfl (by omega) rfl (by omega) h1 h2
theorem s_11 {z v : Int} (h1 : 0 ≤ z) (h2 : z < 8) : exI E d lm RT F K (39, 2, b, nx, tb) L (vl v :: vi z :: vr 11 :: st) (toAH S M) = K nx L st (toAH S (up2 M 11 z v)) := y39l (by omega) rfl h1 h2
theorem l_12 {z : Int} (h1 : 0 ≤ z) (h2 : z < 12) : exI E d lm RT F K (49, a, b, nx, tb) L (vi z :: vr 12 :: st) (toAH S M) = K nx L (vr (209 + 3 * z) :: st) (toAH S M) := y49 (kd := 4) (by omega) rfl (by omega) h1 h2
theorem l_13 {z : Int} (h1 : 0 ≤ z) (h2 : z < 3) : exI E d lm RT F K (49, a, b, nx, tb) L (vi z :: vr 13 :: st) (toAH S M) = K nx L (vr (245 + z) :: st) (toAH S M) := y49 (kd := 5) (by omega) rfl (by omega) h1 h2
theorem l_15 {z : Int} (h1 : 0 ≤ z) (h2 : z < 8) : exI E d lm RT F K (38, 0, b, nx, tb) L (vi z :: vr 15 :: st) (toAH S M) = K nx L (vi (M 15 z) :: st) (toAH S M) := y38 (kd := 0) rfl (by omega) rfl (by omega) h1 h2
theorem s_15 {z v : Int} (h1 : 0 ≤ z) (h2 : z < 8) : exI E d lm RT F K (39, 0, b, nx, tb) L (vi v :: vi z :: vr 15 :: st) (toAH S M) = K nx L st (toAH S (up2 M 15 z v)) := y39i (by omega) rfl h1 h2
theorem l_16 {z : Int} (h1 : 0 ≤ z) (h2 : z < 8) : exI E d lm RT F K (38, 0, b, nx, tb) L (vi z :: vr 16 :: st) (toAH S M) = K nx L (vi (M 16 z) :: st) (toAH S M) := y38 (kd := 0) rfl (by omega) rfl (by omega) h1 h2
theorem s_16 {z v : Int} (h1 : 0 ≤ z) (h2 : z < 8) : exI E d lm RT F K (39, 0, b, nx, tb) L (vi v :: vi z :: vr 16 :: st) (toAH S M) = K nx L st (toAH S (up2 M 16 z v)) := y39i (by omega) rfl h1 h2
theorem l_249 {z : Int} (h1 : 0 ≤ z) (h2 : z < 16) : exI E d lm RT F K (38, 1, b, nx, tb) L (vi z :: vr 249 :: st) (toAH S M) = K nx L (vi (M 249 z) :: st) (toAH S M) := y38 (kd := 1) rfl (by omega) rfl (by omega) h1 h2
theorem s_249 {z v : Int} (hv : v = 0 ∨ v = 1) (h1 : 0 ≤ z) (h2 : z < 16) : exI E d lm RT F K (39, 1, b, nx, tb) L (vi v :: vi z :: vr 249 :: st) (toAH S M) = K nx L st (toAH S (up2 M 249 z v)) := y39b (by omega) rfl hv h1 h2
theorem l_250 {z : Int} (h1 : 0 ≤ z) (h2 : z < 16) : exI E d lm RT F K (38, 0, b, nx, tb) L (vi z :: vr 250 :: st) (toAH S M) = K nx L (vi (M 250 z) :: st) (toAH S M) := y38 (kd := 0) rfl (by omega) rfl (by omega) h1 h2
theorem s_250 {z v : Int} (h1 : 0 ≤ z) (h2 : z < 16) : exI E d lm RT F K (39, 0, b, nx, tb) L (vi v :: vi z :: vr 250 :: st) (toAH S M) = K nx L st (toAH S (up2 M 250 z v)) := y39i (by omega) rfl h1 h2
theorem l_251 {z : Int} (h1 : 0 ≤ z) (h2 : z < 16) : exI E d lm RT F K (38, 0, b, nx, tb) L (vi z :: vr 251 :: st) (toAH S M) = K nx L (vi (M 251 z) :: st) (toAH S M) := y38 (kd := 0) rfl (by omega) rfl (by omega) h1 h2
theorem s_251 {z v : Int} (h1 : 0 ≤ z) (h2 : z < 16) : exI E d lm RT F K (39, 0, b, nx, tb) L (vi v :: vi z :: vr 251 :: st) (toAH S M) = K nx L st (toAH S (up2 M 251 z v)) := y39i (by omega) rfl h1 h2
theorem l_252 {z : Int} (h1 : 0 ≤ z) (h2 : z < 16) : exI E d lm RT F K (38, 0, b, nx, tb) L (vi z :: vr 252 :: st) (toAH S M) = K nx L (vi (M 252 z) :: st) (toAH S M) := y38 (kd := 0) rfl (by omega) rfl (by omega) h1 h2
theorem s_252 {z v : Int} (h1 : 0 ≤ z) (h2 : z < 16) : exI E d lm RT F K (39, 0, b, nx, tb) L (vi v :: vi z :: vr 252 :: st) (toAH S M) = K nx L st (toAH S (up2 M 252 z v)) := y39i (by omega) rfl h1 h2
theorem l_253 {z : Int} (h1 : 0 ≤ z) (h2 : z < 64) : exI E d lm RT F K (38, 0, b, nx, tb) L (vi z :: vr 253 :: st) (toAH S M) = K nx L (vi (M 253 z) :: st) (toAH S M) := y38 (kd := 0) rfl (by omega) rfl (by omega) h1 h2
theorem s_253 {z v : Int} (h1 : 0 ≤ z) (h2 : z < 64) : exI E d lm RT F K (39, 0, b, nx, tb) L (vi v :: vi z :: vr 253 :: st) (toAH S M) = K nx L st (toAH S (up2 M 253 z v)) := y39i (by omega) rfl h1 h2
theorem l_254 {z : Int} (h1 : 0 ≤ z) (h2 : z < 512) : exI E d lm RT F K (38, 0, b, nx, tb) L (vi z :: vr 254 :: st) (toAH S M) = K nx L (vi (M 254 z) :: st) (toAH S M) := y38 (kd := 0) rfl (by omega) rfl (by omega) h1 h2
theorem s_254 {z v : Int} (h1 : 0 ≤ z) (h2 : z < 512) : exI E d lm RT F K (39, 0, b, nx, tb) L (vi v :: vi z :: vr 254 :: st) (toAH S M) = K nx L st (toAH S (up2 M 254 z v)) := y39i (by omega) rfl h1 h2
theorem l_255 {z : Int} (h1 : 0 ≤ z) (h2 : z < 8) : exI E d lm RT F K (38, 2, b, nx, tb) L (vi z :: vr 255 :: st) (toAH S M) = K nx L (vl (M 255 z) :: st) (toAH S M) := y38 (kd := 2) rfl (by omega) rfl (by omega) h1 h2
theorem s_255 {z v : Int} (h1 : 0 ≤ z) (h2 : z < 8) : exI E d lm RT F K (39, 2, b, nx, tb) L (vl v :: vi z :: vr 255 :: st) (toAH S M) = K nx L st (toAH S (up2 M 255 z v)) := y39l (by omega) rfl h1 h2
theorem l_256 {z : Int} (h1 : 0 ≤ z) (h2 : z < 8) : exI E d lm RT F K (38, 2, b, nx, tb) L (vi z :: vr 256 :: st) (toAH S M) = K nx L (vl (M 256 z) :: st) (toAH S M) := y38 (kd := 2) rfl (by omega) rfl (by omega) h1 h2
theorem s_256 {z v : Int} (h1 : 0 ≤ z) (h2 : z < 8) : exI E d lm RT F K (39, 2, b, nx, tb) L (vl v :: vi z :: vr 256 :: st) (toAH S M) = K nx L st (toAH S (up2 M 256 z v)) := y39l (by omega) rfl h1 h2
theorem l_257 {z : Int} (h1 : 0 ≤ z) (h2 : z < 8) : exI E d lm RT F K (38, 0, b, nx, tb) L (vi z :: vr 257 :: st) (toAH S M) = K nx L (vi (M 257 z) :: st) (toAH S M) := y38 (kd := 0) rfl (by omega) rfl (by omega) h1 h2
theorem s_257 {z v : Int} (h1 : 0 ≤ z) (h2 : z < 8) : exI E d lm RT F K (39, 0, b, nx, tb) L (vi v :: vi z :: vr 257 :: st) (toAH S M) = K nx L st (toAH S (up2 M 257 z v)) := y39i (by omega) rfl h1 h2
theorem l_258 {z : Int} (h1 : 0 ≤ z) (h2 : z < 12) : exI E d lm RT F K (38, 1, b, nx, tb) L (vi z :: vr 258 :: st) (toAH S M) = K nx L (vi (M 258 z) :: st) (toAH S M) := y38 (kd := 1) rfl (by omega) rfl (by omega) h1 h2
theorem s_258 {z v : Int} (hv : v = 0 ∨ v = 1) (h1 : 0 ≤ z) (h2 : z < 12) : exI E d lm RT F K (39, 1, b, nx, tb) L (vi v :: vi z :: vr 258 :: st) (toAH S M) = K nx L st (toAH S (up2 M 258 z v)) := y39b (by omega) rfl hv h1 h2
theorem l_259 {z : Int} (h1 : 0 ≤ z) (h2 : z < 12) : exI E d lm RT F K (38, 0, b, nx, tb) L (vi z :: vr 259 :: st) (toAH S M) = K nx L (vi (M 259 z) :: st) (toAH S M) := y38 (kd := 0) rfl (by omega) rfl (by omega) h1 h2
theorem s_259 {z v : Int} (h1 : 0 ≤ z) (h2 : z < 12) : exI E d lm RT F K (39, 0, b, nx, tb) L (vi v :: vi z :: vr 259 :: st) (toAH S M) = K nx L st (toAH S (up2 M 259 z v)) := y39i (by omega) rfl h1 h2
theorem l_260 {z : Int} (h1 : 0 ≤ z) (h2 : z < 12) : exI E d lm RT F K (38, 0, b, nx, tb) L (vi z :: vr 260 :: st) (toAH S M) = K nx L (vi (M 260 z) :: st) (toAH S M) := y38 (kd := 0) rfl (by omega) rfl (by omega) h1 h2
theorem s_260 {z v : Int} (h1 : 0 ≤ z) (h2 : z < 12) : exI E d lm RT F K (39, 0, b, nx, tb) L (vi v :: vi z :: vr 260 :: st) (toAH S M) = K nx L st (toAH S (up2 M 260 z v)) := y39i (by omega) rfl h1 h2
theorem l_261 {z : Int} (h1 : 0 ≤ z) (h2 : z < 12) : exI E d lm RT F K (38, 0, b, nx, tb) L (vi z :: vr 261 :: st) (toAH S M) = K nx L (vi (M 261 z) :: st) (toAH S M) := y38 (kd := 0) rfl (by omega) rfl (by omega) h1 h2
theorem s_261 {z v : Int} (h1 : 0 ≤ z) (h2 : z < 12) : exI E d lm RT F K (39, 0, b, nx, tb) L (vi v :: vi z :: vr 261 :: st) (toAH S M) = K nx L st (toAH S (up2 M 261 z v)) := y39i (by omega) rfl h1 h2
theorem l_262 {z : Int} (h1 : 0 ≤ z) (h2 : z < 12) : exI E d lm RT F K (38, 1, b, nx, tb) L (vi z :: vr 262 :: st) (toAH S M) = K nx L (vi (M 262 z) :: st) (toAH S M) := y38 (kd := 1) rfl (by omega) rfl (by omega) h1 h2
theorem s_262 {z v : Int} (hv : v = 0 ∨ v = 1) (h1 : 0 ≤ z) (h2 : z < 12) : exI E d lm RT F K (39, 1, b, nx, tb) L (vi v :: vi z :: vr 262 :: st) (toAH S M) = K nx L st (toAH S (up2 M 262 z v)) := y39b (by omega) rfl hv h1 h2
theorem l_263 {z : Int} (h1 : 0 ≤ z) (h2 : z < 12) : exI E d lm RT F K (38, 0, b, nx, tb) L (vi z :: vr 263 :: st) (toAH S M) = K nx L (vi (M 263 z) :: st) (toAH S M) := y38 (kd := 0) rfl (by omega) rfl (by omega) h1 h2
theorem s_263 {z v : Int} (h1 : 0 ≤ z) (h2 : z < 12) : exI E d lm RT F K (39, 0, b, nx, tb) L (vi v :: vi z :: vr 263 :: st) (toAH S M) = K nx L st (toAH S (up2 M 263 z v)) := y39i (by omega) rfl h1 h2
theorem l_264 {z : Int} (h1 : 0 ≤ z) (h2 : z < 12) : exI E d lm RT F K (38, 0, b, nx, tb) L (vi z :: vr 264 :: st) (toAH S M) = K nx L (vi (M 264 z) :: st) (toAH S M) := y38 (kd := 0) rfl (by omega) rfl (by omega) h1 h2
theorem s_264 {z v : Int} (h1 : 0 ≤ z) (h2 : z < 12) : exI E d lm RT F K (39, 0, b, nx, tb) L (vi v :: vi z :: vr 264 :: st) (toAH S M) = K nx L st (toAH S (up2 M 264 z v)) := y39i (by omega) rfl h1 h2
theorem l_265 {z : Int} (h1 : 0 ≤ z) (h2 : z < 12) : exI E d lm RT F K (38, 0, b, nx, tb) L (vi z :: vr 265 :: st) (toAH S M) = K nx L (vi (M 265 z) :: st) (toAH S M) := y38 (kd := 0) rfl (by omega) rfl (by omega) h1 h2
theorem s_265 {z v : Int} (h1 : 0 ≤ z) (h2 : z < 12) : exI E d lm RT F K (39, 0, b, nx, tb) L (vi v :: vi z :: vr 265 :: st) (toAH S M) = K nx L st (toAH S (up2 M 265 z v)) := y39i (by omega) rfl h1 h2
theorem l_266 {z : Int} (h1 : 0 ≤ z) (h2 : z < 12) : exI E d lm RT F K (38, 0, b, nx, tb) L (vi z :: vr 266 :: st) (toAH S M) = K nx L (vi (M 266 z) :: st) (toAH S M) := y38 (kd := 0) rfl (by omega) rfl (by omega) h1 h2
theorem s_266 {z v : Int} (h1 : 0 ≤ z) (h2 : z < 12) : exI E d lm RT F K (39, 0, b, nx, tb) L (vi v :: vi z :: vr 266 :: st) (toAH S M) = K nx L st (toAH S (up2 M 266 z v)) := y39i (by omega) rfl h1 h2
theorem l_267 {z : Int} (h1 : 0 ≤ z) (h2 : z < 12) : exI E d lm RT F K (38, 0, b, nx, tb) L (vi z :: vr 267 :: st) (toAH S M) = K nx L (vi (M 267 z) :: st) (toAH S M) := y38 (kd := 0) rfl (by omega) rfl (by omega) h1 h2
theorem s_267 {z v : Int} (h1 : 0 ≤ z) (h2 : z < 12) : exI E d lm RT F K (39, 0, b, nx, tb) L (vi v :: vi z :: vr 267 :: st) (toAH S M) = K nx L st (toAH S (up2 M 267 z v)) := y39i (by omega) rfl h1 h2
theorem l_268 {z : Int} (h1 : 0 ≤ z) (h2 : z < 96) : exI E d lm RT F K (38, 0, b, nx, tb) L (vi z :: vr 268 :: st) (toAH S M) = K nx L (vi (M 268 z) :: st) (toAH S M) := y38 (kd := 0) rfl (by omega) rfl (by omega) h1 h2
theorem s_268 {z v : Int} (h1 : 0 ≤ z) (h2 : z < 96) : exI E d lm RT F K (39, 0, b, nx, tb) L (vi v :: vi z :: vr 268 :: st) (toAH S M) = K nx L st (toAH S (up2 M 268 z v)) := y39i (by omega) rfl h1 h2
theorem l_269 {z : Int} (h1 : 0 ≤ z) (h2 : z < 96) : exI E d lm RT F K (38, 0, b, nx, tb) L (vi z :: vr 269 :: st) (toAH S M) = K nx L (vi (M 269 z) :: st) (toAH S M) := y38 (kd := 0) rfl (by omega) rfl (by omega) h1 h2
theorem s_269 {z v : Int} (h1 : 0 ≤ z) (h2 : z < 96) : exI E d lm RT F K (39, 0, b, nx, tb) L (vi v :: vi z :: vr 269 :: st) (toAH S M) = K nx L st (toAH S (up2 M 269 z v)) := y39i (by omega) rfl h1 h2
theorem l_270 {z : Int} (h1 : 0 ≤ z) (h2 : z < 12) : exI E d lm RT F K (38, 0, b, nx, tb) L (vi z :: vr 270 :: st) (toAH S M) = K nx L (vi (M 270 z) :: st) (toAH S M) := y38 (kd := 0) rfl (by omega) rfl (by omega) h1 h2
theorem s_270 {z v : Int} (h1 : 0 ≤ z) (h2 : z < 12) : exI E d lm RT F K (39, 0, b, nx, tb) L (vi v :: vi z :: vr 270 :: st) (toAH S M) = K nx L st (toAH S (up2 M 270 z v)) := y39i (by omega) rfl h1 h2
theorem l_271 {z : Int} (h1 : 0 ≤ z) (h2 : z < 64) : exI E d lm RT F K (38, 0, b, nx, tb) L (vi z :: vr 271 :: st) (toAH S M) = K nx L (vi (M 271 z) :: st) (toAH S M) := y38 (kd := 0) rfl (by omega) rfl (by omega) h1 h2
theorem s_271 {z v : Int} (h1 : 0 ≤ z) (h2 : z < 64) : exI E d lm RT F K (39, 0, b, nx, tb) L (vi v :: vi z :: vr 271 :: st) (toAH S M) = K nx L st (toAH S (up2 M 271 z v)) := y39i (by omega) rfl h1 h2
theorem l_272 {z : Int} (h1 : 0 ≤ z) (h2 : z < 512) : exI E d lm RT F K (38, 0, b, nx, tb) L (vi z :: vr 272 :: st) (toAH S M) = K nx L (vi (M 272 z) :: st) (toAH S M) := y38 (kd := 0) rfl (by omega) rfl (by omega) h1 h2
theorem s_272 {z v : Int} (h1 : 0 ≤ z) (h2 : z < 512) : exI E d lm RT F K (39, 0, b, nx, tb) L (vi v :: vi z :: vr 272 :: st) (toAH S M) = K nx L st (toAH S (up2 M 272 z v)) := y39i (by omega) rfl h1 h2
theorem l_273 {z : Int} (h1 : 0 ≤ z) (h2 : z < 9) : exI E d lm RT F K (38, 0, b, nx, tb) L (vi z :: vr 273 :: st) (toAH S M) = K nx L (vi (M 273 z) :: st) (toAH S M) := y38 (kd := 0) rfl (by omega) rfl (by omega) h1 h2
theorem s_273 {z v : Int} (h1 : 0 ≤ z) (h2 : z < 9) : exI E d lm RT F K (39, 0, b, nx, tb) L (vi v :: vi z :: vr 273 :: st) (toAH S M) = K nx L st (toAH S (up2 M 273 z v)) := y39i (by omega) rfl h1 h2
theorem l_274 {z : Int} (h1 : 0 ≤ z) (h2 : z < 64) : exI E d lm RT F K (38, 0, b, nx, tb) L (vi z :: vr 274 :: st) (toAH S M) = K nx L (vi (M 274 z) :: st) (toAH S M) := y38 (kd := 0) rfl (by omega) rfl (by omega) h1 h2
theorem s_274 {z v : Int} (h1 : 0 ≤ z) (h2 : z < 64) : exI E d lm RT F K (39, 0, b, nx, tb) L (vi v :: vi z :: vr 274 :: st) (toAH S M) = K nx L st (toAH S (up2 M 274 z v)) := y39i (by omega) rfl h1 h2
theorem l_r1 {y z : Int} (h3 : 0 ≤ y) (h4 : y < 64) (h1 : 0 ≤ z) (h2 : z < 8) : exI E d lm RT F K (38, 0, b, nx, tb) L (vi z :: vr (18 + 3 * y) :: st) (toAH S M) = K nx L (vi (M (18 + 3 * y) z) :: st) (toAH S M) := y38 (kd := 0) rfl (by omega) (shp_row1 h3 h4) (by omega) h1 h2
theorem s_r1 {y z v : Int} (h3 : 0 ≤ y) (h4 : y < 64) (h1 : 0 ≤ z) (h2 : z < 8) : exI E d lm RT F K (39, 0, b, nx, tb) L (vi v :: vi z :: vr (18 + 3 * y) :: st) (toAH S M) = K nx L st (toAH S (up2 M (18 + 3 * y) z v)) := y39i (by omega) (shp_row1 h3 h4) h1 h2
theorem l_r2 {y z : Int} (h3 : 0 ≤ y) (h4 : y < 64) (h1 : 0 ≤ z) (h2 : z < 8) : exI E d lm RT F K (38, 0, b, nx, tb) L (vi z :: vr (19 + 3 * y) :: st) (toAH S M) = K nx L (vi (M (19 + 3 * y) z) :: st) (toAH S M) := y38 (kd := 0) rfl (by omega) (shp_row2 h3 h4) (by omega) h1 h2
theorem s_r2 {y z v : Int} (h3 : 0 ≤ y) (h4 : y < 64) (h1 : 0 ≤ z) (h2 : z < 8) : exI E d lm RT F K (39, 0, b, nx, tb) L (vi v :: vi z :: vr (19 + 3 * y) :: st) (toAH S M) = K nx L st (toAH S (up2 M (19 + 3 * y) z v)) := y39i (by omega) (shp_row2 h3 h4) h1 h2
theorem l_w1 {y z : Int} (h3 : 0 ≤ y) (h4 : y < 12) (h1 : 0 ≤ z) (h2 : z < 8) : exI E d lm RT F K (38, 0, b, nx, tb) L (vi z :: vr (210 + 3 * y) :: st) (toAH S M) = K nx L (vi (M (210 + 3 * y) z) :: st) (toAH S M) := y38 (kd := 0) rfl (by omega) (shp_wal1 h3 h4) (by omega) h1 h2
theorem s_w1 {y z v : Int} (h3 : 0 ≤ y) (h4 : y < 12) (h1 : 0 ≤ z) (h2 : z < 8) : exI E d lm RT F K (39, 0, b, nx, tb) L (vi v :: vi z :: vr (210 + 3 * y) :: st) (toAH S M) = K nx L st (toAH S (up2 M (210 + 3 * y) z v)) := y39i (by omega) (shp_wal1 h3 h4) h1 h2
theorem l_w2 {y z : Int} (h3 : 0 ≤ y) (h4 : y < 12) (h1 : 0 ≤ z) (h2 : z < 8) : exI E d lm RT F K (38, 0, b, nx, tb) L (vi z :: vr (211 + 3 * y) :: st) (toAH S M) = K nx L (vi (M (211 + 3 * y) z) :: st) (toAH S M) := y38 (kd := 0) rfl (by omega) (shp_wal2 h3 h4) (by omega) h1 h2
theorem s_w2 {y z v : Int} (h3 : 0 ≤ y) (h4 : y < 12) (h1 : 0 ≤ z) (h2 : z < 8) : exI E d lm RT F K (39, 0, b, nx, tb) L (vi v :: vi z :: vr (211 + 3 * y) :: st) (toAH S M) = K nx L st (toAH S (up2 M (211 + 3 * y) z v)) := y39i (by omega) (shp_wal2 h3 h4) h1 h2
theorem ob_at {c : Int} {ci : Nat} (h0 : 0 ≤ c) (hs : shp c = some (10 + ci, 0)) : isOb (toAH S M) c ci := by
  unfold isOb
  rw [toAH_at h0, cel_ob hs (by omega), show 10 + ci - 10 = ci by omega]
theorem y51 {j na ci : Nat} {c : Int} (h0 : 0 ≤ c) (hs : shp c = some (10 + ci, 0)) : ∀ {as rest : List AV}, as.length + 1 = na → exI E d lm RT F K (51, ((j : Nat) : Int), ((na : Nat) : Int), nx, [ci]) L (as ++ vr c :: rest) (toAH S M) = callK E d lm K nx j (vr c :: as.reverse) L rest (toAH S M) := by
  intro as rest h1
  have hob := ob_at (S := S) (M := M) h0 hs
  generalize hS : as ++ vr c :: rest = T
  show (match T[((na : Nat) : Int).toNat - 1]? with | some (.inr (.inr (some c))) => isOb (toAH S M) c ci ∧ callK E d lm K nx ((j : Nat) : Int).toNat (T.take ((na : Nat) : Int).toNat).reverse L (T.drop ((na : Nat) : Int).toNat) (toAH S M) | _ => False) = _
  rw [Int.toNat_natCast, Int.toNat_natCast, ← h1, ← hS]
  have e1 : (as ++ vr c :: rest)[as.length + 1 - 1]? = some (vr c) := by simp
  have e2 : ((as ++ vr c :: rest).take (as.length + 1)).reverse = vr c :: as.reverse := by simp [List.take_append, List.take_of_length_le]
  have e3 : (as ++ vr c :: rest).drop (as.length + 1) = rest := by simp [List.drop_append]
  rw [e1, e2, e3]
  exact propext ⟨fun q => q.2, fun q => ⟨hob, q⟩⟩
theorem y44 {j na : Nat} {h : AH} : ∀ {as rest : List AV}, as.length = na → exI E d lm RT F K (44, ((j : Nat) : Int), ((na : Nat) : Int), nx, tb) L (as ++ rest) h = callK E d lm K nx j as.reverse L rest h := by
  intro as rest h1
  show (((na : Nat) : Int).toNat ≤ (as ++ rest).length ∧ callK E d lm K nx ((j : Nat) : Int).toNat ((as ++ rest).take ((na : Nat) : Int).toNat).reverse L ((as ++ rest).drop ((na : Nat) : Int).toNat) h) = _
  rw [Int.toNat_natCast, Int.toNat_natCast, ← h1, List.take_left, List.drop_left]
  exact propext ⟨fun q => q.2, fun q => ⟨by simp, q⟩⟩
theorem v8_1 {j : Nat} : exI E d lm RT F K (51, ((j : Nat) : Int), ((1 : Nat) : Int), nx, [8]) L (vr 0 :: st) (toAH S M) = callK E d lm K nx j [vr 0] L st (toAH S M) := y51 (as := []) (by omega) rfl rfl
theorem v3_1 {j : Nat} : exI E d lm RT F K (51, ((j : Nat) : Int), ((1 : Nat) : Int), nx, [3]) L (vr 1 :: st) (toAH S M) = callK E d lm K nx j [vr 1] L st (toAH S M) := y51 (as := []) (by omega) rfl rfl
theorem v6_1 {j : Nat} : exI E d lm RT F K (51, ((j : Nat) : Int), ((1 : Nat) : Int), nx, [6]) L (vr 8 :: st) (toAH S M) = callK E d lm K nx j [vr 8] L st (toAH S M) := y51 (as := []) (by omega) rfl rfl
theorem v0_1 {j : Nat} : exI E d lm RT F K (51, ((j : Nat) : Int), ((1 : Nat) : Int), nx, [0]) L (vr 14 :: st) (toAH S M) = callK E d lm K nx j [vr 14] L st (toAH S M) := y51 (as := []) (by omega) rfl rfl
theorem v9_1 {j : Nat} : exI E d lm RT F K (51, ((j : Nat) : Int), ((1 : Nat) : Int), nx, [9]) L (vr 248 :: st) (toAH S M) = callK E d lm K nx j [vr 248] L st (toAH S M) := y51 (as := []) (by omega) rfl rfl
theorem v5_1 {z : Int} (h1 : 0 ≤ z) (h2 : z < 64) {j : Nat} : exI E d lm RT F K (51, ((j : Nat) : Int), ((1 : Nat) : Int), nx, [5]) L (vr (17 + 3 * z) :: st) (toAH S M) = callK E d lm K nx j [vr (17 + 3 * z)] L st (toAH S M) := y51 (as := []) (by omega) (shp_row h1 h2) rfl
theorem v7_1 {z : Int} (h1 : 0 ≤ z) (h2 : z < 12) {j : Nat} : exI E d lm RT F K (51, ((j : Nat) : Int), ((1 : Nat) : Int), nx, [7]) L (vr (209 + 3 * z) :: st) (toAH S M) = callK E d lm K nx j [vr (209 + 3 * z)] L st (toAH S M) := y51 (as := []) (by omega) (shp_wal h1 h2) rfl
theorem v8_2 {a1 : AV} {j : Nat} : exI E d lm RT F K (51, ((j : Nat) : Int), ((2 : Nat) : Int), nx, [8]) L (a1 :: vr 0 :: st) (toAH S M) = callK E d lm K nx j [vr 0, a1] L st (toAH S M) := y51 (as := [a1]) (by omega) rfl rfl
theorem v3_2 {a1 : AV} {j : Nat} : exI E d lm RT F K (51, ((j : Nat) : Int), ((2 : Nat) : Int), nx, [3]) L (a1 :: vr 1 :: st) (toAH S M) = callK E d lm K nx j [vr 1, a1] L st (toAH S M) := y51 (as := [a1]) (by omega) rfl rfl
theorem v6_2 {a1 : AV} {j : Nat} : exI E d lm RT F K (51, ((j : Nat) : Int), ((2 : Nat) : Int), nx, [6]) L (a1 :: vr 8 :: st) (toAH S M) = callK E d lm K nx j [vr 8, a1] L st (toAH S M) := y51 (as := [a1]) (by omega) rfl rfl
theorem v0_2 {a1 : AV} {j : Nat} : exI E d lm RT F K (51, ((j : Nat) : Int), ((2 : Nat) : Int), nx, [0]) L (a1 :: vr 14 :: st) (toAH S M) = callK E d lm K nx j [vr 14, a1] L st (toAH S M) := y51 (as := [a1]) (by omega) rfl rfl
theorem v9_2 {a1 : AV} {j : Nat} : exI E d lm RT F K (51, ((j : Nat) : Int), ((2 : Nat) : Int), nx, [9]) L (a1 :: vr 248 :: st) (toAH S M) = callK E d lm K nx j [vr 248, a1] L st (toAH S M) := y51 (as := [a1]) (by omega) rfl rfl
theorem v5_2 {a1 : AV} {z : Int} (h1 : 0 ≤ z) (h2 : z < 64) {j : Nat} : exI E d lm RT F K (51, ((j : Nat) : Int), ((2 : Nat) : Int), nx, [5]) L (a1 :: vr (17 + 3 * z) :: st) (toAH S M) = callK E d lm K nx j [vr (17 + 3 * z), a1] L st (toAH S M) := y51 (as := [a1]) (by omega) (shp_row h1 h2) rfl
theorem v7_2 {a1 : AV} {z : Int} (h1 : 0 ≤ z) (h2 : z < 12) {j : Nat} : exI E d lm RT F K (51, ((j : Nat) : Int), ((2 : Nat) : Int), nx, [7]) L (a1 :: vr (209 + 3 * z) :: st) (toAH S M) = callK E d lm K nx j [vr (209 + 3 * z), a1] L st (toAH S M) := y51 (as := [a1]) (by omega) (shp_wal h1 h2) rfl
theorem v8_3 {a1 a2 : AV} {j : Nat} : exI E d lm RT F K (51, ((j : Nat) : Int), ((3 : Nat) : Int), nx, [8]) L (a2 :: a1 :: vr 0 :: st) (toAH S M) = callK E d lm K nx j [vr 0, a1, a2] L st (toAH S M) := y51 (as := [a2, a1]) (by omega) rfl rfl
theorem v3_3 {a1 a2 : AV} {j : Nat} : exI E d lm RT F K (51, ((j : Nat) : Int), ((3 : Nat) : Int), nx, [3]) L (a2 :: a1 :: vr 1 :: st) (toAH S M) = callK E d lm K nx j [vr 1, a1, a2] L st (toAH S M) := y51 (as := [a2, a1]) (by omega) rfl rfl
theorem v6_3 {a1 a2 : AV} {j : Nat} : exI E d lm RT F K (51, ((j : Nat) : Int), ((3 : Nat) : Int), nx, [6]) L (a2 :: a1 :: vr 8 :: st) (toAH S M) = callK E d lm K nx j [vr 8, a1, a2] L st (toAH S M) := y51 (as := [a2, a1]) (by omega) rfl rfl
theorem v0_3 {a1 a2 : AV} {j : Nat} : exI E d lm RT F K (51, ((j : Nat) : Int), ((3 : Nat) : Int), nx, [0]) L (a2 :: a1 :: vr 14 :: st) (toAH S M) = callK E d lm K nx j [vr 14, a1, a2] L st (toAH S M) := y51 (as := [a2, a1]) (by omega) rfl rfl
theorem v9_3 {a1 a2 : AV} {j : Nat} : exI E d lm RT F K (51, ((j : Nat) : Int), ((3 : Nat) : Int), nx, [9]) L (a2 :: a1 :: vr 248 :: st) (toAH S M) = callK E d lm K nx j [vr 248, a1, a2] L st (toAH S M) := y51 (as := [a2, a1]) (by omega) rfl rfl
theorem v5_3 {a1 a2 : AV} {z : Int} (h1 : 0 ≤ z) (h2 : z < 64) {j : Nat} : exI E d lm RT F K (51, ((j : Nat) : Int), ((3 : Nat) : Int), nx, [5]) L (a2 :: a1 :: vr (17 + 3 * z) :: st) (toAH S M) = callK E d lm K nx j [vr (17 + 3 * z), a1, a2] L st (toAH S M) := y51 (as := [a2, a1]) (by omega) (shp_row h1 h2) rfl
theorem v7_3 {a1 a2 : AV} {z : Int} (h1 : 0 ≤ z) (h2 : z < 12) {j : Nat} : exI E d lm RT F K (51, ((j : Nat) : Int), ((3 : Nat) : Int), nx, [7]) L (a2 :: a1 :: vr (209 + 3 * z) :: st) (toAH S M) = callK E d lm K nx j [vr (209 + 3 * z), a1, a2] L st (toAH S M) := y51 (as := [a2, a1]) (by omega) (shp_wal h1 h2) rfl
theorem v8_4 {a1 a2 a3 : AV} {j : Nat} : exI E d lm RT F K (51, ((j : Nat) : Int), ((4 : Nat) : Int), nx, [8]) L (a3 :: a2 :: a1 :: vr 0 :: st) (toAH S M) = callK E d lm K nx j [vr 0, a1, a2, a3] L st (toAH S M) := y51 (as := [a3, a2, a1]) (by omega) rfl rfl
theorem v3_4 {a1 a2 a3 : AV} {j : Nat} : exI E d lm RT F K (51, ((j : Nat) : Int), ((4 : Nat) : Int), nx, [3]) L (a3 :: a2 :: a1 :: vr 1 :: st) (toAH S M) = callK E d lm K nx j [vr 1, a1, a2, a3] L st (toAH S M) := y51 (as := [a3, a2, a1]) (by omega) rfl rfl
theorem v6_4 {a1 a2 a3 : AV} {j : Nat} : exI E d lm RT F K (51, ((j : Nat) : Int), ((4 : Nat) : Int), nx, [6]) L (a3 :: a2 :: a1 :: vr 8 :: st) (toAH S M) = callK E d lm K nx j [vr 8, a1, a2, a3] L st (toAH S M) := y51 (as := [a3, a2, a1]) (by omega) rfl rfl
theorem v0_4 {a1 a2 a3 : AV} {j : Nat} : exI E d lm RT F K (51, ((j : Nat) : Int), ((4 : Nat) : Int), nx, [0]) L (a3 :: a2 :: a1 :: vr 14 :: st) (toAH S M) = callK E d lm K nx j [vr 14, a1, a2, a3] L st (toAH S M) := y51 (as := [a3, a2, a1]) (by omega) rfl rfl
theorem v9_4 {a1 a2 a3 : AV} {j : Nat} : exI E d lm RT F K (51, ((j : Nat) : Int), ((4 : Nat) : Int), nx, [9]) L (a3 :: a2 :: a1 :: vr 248 :: st) (toAH S M) = callK E d lm K nx j [vr 248, a1, a2, a3] L st (toAH S M) := y51 (as := [a3, a2, a1]) (by omega) rfl rfl
theorem v5_4 {a1 a2 a3 : AV} {z : Int} (h1 : 0 ≤ z) (h2 : z < 64) {j : Nat} : exI E d lm RT F K (51, ((j : Nat) : Int), ((4 : Nat) : Int), nx, [5]) L (a3 :: a2 :: a1 :: vr (17 + 3 * z) :: st) (toAH S M) = callK E d lm K nx j [vr (17 + 3 * z), a1, a2, a3] L st (toAH S M) := y51 (as := [a3, a2, a1]) (by omega) (shp_row h1 h2) rfl
theorem v7_4 {a1 a2 a3 : AV} {z : Int} (h1 : 0 ≤ z) (h2 : z < 12) {j : Nat} : exI E d lm RT F K (51, ((j : Nat) : Int), ((4 : Nat) : Int), nx, [7]) L (a3 :: a2 :: a1 :: vr (209 + 3 * z) :: st) (toAH S M) = callK E d lm K nx j [vr (209 + 3 * z), a1, a2, a3] L st (toAH S M) := y51 (as := [a3, a2, a1]) (by omega) (shp_wal h1 h2) rfl
theorem v8_5 {a1 a2 a3 a4 : AV} {j : Nat} : exI E d lm RT F K (51, ((j : Nat) : Int), ((5 : Nat) : Int), nx, [8]) L (a4 :: a3 :: a2 :: a1 :: vr 0 :: st) (toAH S M) = callK E d lm K nx j [vr 0, a1, a2, a3, a4] L st (toAH S M) := y51 (as := [a4, a3, a2, a1]) (by omega) rfl rfl
theorem v3_5 {a1 a2 a3 a4 : AV} {j : Nat} : exI E d lm RT F K (51, ((j : Nat) : Int), ((5 : Nat) : Int), nx, [3]) L (a4 :: a3 :: a2 :: a1 :: vr 1 :: st) (toAH S M) = callK E d lm K nx j [vr 1, a1, a2, a3, a4] L st (toAH S M) := y51 (as := [a4, a3, a2, a1]) (by omega) rfl rfl
theorem v6_5 {a1 a2 a3 a4 : AV} {j : Nat} : exI E d lm RT F K (51, ((j : Nat) : Int), ((5 : Nat) : Int), nx, [6]) L (a4 :: a3 :: a2 :: a1 :: vr 8 :: st) (toAH S M) = callK E d lm K nx j [vr 8, a1, a2, a3, a4] L st (toAH S M) := y51 (as := [a4, a3, a2, a1]) (by omega) rfl rfl
theorem v0_5 {a1 a2 a3 a4 : AV} {j : Nat} : exI E d lm RT F K (51, ((j : Nat) : Int), ((5 : Nat) : Int), nx, [0]) L (a4 :: a3 :: a2 :: a1 :: vr 14 :: st) (toAH S M) = callK E d lm K nx j [vr 14, a1, a2, a3, a4] L st (toAH S M) := y51 (as := [a4, a3, a2, a1]) (by omega) rfl rfl
theorem v9_5 {a1 a2 a3 a4 : AV} {j : Nat} : exI E d lm RT F K (51, ((j : Nat) : Int), ((5 : Nat) : Int), nx, [9]) L (a4 :: a3 :: a2 :: a1 :: vr 248 :: st) (toAH S M) = callK E d lm K nx j [vr 248, a1, a2, a3, a4] L st (toAH S M) := y51 (as := [a4, a3, a2, a1]) (by omega) rfl rfl
theorem v5_5 {a1 a2 a3 a4 : AV} {z : Int} (h1 : 0 ≤ z) (h2 : z < 64) {j : Nat} : exI E d lm RT F K (51, ((j : Nat) : Int), ((5 : Nat) : Int), nx, [5]) L (a4 :: a3 :: a2 :: a1 :: vr (17 + 3 * z) :: st) (toAH S M) = callK E d lm K nx j [vr (17 + 3 * z), a1, a2, a3, a4] L st (toAH S M) := y51 (as := [a4, a3, a2, a1]) (by omega) (shp_row h1 h2) rfl
theorem v7_5 {a1 a2 a3 a4 : AV} {z : Int} (h1 : 0 ≤ z) (h2 : z < 12) {j : Nat} : exI E d lm RT F K (51, ((j : Nat) : Int), ((5 : Nat) : Int), nx, [7]) L (a4 :: a3 :: a2 :: a1 :: vr (209 + 3 * z) :: st) (toAH S M) = callK E d lm K nx j [vr (209 + 3 * z), a1, a2, a3, a4] L st (toAH S M) := y51 (as := [a4, a3, a2, a1]) (by omega) (shp_wal h1 h2) rfl
theorem k_0 {j : Nat} {h : AH} : exI E d lm RT F K (44, ((j : Nat) : Int), ((0 : Nat) : Int), nx, tb) L (st) h = callK E d lm K nx j [] L st h := y44 (as := []) rfl
theorem k_1 {a1 : AV} {j : Nat} {h : AH} : exI E d lm RT F K (44, ((j : Nat) : Int), ((1 : Nat) : Int), nx, tb) L (a1 :: st) h = callK E d lm K nx j [a1] L st h := y44 (as := [a1]) rfl
theorem k_2 {a1 a2 : AV} {j : Nat} {h : AH} : exI E d lm RT F K (44, ((j : Nat) : Int), ((2 : Nat) : Int), nx, tb) L (a2 :: a1 :: st) h = callK E d lm K nx j [a1, a2] L st h := y44 (as := [a2, a1]) rfl
theorem k_3 {a1 a2 a3 : AV} {j : Nat} {h : AH} : exI E d lm RT F K (44, ((j : Nat) : Int), ((3 : Nat) : Int), nx, tb) L (a3 :: a2 :: a1 :: st) h = callK E d lm K nx j [a1, a2, a3] L st h := y44 (as := [a3, a2, a1]) rfl
theorem k_4 {a1 a2 a3 a4 : AV} {j : Nat} {h : AH} : exI E d lm RT F K (44, ((j : Nat) : Int), ((4 : Nat) : Int), nx, tb) L (a4 :: a3 :: a2 :: a1 :: st) h = callK E d lm K nx j [a1, a2, a3, a4] L st h := y44 (as := [a4, a3, a2, a1]) rfl
theorem ck_r {M' : Mem} {d0 j : Nat} {as : List AV} {r : AV} (hc : Ctr E d0 j as (toAH S M) (some r) (toAH S M')) (hd : d0 + 1 ≤ d) (hs : st.length ≤ 4) (hk : K nx L (r :: st) (toAH S M')) : callK E d lm K nx j as L st (toAH S M) := ⟨d0, some r, toAH S M', hd, hc, ⟨Nat.le_refl _, Or.inl rfl, Nat.le_refl _, Or.inl rfl⟩, cwt_le hs, hk⟩
theorem ck_r5 {M' : Mem} {d0 j : Nat} {as : List AV} {r : AV} (hc : Ctr E d0 j as (toAH S M) (some r) (toAH S M')) (hd : d0 + 1 ≤ d) (hs : cwt st ≤ 8) (hk : K nx L (r :: st) (toAH S M')) : callK E d lm K nx j as L st (toAH S M) := ⟨d0, some r, toAH S M', hd, hc, ⟨Nat.le_refl _, Or.inl rfl, Nat.le_refl _, Or.inl rfl⟩, hs, hk⟩
theorem ck_v {M' : Mem} {d0 j : Nat} {as : List AV} (hc : Ctr E d0 j as (toAH S M) none (toAH S M')) (hd : d0 + 1 ≤ d) (hs : st.length ≤ 4) (hk : K nx L st (toAH S M')) : callK E d lm K nx j as L st (toAH S M) := ⟨d0, none, toAH S M', hd, hc, ⟨Nat.le_refl _, Or.inl rfl, Nat.le_refl _, Or.inl rfl⟩, cwt_le hs, hk⟩
end LY
