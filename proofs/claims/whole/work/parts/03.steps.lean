/-! ===== what the abstract machine does at an instruction ===== -/
def idv (x y : Int) : Int := (z3 x / z3 y).toInt
def irm (x y : Int) : Int := (z3 x - z3 x / z3 y * z3 y).toInt
def ian (x y : Int) : Int := (z3 x &&& z3 y).toInt
def ior (x y : Int) : Int := (z3 x ||| z3 y).toInt
def ixo (x y : Int) : Int := (z3 x ^^^ z3 y).toInt
def isl (x y : Int) : Int := (z3 x <<< (z3 y &&& 31)).toInt
def isr (x y : Int) : Int := (z3 x >>> (z3 y &&& 31)).toInt
def ius (x y : Int) : Int := ((z3 x).toUInt32 >>> ((z3 y).toUInt32 &&& Int32.toUInt32 31)).toInt32.toInt
def ldv (x y : Int) : Int := (z6 x / z6 y).toInt
def lrm (x y : Int) : Int := (z6 x - z6 x / z6 y * z6 y).toInt
def lcp (x y : Int) : Int := (lg_cmp (z6 x) (z6 y)).toInt
def i2l (x : Int) : Int := (z3 x).toInt64.toInt
def l2i (x : Int) : Int := (z6 x).toInt32.toInt
/-- opcode, two numbers, the next place, places -/
abbrev PT : Type := Nat × Int × Int × Nat × List Nat
abbrev KT : Type := Nat → LV → List AV → AH → Prop
abbrev FT : Type := Nat → List AV → AH → Option AV
def cat1 : AV → Bool
  | .inr (.inl _) => false
  | _ => true
/-- no long lies just ahead of local i -/
def lok (L : LV) (i : Nat) : Bool := match i with
  | 0 => true
  | i + 1 => match L[i]? with
    | some (some (.inr (.inl _))) => false
    | _ => true
def gfv (h : AH) (c : Int) (ci k : Nat) : Option AV := match h.2.2 c with
  | some (.inr (ci', fs)) => if ci' = ci then fs[k]? else none
  | _ => none
def alv (h : AH) (c z : Int) (kd : Nat) : Option AV := match h.2.2 c with
  | some (.inl (k, n, f)) => if (k = kd ∨ (kd = 0 ∧ k = 9)) ∧ 0 ≤ z ∧ z < n then some (f z) else none
  | _ => none
def alr (h : AH) (c z : Int) : Option AV := match h.2.2 c with
  | some (.inl (k, n, f)) => if (3 ≤ k ∧ k ≤ 5) ∧ 0 ≤ z ∧ z < n then some (f z) else none
  | _ => none
/-- may an object of this class lie in an array of this kind -/
def aok (k ci : Nat) : Bool := (k == 3 && ci == 5) || (k == 4 && ci == 7) || (k == 5 && (ci == 4 || ci == 2 || ci == 1))
def updz (f : Int → AV) (z : Int) (v : AV) : Int → AV := fun j => if j = z then v else f j
/-- does a value fit a field or an array of this kind: 0 int, 1 boolean, 2 long, 3 a reference -/
def fitk (k : Nat) (v : AV) : Prop := match k, v with
  | 0, .inl _ => True
  | 1, .inl z => z = 0 ∨ z = 1
  | 2, .inr (.inl _) => True
  | 3, .inr (.inr (some _)) => True
  | _, _ => False
def ccp (a : Int) (x y : Int) : Prop := match a with
  | 0 => z3 x = z3 y
  | 1 => ¬ z3 x = z3 y
  | 2 => z3 x < z3 y
  | 3 => z3 y ≤ z3 x
  | 4 => z3 y < z3 x
  | _ => z3 x ≤ z3 y
def mtL : List MT := [(yX0_init, cX0_init, 1, none, 0),
  (yX0_draw, cX0_draw, 2, (some .int), 1),
  (yX1_init, cX1_init, 1, none, 0),
  (yX1_reward, cX1_reward, 5, (some .int), 3),
  (yX2_init, cX2_init, 1, none, 0),
  (yX2_weight, cX2_weight, 3, (some .int), 2),
  (yX3_init, cX3_init, 1, none, 0),
  (yX3_has, cX3_has, 2, (some .boolean), 1),
  (yX3_freeNumber, cX3_freeNumber, 2, (some .int), 0),
  (yX3_between, cX3_between, 6, (some .int), 2),
  (yX3_delayBetween, cX3_delayBetween, 4, (some .int), 2),
  (yX3_join, cX3_join, 5, none, 4),
  (yX3_part, cX3_part, 4, none, 1),
  (yX3_measureTo, cX3_measureTo, 4, none, 1),
  (yX3_reach, cX3_reach, 5, none, 3),
  (yX3_isOnShortest, cX3_isOnShortest, 3, (some .boolean), 2),
  (yX4_init, cX4_init, 1, none, 0),
  (yX4_weight, cX4_weight, 3, (some .int), 2),
  (yX4_reward, cX4_reward, 4, (some .int), 3),
  (yX5_init, cX5_init, 1, none, 0),
  (yX5_startAnew, cX5_startAnew, 2, none, 1),
  (yX5_becomeEven, cX5_becomeEven, 1, none, 0),
  (yX5_greatest, cX5_greatest, 3, (some .int), 0),
  (yX5_leastBelow, cX5_leastBelow, 3, (some .int), 1),
  (yX5_lift, cX5_lift, 5, none, 1),
  (yX5_raiseBy, cX5_raiseBy, 7, none, 4),
  (yX5_fadeBy, cX5_fadeBy, 7, (some .int), 3),
  (yX5_note, cX5_note, 2, none, 1),
  (yX5_bestNote, cX5_bestNote, 3, (some .int), 0),
  (yX5_lastNote, cX5_lastNote, 1, (some .int), 0),
  (yX5_sumOfNotes, cX5_sumOfNotes, 3, (some .int), 0),
  (yX6_init, cX6_init, 1, none, 0),
  (yX6_evenOut, cX6_evenOut, 6, none, 3),
  (yX6_shareOut, cX6_shareOut, 10, none, 3),
  (yX6_sumOfValues, cX6_sumOfValues, 5, (some .long), 1),
  (yX6_giveOne, cX6_giveOne, 5, none, 2),
  (yX7_init, cX7_init, 1, none, 0),
  (yX7_setOut, cX7_setOut, 5, none, 4),
  (yX7_remember, cX7_remember, 4, none, 2),
  (yX7_rememberedSet, cX7_rememberedSet, 3, (some .int), 0),
  (yX7_stop, cX7_stop, 1, none, 0),
  (yX7_turn, cX7_turn, 1, none, 0),
  (yX7_travel, cX7_travel, 4, none, 3),
  (yX8_init, cX8_init, 2, none, 0),
  (yX8_link, cX8_link, 5, (some .int), 3),
  (yX8_cut, cX8_cut, 3, (some .int), 1),
  (yX8_delay, cX8_delay, 4, (some .int), 2),
  (yX8_ofLink, cX8_ofLink, 3, (some .int), 2),
  (yX8_neighbours, cX8_neighbours, 2, (some .int), 1),
  (yX8_share, cX8_share, 4, (some .int), 3),
  (yX8_floor, cX8_floor, 3, (some .int), 1),
  (yX8_gain, cX8_gain, 3, (some .int), 1),
  (yX8_fade, cX8_fade, 5, (some .int), 1),
  (yX8_raise, cX8_raise, 6, (some .int), 4),
  (yX8_even, cX8_even, 3, (some .int), 2),
  (yX8_seed, cX8_seed, 3, (some .int), 1),
  (yX8_send, cX8_send, 6, (some .int), 3),
  (yX8_ticks, cX8_ticks, 4, (some .int), 1),
  (yX8_walker, cX8_walker, 4, (some .int), 2),
  (yX8_memory, cX8_memory, 5, (some .int), 3),
  (yX8_noted, cX8_noted, 5, (some .int), 3),
  (yX8_learnt, cX8_learnt, 6, (some .int), 3),
  (yX8_shortest, cX8_shortest, 3, (some .int), 2),
  (yX8_right, cX8_right, 4, (some .int), 0),
  (yX8_many, cX8_many, 2, (some .int), 1),
  (yX8_isNode, cX8_isNode, 1, (some .boolean), 1),
  (yX8_isDelay, cX8_isDelay, 1, (some .boolean), 1),
  (yX8_isOfWhole, cX8_isOfWhole, 1, (some .boolean), 1),
  (yX8_isWalker, cX8_isWalker, 2, (some .boolean), 1),
  (yX8_isIn, cX8_isIn, 2, (some .boolean), 2),
  (yX8_rowOf, cX8_rowOf, 3, (some (.object "WalkedWays$Row")), 2),
  (yX8_startRowsAnew, cX8_startRowsAnew, 3, none, 1),
  (yX8_freeWalker, cX8_freeWalker, 2, (some .int), 0),
  (yX8_countWalkers, cX8_countWalkers, 4, (some .int), 1),
  (yX8_countOn, cX8_countOn, 5, (some .int), 2),
  (yX8_loseAllOn, cX8_loseAllOn, 4, (some .int), 1),
  (yX8_lose, cX8_lose, 2, none, 1),
  (yX8_finish, cX8_finish, 3, none, 2),
  (yX8_passTick, cX8_passTick, 3, none, 0),
  (yX8_comeOut, cX8_comeOut, 2, none, 1),
  (yX8_goOn, cX8_goOn, 6, none, 2),
  (yX8_pick, cX8_pick, 9, (some .int), 2),
  (yX8_weigh, cX8_weigh, 8, (some .int), 3),
  (yX8_stepBack, cX8_stepBack, 4, none, 1),
  (yX8_comeBack, cX8_comeBack, 6, none, 1),
  (yX8_followLearnt, cX8_followLearnt, 7, (some .int), 2),
  (yX8_delaysOfWay, cX8_delaysOfWay, 4, (some .int), 1),
  (yX8_setOfWay, cX8_setOfWay, 4, (some .int), 1),
  (yX8_nodeOfWay, cX8_nodeOfWay, 3, (some .int), 2),
  (yX9_init, cX9_init, 2, none, 0),
  (yX9_within, cX9_within, 3, (some .boolean), 3),
  (yX9_isNode, cX9_isNode, 1, (some .boolean), 1),
  (yX9_isNext, cX9_isNext, 3, (some .boolean), 2),
  (yX9_manyNext, cX9_manyNext, 4, (some .int), 1),
  (yX9_rowOf, cX9_rowOf, 2, (some .int), 2),
  (yX9_spreadEven, cX9_spreadEven, 8, none, 4),
  (yX9_makeEven, cX9_makeEven, 4, none, 2),
  (yX9_forgets, cX9_forgets, 3, none, 1),
  (yX9_freeLink, cX9_freeLink, 2, (some .int), 0),
  (yX9_link, cX9_link, 5, (some .int), 3),
  (yX9_isThere, cX9_isThere, 2, (some .boolean), 1),
  (yX9_cut, cX9_cut, 4, (some .int), 1),
  (yX9_delay, cX9_delay, 4, (some .int), 2),
  (yX9_onIt, cX9_onIt, 5, (some .int), 2),
  (yX9_ofLink, cX9_ofLink, 3, (some .int), 2),
  (yX9_neighbours, cX9_neighbours, 4, (some .int), 1),
  (yX9_share, cX9_share, 4, (some .int), 3),
  (yX9_floor, cX9_floor, 3, (some .int), 1),
  (yX9_gain, cX9_gain, 3, (some .int), 1),
  (yX9_shareOut, cX9_shareOut, 12, none, 4),
  (yX9_greatest, cX9_greatest, 6, (some .int), 2),
  (yX9_lowest, cX9_lowest, 4, (some .int), 2),
  (yX9_lift, cX9_lift, 6, none, 2),
  (yX9_raiseBy, cX9_raiseBy, 9, none, 4),
  (yX9_fade, cX9_fade, 5, (some .int), 1),
  (yX9_fadeRow, cX9_fadeRow, 8, (some .int), 3),
  (yX9_raise, cX9_raise, 5, (some .int), 4),
  (yX9_even, cX9_even, 3, (some .int), 2),
  (yX9_seed, cX9_seed, 3, (some .int), 1),
  (yX9_draw, cX9_draw, 2, (some .int), 1),
  (yX9_loses, cX9_loses, 2, none, 1),
  (yX9_placeIn, cX9_placeIn, 4, (some .int), 2),
  (yX9_weight, cX9_weight, 5, (some .int), 3),
  (yX9_mayPick, cX9_mayPick, 5, (some .boolean), 4),
  (yX9_pick, cX9_pick, 8, (some .int), 2),
  (yX9_goesOn, cX9_goesOn, 6, (some .boolean), 2),
  (yX9_send, cX9_send, 5, (some .int), 3),
  (yX9_remembers, cX9_remembers, 4, none, 2),
  (yX9_goesBack, cX9_goesBack, 5, none, 1),
  (yX9_note, cX9_note, 4, none, 2),
  (yX9_bestNote, cX9_bestNote, 4, (some .int), 1),
  (yX9_comesBack, cX9_comesBack, 8, (some .boolean), 1),
  (yX9_comesOut, cX9_comesOut, 3, none, 1),
  (yX9_ticks, cX9_ticks, 5, (some .int), 1),
  (yX9_isOne, cX9_isOne, 2, (some .boolean), 1),
  (yX9_walker, cX9_walker, 3, (some .int), 2),
  (yX9_memory, cX9_memory, 4, (some .int), 3),
  (yX9_noted, cX9_noted, 7, (some .int), 3),
  (yX9_findLearnt, cX9_findLearnt, 6, (some .int), 2),
  (yX9_learnt, cX9_learnt, 8, (some .int), 3),
  (yX9_findFar, cX9_findFar, 4, none, 0),
  (yX9_shortest, cX9_shortest, 3, (some .int), 2),
  (yX9_right, cX9_right, 6, (some .int), 0),
  (yX9_manyWalkers, cX9_manyWalkers, 4, (some .int), 1),
  (yX9_many, cX9_many, 4, (some .int), 1),
  (yJ6_bitCount_0f7a4, cJ6_bitCount_0f7a4, 1, (some .int), 1),
  (yJ9_max_7cf53, cJ9_max_7cf53, 2, (some .int), 2),
  (yJ9_min_7cf53, cJ9_min_7cf53, 2, (some .int), 2),
  (yL_law, cL_law, maxLocals, ret, 1)]
def mt (j : Nat) : MT := mtL.getD j (objectInit, ⟨#[0xb1]⟩, 1, none, 0)
def Ctr (E : ET) (d : Nat) (j : Nat) (as : List AV) (h : AH) (r : Option AV) (h' : AH) : Prop := CtrM E d (mt j) as h r h'
/-- the room that values on the stack take -/
def cwt : List AV → Nat
  | [] => 0
  | (.inr (.inl _)) :: t => cwt t + 2
  | (.inl _) :: t => cwt t + 1
  | (.inr (.inr _)) :: t => cwt t + 1
theorem cwt_le {st : List AV} (h : st.length ≤ 4) : cwt st ≤ 8 := by
  have key : ∀ l : List AV, cwt l ≤ 2 * l.length := by
    intro l
    induction l with
    | nil => exact Nat.le_refl 0
    | cons v t ih =>
      rw [List.length_cons]
      rcases v with z | z | z
      · show cwt t + 1 ≤ _; omega
      · show cwt t + 2 ≤ _; omega
      · show cwt t + 1 ≤ _; omega
  have := key st
  omega
def callK (E : ET) (d : Nat) (lm : Nat × Nat) (K : KT) (nx : Nat) (j : Nat) (as : List AV) (L : LV) (st : List AV) (h : AH) : Prop :=
  ∃ (d0 : Nat) (r : Option AV) (h' : AH), d0 + 1 ≤ d ∧ Ctr E d0 j as h r h' ∧ (h.1 ≤ h'.1 ∧ (h'.1 = h.1 ∨ h'.1 ≤ lm.1) ∧ h.2.1 ≤ h'.2.1 ∧ (h'.2.1 = h.2.1 ∨ h'.2.1 ≤ lm.2)) ∧ cwt st ≤ 8 ∧ K nx L (r.toList ++ st) h'
/-- classes by number: fields, their defaults -/
def dfl : Nat → List AV
  | 0 => [vi 0, vi 0]
  | 1 => []
  | 2 => []
  | 3 => [vn, vn, vn, vn, vn, vi 0]
  | 4 => []
  | 5 => [vn, vn, vi 0, vi 0, vi 0]
  | 6 => [vn, vn, vn]
  | 7 => [vn, vn, vi 0, vi 0, vi 0, vi 0, vi 0, vi 0, vi 0, vi 0, vi 0, vi 0, vi 0]
  | 8 => [vn, vn, vn, vn, vn, vn, vn, vn, vi 0, vi 0, vi 0, vi 0, vi 0, vi 0]
  | 9 => [vn, vn, vn, vn, vn, vn, vi 0, vi 0, vn, vn, vn, vi 0, vi 0, vi 0, vi 0, vi 0, vi 0, vn, vn, vn, vn, vn, vn, vn, vn, vn, vn, vn, vn, vn, vn, vn, vn, vn]
  | _ => []
/-- what virtual calls reach: by the call and the class of the object -/
def vsel : Nat → Nat → Option Nat
  | 0, 4 => some 17
  | 0, 2 => some 5
  | 0, 1 => some 5
  | 1, 4 => some 18
  | 1, 2 => some 18
  | 1, 1 => some 3
  | _, _ => none
def isOb (h : AH) (c : Int) (ci : Nat) : Prop := match h.2.2 c with
  | some (.inr (ci', _)) => ci' = ci
  | _ => False
/-- the class in which a method stands -/
def mclL : List Nat := [0, 0, 1, 1, 2, 2, 3, 3, 3, 3, 3, 3, 3, 3, 3, 3, 4, 4, 4, 5, 5, 5, 5, 5, 5, 5, 5, 5, 5, 5, 5, 6, 6, 6, 6, 6, 7, 7, 7, 7, 7, 7, 7, 8, 8, 8, 8, 8, 8, 8, 8, 8, 8, 8, 8, 8, 8, 8, 8, 8, 8, 8, 8, 8, 8, 8, 8, 8, 8, 8, 8, 8, 8, 8, 8, 8, 8, 8, 8, 8, 8, 8, 8, 8, 8, 8, 8, 8, 8, 9, 9, 9, 9, 9, 9, 9, 9, 9, 9, 9, 9, 9, 9, 9, 9, 9, 9, 9, 9, 9, 9, 9, 9, 9, 9, 9, 9, 9, 9, 9, 9, 9, 9, 9, 9, 9, 9, 9, 9, 9, 9, 9, 9, 9, 9, 9, 9, 9, 9, 9, 9, 9, 9, 9, 9, 11, 12, 12, 10]
def mcl (j : Nat) : Nat := mclL.getD j 99
def exI (E : ET) (d : Nat) (lm : Nat × Nat) (RT : RTy) (F : FT) (K : KT) (pt : PT) (L : LV) (st : List AV) (h : AH) : Prop :=
  match pt.1, pt.2.1, pt.2.2.1, pt.2.2.2.1, pt.2.2.2.2 with
  | 0, a, _, nx, _ => K nx L (vi a :: st) h
  | 1, a, _, nx, _ => (match L[a.toNat]? with | some (some (.inl z)) => K nx L (vi z :: st) h | _ => False)
  | 2, a, _, nx, _ => (match L[a.toNat]? with | some (some (.inr (.inr (some z)))) => K nx L (vr z :: st) h | _ => False)
  | 3, a, _, nx, _ => (match L[a.toNat]? with | some (some (.inr (.inl z))) => K nx L (vl z :: st) h | _ => False)
  | 4, a, _, nx, _ => (match st with | .inl z :: st => (a.toNat < L.length ∧ lok L a.toNat = true) ∧ K nx (L.set a.toNat (some (vi z))) st h | _ => False)
  | 5, a, _, nx, _ => (match st with | .inr (.inr (some z)) :: st => (a.toNat < L.length ∧ lok L a.toNat = true) ∧ K nx (L.set a.toNat (some (vr z))) st h | _ => False)
  | 6, a, _, nx, _ => (match st with | .inr (.inl z) :: st => (a.toNat < L.length ∧ lok L a.toNat = true) ∧ a.toNat + 1 < L.length ∧ K nx ((L.set a.toNat (some (vl z))).set (a.toNat + 1) none) st h | _ => False)
  | 7, a, b, nx, _ => (match L[a.toNat]? with | some (some (.inl z)) => lok L a.toNat = true ∧ K nx (L.set a.toNat (some (vi (z + b)))) st h | _ => False)
  | 8, _, _, nx, _ => (match st with | .inl y :: .inl x :: st => K nx L (vi (x + y) :: st) h | _ => False)
  | 9, _, _, nx, _ => (match st with | .inl y :: .inl x :: st => K nx L (vi (x - y) :: st) h | _ => False)
  | 10, _, _, nx, _ => (match st with | .inl y :: .inl x :: st => K nx L (vi (x * y) :: st) h | _ => False)
  | 11, _, _, nx, _ => (match st with | .inl y :: .inl x :: st => ¬ z3 y = 0 ∧ K nx L (vi (idv x y) :: st) h | _ => False)
  | 12, _, _, nx, _ => (match st with | .inl y :: .inl x :: st => ¬ z3 y = 0 ∧ K nx L (vi (irm x y) :: st) h | _ => False)
  | 13, _, _, nx, _ => (match st with | .inl y :: .inl x :: st => K nx L (vi (ian x y) :: st) h | _ => False)
  | 14, _, _, nx, _ => (match st with | .inl y :: .inl x :: st => K nx L (vi (ior x y) :: st) h | _ => False)
  | 15, _, _, nx, _ => (match st with | .inl y :: .inl x :: st => K nx L (vi (ixo x y) :: st) h | _ => False)
  | 16, _, _, nx, _ => (match st with | .inl y :: .inl x :: st => K nx L (vi (isl x y) :: st) h | _ => False)
  | 17, _, _, nx, _ => (match st with | .inl y :: .inl x :: st => K nx L (vi (isr x y) :: st) h | _ => False)
  | 18, _, _, nx, _ => (match st with | .inl y :: .inl x :: st => K nx L (vi (ius x y) :: st) h | _ => False)
  | 19, _, _, nx, _ => (match st with | .inr (.inl y) :: .inr (.inl x) :: st => K nx L (vl (x + y) :: st) h | _ => False)
  | 20, _, _, nx, _ => (match st with | .inr (.inl y) :: .inr (.inl x) :: st => K nx L (vl (x - y) :: st) h | _ => False)
  | 21, _, _, nx, _ => (match st with | .inr (.inl y) :: .inr (.inl x) :: st => K nx L (vl (x * y) :: st) h | _ => False)
  | 22, _, _, nx, _ => (match st with | .inr (.inl y) :: .inr (.inl x) :: st => ¬ z6 y = 0 ∧ K nx L (vl (ldv x y) :: st) h | _ => False)
  | 23, _, _, nx, _ => (match st with | .inr (.inl y) :: .inr (.inl x) :: st => ¬ z6 y = 0 ∧ K nx L (vl (lrm x y) :: st) h | _ => False)
  | 24, _, _, nx, _ => (match st with | .inr (.inl y) :: .inr (.inl x) :: st => K nx L (vi (lcp x y) :: st) h | _ => False)
  | 25, _, _, nx, _ => (match st with | .inl x :: st => K nx L (vl (i2l x) :: st) h | _ => False)
  | 26, _, _, nx, _ => (match st with | .inr (.inl x) :: st => K nx L (vi (l2i x) :: st) h | _ => False)
  | 27, a, _, nx, _ => K nx L (vl a :: st) h
  | 28, _, _, nx, _ => (match st with | v :: st => cat1 v = true ∧ K nx L (v :: v :: st) h | _ => False)
  | 29, _, _, nx, _ => (match st with | v :: w :: st => cat1 v = true ∧ cat1 w = true ∧ K nx L (v :: w :: v :: w :: st) h | _ => False)
  | 30, _, _, nx, _ => (match st with | v :: st => cat1 v = true ∧ K nx L st h | _ => False)
  | 31, a, b, nx, _ => (match st with | .inl x :: st => (ccp a x 0 → K b.toNat L st h) ∧ (¬ ccp a x 0 → K nx L st h) | _ => False)
  | 32, a, b, nx, _ => (match st with | .inl y :: .inl x :: st => (ccp a x y → K b.toNat L st h) ∧ (¬ ccp a x y → K nx L st h) | _ => False)
  | 33, a, _, _, _ => K a.toNat L st h
  | 34, a, b, _, tb => (match st with | .inl x :: st => ((z3 x).toInt < a ∨ a + tb.length ≤ (z3 x).toInt → K b.toNat L st h) ∧ (∀ (k : Nat) (t : Nat), tb[k]? = some t → (z3 x).toInt = a + k → K t L st h) | _ => False)
  | 35, a, b, nx, _ => (match st with | .inr (.inr (some c)) :: st => (match gfv h c a.toNat b.toNat with | some v => K nx L (v :: st) h | none => False) | _ => False)
  | 36, a, b, nx, tb => (match st with | v :: .inr (.inr (some c)) :: st => fitk (tb.getD 0 9) v ∧ 0 ≤ c ∧ (match h.2.2 c with | some (.inr (ci, fs)) => ci = a.toNat ∧ b.toNat < fs.length ∧ K nx L st (hset h c (.inr (ci, fs.set b.toNat v))) | _ => False) | _ => False)
  | 37, a, b, nx, tb => (match st with | v :: .inr (.inr (some c)) :: st => fitk (tb.getD 0 9) v ∧ 0 ≤ c ∧ (match h.2.2 c with | some (.inr (ci, fs)) => ci = a.toNat ∧ b.toNat < fs.length ∧ K nx L st (hset h c (.inr (ci, fs.set b.toNat v))) | _ => False) | _ => False)
  | 38, a, _, nx, _ => (match st with | .inl z :: .inr (.inr (some c)) :: st => (match alv h c z a.toNat with | some v => K nx L (v :: st) h | none => False) | _ => False)
  | 39, a, _, nx, _ => (match st with | v :: .inl z :: .inr (.inr (some c)) :: st => fitk (min a.toNat 3) v ∧ 0 ≤ c ∧ (match h.2.2 c with | some (.inl (k, n, f)) => k = a.toNat ∧ 0 ≤ z ∧ z < n ∧ K nx L st (hset h c (.inl (k, n, updz f z v))) | _ => False) | _ => False)
  | 49, _, _, nx, _ => (match st with | .inl z :: .inr (.inr (some c)) :: st => (match alr h c z with | some v => K nx L (v :: st) h | none => False) | _ => False)
  | 50, _, _, nx, _ => (match st with | .inr (.inr (some v)) :: .inl z :: .inr (.inr (some c)) :: st => 0 ≤ c ∧ (match h.2.2 v with | some (.inr (ci, _)) => (match h.2.2 c with | some (.inl (k, n, f)) => aok k ci = true ∧ 0 ≤ z ∧ z < n ∧ K nx L st (hset h c (.inl (k, n, updz f z (vr v)))) | _ => False) | _ => False) | _ => False)
  | 40, _, _, nx, _ => (match st with | .inr (.inr (some c)) :: st => (match h.2.2 c with | some (.inl (k, n, _)) => (k < 6 ∨ k = 9) ∧ K nx L (vi n :: st) h | _ => False) | _ => False)
  | 41, a, _, nx, _ => h.1 + 1 ≤ lm.1 ∧ h.2.1 + (dfl a.toNat).length ≤ lm.2 ∧ K nx L (vr h.1 :: st) (hpush h (dfl a.toNat).length (.inr (a.toNat, dfl a.toNat)))
  | 42, a, _, nx, _ => (match st with | .inl n :: st => (0 ≤ n ∧ n ≤ 1000000) ∧ h.1 + 1 ≤ lm.1 ∧ h.2.1 + n.toNat ≤ lm.2 ∧ K nx L (vr h.1 :: st) (hpush h n.toNat (.inl (a.toNat, n, fun _ => if a = 2 then vl 0 else vi 0))) | _ => False)
  | 43, a, _, nx, _ => (match st with | .inl n :: st => (0 ≤ n ∧ n ≤ 1000000) ∧ h.1 + 1 ≤ lm.1 ∧ h.2.1 + n.toNat ≤ lm.2 ∧ K nx L (vr h.1 :: st) (hpush h n.toNat (.inl (a.toNat, n, fun _ => vn))) | _ => False)
  | 44, a, b, nx, _ => b.toNat ≤ st.length ∧ callK E d lm K nx a.toNat (st.take b.toNat).reverse L (st.drop b.toNat) h
  | 45, a, b, nx, _ => b.toNat ≤ st.length ∧ (match F a.toNat (st.take b.toNat).reverse h with | some r => (st.drop b.toNat).length ≤ 4 ∧ K nx L (r :: st.drop b.toNat) h | none => False)
  | 51, a, b, nx, tb => (match st[b.toNat - 1]? with | some (.inr (.inr (some c))) => isOb h c (tb.getD 0 99) ∧ callK E d lm K nx a.toNat (st.take b.toNat).reverse L (st.drop b.toNat) h | _ => False)
  | 52, a, b, nx, tb => (match st[b.toNat - 1]? with | some (.inr (.inr (some c))) => isOb h c (tb.getD 0 99) ∧ (match F a.toNat (st.take b.toNat).reverse h with | some r => (st.drop b.toNat).length ≤ 4 ∧ K nx L (r :: st.drop b.toNat) h | none => False) | _ => False)
  | 53, a, b, nx, _ => (match st[b.toNat - 1]? with | some (.inr (.inr (some _))) => callK E d lm K nx a.toNat (st.take b.toNat).reverse L (st.drop b.toNat) h | _ => False)
  | 46, a, b, nx, _ => (match st[b.toNat - 1]? with | some (.inr (.inr (some c))) => (match h.2.2 c with | some (.inr (ci, _)) => (match vsel a.toNat ci with | some j => callK E d lm K nx j (st.take b.toNat).reverse L (st.drop b.toNat) h | none => False) | _ => False) | _ => False)
  | 47, _, _, nx, _ => (match st with | .inr (.inr (some _)) :: st => 1 ≤ d ∧ st.length ≤ 4 ∧ K nx L st h | _ => False)
  | 48, 0, _, _, _ => (match st with | [.inl z] => RT (some (vi z)) h | _ => False)
  | 48, 1, _, _, _ => (match st with | [.inl z] => (z = 0 ∨ z = 1) ∧ RT (some (vi z)) h | _ => False)
  | 48, 2, _, _, _ => (match st with | [.inr (.inl z)] => RT (some (vl z)) h | _ => False)
  | 48, 3, _, _, _ => (match st with | [.inr (.inr (some z))] => RT (some (vr z)) h | _ => False)
  | 48, 4, _, _, _ => (match st with | [] => RT none h | _ => False)
  | _, _, _, _, _ => False
def run (E : ET) (g : GT) (mi : MI) (d : Nat) (lm : Nat × Nat) (RT : RTy) (F : FT) (P : Nat → Option PT) : Nat → KT
  | 0, pc, L, st, h => G E g mi d lm RT pc L st h
  | n + 1, pc, L, st, h => match P pc with
    | none => G E g mi d lm RT pc L st h
    | some pt => exI E d lm RT F (run E g mi d lm RT F P n) pt L st h
/-! ===== tables of what the code links ===== -/
/-- own class, index, class, field, kind, final -/
def fldT : List (Nat × Nat × Nat × Nat × Nat × Nat) := [(8, 10, 8, 0, 3, 1), (8, 18, 8, 1, 3, 1), (8, 25, 8, 2, 3, 1), (8, 31, 8, 3, 3, 1), (8, 37, 8, 4, 3, 1), (8, 44, 8, 5, 3, 1), (8, 48, 8, 6, 3, 1), (8, 52, 8, 7, 3, 1), (8, 55, 8, 8, 0, 0), (8, 59, 8, 9, 0, 0), (8, 62, 8, 10, 0, 0), (8, 65, 8, 11, 0, 0), (8, 68, 8, 12, 0, 0), (8, 71, 8, 13, 0, 0), (8, 116, 3, 0, 3, 1), (8, 119, 3, 1, 3, 1), (8, 122, 3, 2, 3, 1), (8, 129, 3, 3, 3, 1), (8, 140, 5, 0, 3, 1), (8, 162, 0, 0, 0, 0), (8, 175, 7, 3, 1, 0), (8, 185, 7, 5, 0, 0), (8, 188, 7, 6, 0, 0), (8, 191, 7, 7, 0, 0), (8, 194, 7, 4, 1, 0), (8, 197, 7, 8, 0, 0), (8, 200, 7, 9, 0, 0), (8, 203, 7, 10, 0, 0), (8, 206, 7, 2, 0, 0), (8, 209, 7, 11, 0, 0), (8, 212, 7, 0, 3, 1), (8, 215, 7, 1, 3, 1), (8, 218, 5, 3, 0, 0), (8, 245, 3, 4, 3, 1), (8, 254, 3, 5, 0, 0), (8, 261, 0, 1, 0, 0), (8, 311, 7, 12, 0, 0), (0, 7, 0, 0, 0, 0), (0, 13, 0, 1, 0, 0), (3, 9, 3, 0, 3, 1), (3, 15, 3, 1, 3, 1), (3, 18, 3, 2, 3, 1), (3, 21, 3, 3, 3, 1), (3, 24, 3, 4, 3, 1), (3, 27, 3, 5, 0, 0), (5, 9, 5, 0, 3, 1), (5, 15, 5, 1, 3, 1), (5, 18, 5, 2, 0, 0), (5, 22, 5, 3, 0, 0), (5, 25, 5, 4, 0, 0), (5, 49, 6, 0, 3, 1), (5, 65, 6, 1, 3, 1), (6, 9, 6, 0, 3, 1), (6, 15, 6, 1, 3, 1), (6, 19, 6, 2, 3, 1), (7, 9, 7, 0, 3, 1), (7, 15, 7, 1, 3, 1), (7, 18, 7, 2, 0, 0), (7, 22, 7, 3, 1, 0), (7, 26, 7, 4, 1, 0), (7, 29, 7, 5, 0, 0), (7, 32, 7, 6, 0, 0), (7, 35, 7, 7, 0, 0), (7, 38, 7, 8, 0, 0), (7, 41, 7, 9, 0, 0), (7, 44, 7, 10, 0, 0), (7, 47, 7, 11, 0, 0), (7, 50, 7, 12, 0, 0), (9, 7, 9, 0, 3, 1), (9, 13, 9, 1, 3, 1), (9, 17, 9, 2, 3, 1), (9, 20, 9, 3, 3, 1), (9, 23, 9, 4, 3, 1), (9, 26, 9, 5, 3, 1), (9, 29, 9, 6, 0, 0), (9, 33, 9, 7, 0, 0), (9, 36, 9, 8, 3, 1), (9, 40, 9, 9, 3, 1), (9, 43, 9, 10, 3, 1), (9, 46, 9, 11, 0, 0), (9, 49, 9, 17, 3, 1), (9, 52, 9, 18, 3, 1), (9, 55, 9, 19, 3, 1), (9, 58, 9, 20, 3, 1), (9, 61, 9, 21, 3, 1), (9, 64, 9, 22, 3, 1), (9, 67, 9, 23, 3, 1), (9, 70, 9, 24, 3, 1), (9, 73, 9, 25, 3, 1), (9, 76, 9, 26, 3, 1), (9, 79, 9, 27, 3, 1), (9, 82, 9, 28, 3, 1), (9, 85, 9, 29, 3, 1), (9, 88, 9, 30, 3, 1), (9, 91, 9, 31, 3, 1), (9, 94, 9, 32, 3, 1), (9, 97, 9, 33, 3, 1), (9, 171, 9, 13, 0, 0), (9, 174, 9, 15, 0, 0), (9, 193, 9, 12, 0, 0), (9, 205, 9, 14, 0, 0), (9, 208, 9, 16, 0, 0)]
/-- own class, index, kind of call, method, what it takes off the stack, leaf -/
def calT : List (Nat × Nat × Nat × Nat × Nat × Nat) := [(8, 1, 5, 0, 1, 0), (8, 83, 1, 65, 1, 1), (8, 87, 1, 66, 1, 1), (8, 90, 0, 9, 3, 0), (8, 94, 0, 8, 1, 0), (8, 98, 0, 11, 5, 0), (8, 102, 0, 71, 2, 0), (8, 106, 0, 7, 2, 1), (8, 109, 0, 75, 2, 0), (8, 113, 0, 12, 2, 0), (8, 125, 0, 74, 3, 0), (8, 132, 1, 69, 2, 1), (8, 136, 0, 70, 3, 1), (8, 143, 1, 67, 1, 1), (8, 146, 0, 26, 4, 0), (8, 150, 0, 25, 5, 0), (8, 154, 0, 21, 1, 0), (8, 157, 1, 145, 1, 1), (8, 165, 0, 72, 1, 0), (8, 168, 0, 37, 5, 0), (8, 171, 0, 80, 3, 0), (8, 179, 0, 78, 1, 0), (8, 182, 0, 68, 2, 1), (8, 221, 0, 28, 1, 0), (8, 224, 0, 29, 1, 0), (8, 227, 0, 30, 1, 0), (8, 230, 0, 85, 3, 0), (8, 233, 0, 86, 2, 0), (8, 236, 0, 87, 2, 0), (8, 239, 0, 88, 3, 0), (8, 242, 0, 13, 2, 0), (8, 248, 0, 22, 1, 0), (8, 251, 0, 15, 3, 0), (8, 257, 0, 73, 2, 0), (8, 264, 0, 20, 2, 0), (8, 267, 0, 76, 2, 0), (8, 271, 0, 40, 1, 0), (8, 274, 0, 84, 2, 0), (8, 277, 0, 79, 2, 0), (8, 280, 0, 38, 3, 0), (8, 284, 0, 41, 1, 0), (8, 287, 0, 83, 2, 0), (8, 290, 0, 81, 3, 0), (8, 294, 0, 42, 4, 0), (8, 298, 0, 39, 1, 0), (8, 301, 0, 82, 4, 0), (8, 305, 0, 1, 2, 0), (8, 308, 6, 0, 3, 0), (8, 314, 0, 27, 2, 0), (8, 317, 6, 1, 4, 0), (8, 321, 0, 77, 3, 0), (8, 324, 0, 10, 3, 0), (0, 1, 5, 0, 1, 0), (1, 9, 7, 18, 4, 0), (3, 3, 5, 0, 1, 0), (3, 31, 1, 147, 2, 1), (3, 37, 1, 146, 2, 1), (3, 40, 0, 9, 3, 0), (3, 43, 0, 14, 4, 0), (3, 47, 0, 10, 3, 0), (4, 1, 5, 0, 1, 0), (5, 3, 5, 0, 1, 0), (5, 28, 0, 21, 1, 0), (5, 31, 1, 32, 3, 0), (5, 41, 0, 23, 2, 0), (5, 45, 0, 22, 1, 0), (5, 53, 0, 33, 4, 0), (5, 56, 0, 24, 2, 0), (5, 60, 1, 145, 1, 1), (5, 68, 1, 147, 2, 1), (6, 3, 5, 0, 1, 0), (6, 22, 1, 145, 1, 1), (6, 32, 0, 34, 2, 0), (6, 36, 1, 32, 3, 0), (6, 40, 0, 35, 3, 0), (7, 3, 5, 0, 1, 0), (7, 53, 0, 38, 3, 0), (10, 9, 3, 43, 1, 0), (10, 12, 3, 89, 1, 0), (10, 13, 0, 44, 4, 0), (10, 17, 0, 99, 4, 0), (10, 18, 0, 45, 2, 0), (10, 22, 0, 101, 2, 0), (10, 23, 0, 46, 3, 0), (10, 27, 0, 102, 3, 0), (10, 28, 0, 47, 3, 0), (10, 31, 0, 104, 3, 0), (10, 32, 0, 48, 2, 0), (10, 35, 0, 105, 2, 0), (10, 36, 0, 49, 4, 0), (10, 39, 0, 106, 4, 0), (10, 40, 0, 50, 2, 0), (10, 43, 0, 107, 2, 0), (10, 44, 0, 51, 2, 0), (10, 47, 0, 108, 2, 0), (10, 48, 0, 52, 2, 0), (10, 51, 0, 114, 2, 0), (10, 52, 0, 53, 5, 0), (10, 56, 0, 116, 5, 0), (10, 57, 0, 54, 3, 0), (10, 60, 0, 117, 3, 0), (10, 61, 0, 55, 2, 0), (10, 64, 0, 118, 2, 0), (10, 65, 0, 56, 4, 0), (10, 68, 0, 126, 4, 0), (10, 69, 0, 57, 2, 0), (10, 72, 0, 133, 2, 0), (10, 73, 0, 58, 3, 0), (10, 76, 0, 135, 3, 0), (10, 77, 0, 59, 4, 0), (10, 80, 0, 136, 4, 0), (10, 81, 0, 60, 4, 0), (10, 84, 0, 137, 4, 0), (10, 85, 0, 61, 4, 0), (10, 88, 0, 139, 4, 0), (10, 89, 0, 62, 3, 0), (10, 92, 0, 141, 3, 0), (10, 93, 0, 63, 1, 0), (10, 97, 0, 142, 1, 0), (10, 98, 0, 64, 2, 0), (10, 101, 0, 144, 2, 0), (9, 1, 5, 0, 1, 0), (9, 100, 1, 90, 3, 1), (9, 104, 0, 92, 3, 1), (9, 108, 0, 93, 2, 0), (9, 112, 1, 94, 2, 1), (9, 116, 0, 95, 5, 0), (9, 120, 0, 96, 3, 0), (9, 124, 1, 91, 1, 1), (9, 128, 0, 98, 1, 0), (9, 132, 0, 97, 2, 0), (9, 136, 0, 100, 2, 1), (9, 139, 0, 120, 2, 0), (9, 142, 0, 103, 3, 0), (9, 148, 0, 111, 3, 0), (9, 151, 0, 110, 3, 0), (9, 154, 0, 109, 5, 0), (9, 158, 0, 112, 3, 0), (9, 161, 0, 115, 4, 0), (9, 167, 0, 113, 5, 0), (9, 177, 0, 121, 3, 0), (9, 180, 0, 123, 5, 0), (9, 184, 0, 122, 4, 0), (9, 187, 0, 119, 2, 0), (9, 190, 0, 124, 3, 0), (9, 196, 0, 125, 3, 0), (9, 199, 0, 129, 3, 0), (9, 202, 0, 130, 2, 0), (9, 211, 0, 128, 2, 0), (9, 214, 0, 127, 3, 0), (9, 217, 0, 131, 2, 0), (9, 220, 0, 132, 2, 0), (9, 223, 0, 134, 2, 1), (9, 226, 0, 138, 3, 0), (9, 230, 0, 140, 1, 0), (9, 233, 0, 143, 2, 0), (8, 9, 4, 6, 1, 0), (8, 24, 4, 31, 1, 0), (8, 43, 4, 0, 1, 0), (8, 74, 4, 19, 1, 0), (8, 75, 4, 36, 1, 0), (8, 76, 4, 16, 1, 0), (8, 79, 4, 4, 1, 0), (8, 82, 4, 2, 1, 0), (1, 3, 4, 4, 1, 0), (2, 1, 4, 16, 1, 0), (5, 37, 2, 69, 2, 1), (6, 28, 2, 69, 2, 1)]
def clsT : List (Nat × Nat × Nat) := [(8, 7, 3), (8, 16, 5), (8, 22, 6), (8, 29, 7), (8, 35, 4), (8, 41, 0), (8, 77, 2), (8, 80, 1), (10, 7, 8), (10, 10, 9)]
def cstT : List (Nat × Nat × Int) := [(0, 16, 1103515245), (9, 170, 1103515245), (9, 229, 1000000), (11, 265, 1431655765), (11, 266, 858993459), (11, 267, 252645135)]
def cslT : List (Nat × Nat × Int) := [(6, 44, (-1)), (9, 146, (-1)), (9, 165, 1000)]
