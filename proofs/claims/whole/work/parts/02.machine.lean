/-! ===== an abstract machine: ints as Int, references as offsets, the heap a map of cells; what it does, the machine does ===== -/
def z3 (z : Int) : Int32 := Int32.ofInt z
def z6 (z : Int) : Int64 := Int64.ofInt z
theorem z3_add (a b : Int) : z3 a + z3 b = z3 (a + b) := (Int32.ofInt_add a b).symm
theorem z3_sub (a b : Int) : z3 a - z3 b = z3 (a - b) := (Int32.ofInt_sub a b).symm
theorem z3_mul (a b : Int) : z3 a * z3 b = z3 (a * b) := (Int32.ofInt_mul a b).symm
theorem z6_add (a b : Int) : z6 a + z6 b = z6 (a + b) := (Int64.ofInt_add a b).symm
theorem z6_sub (a b : Int) : z6 a - z6 b = z6 (a - b) := (Int64.ofInt_sub a b).symm
theorem z6_mul (a b : Int) : z6 a * z6 b = z6 (a * b) := (Int64.ofInt_mul a b).symm
theorem z3_toInt (x : Int32) : z3 x.toInt = x := Int32.ofInt_toInt x
theorem z6_toInt (x : Int64) : z6 x.toInt = x := Int64.ofInt_toInt x
theorem z3_int {z : Int} (h1 : -2147483648 ≤ z) (h2 : z < 2147483648) : (z3 z).toInt = z := Int32.toInt_ofInt_of_le (by simpa using h1) (by simpa using h2)
theorem z6_int {z : Int} (h1 : -9223372036854775808 ≤ z) (h2 : z < 9223372036854775808) : (z6 z).toInt = z := Int64.toInt_ofInt_of_le (by simpa using h1) (by simpa using h2)
theorem z3_lt {a b : Int} (ha : -2147483648 ≤ a ∧ a < 2147483648) (hb : -2147483648 ≤ b ∧ b < 2147483648) : (z3 a < z3 b) = (a < b) := by
  rw [Int32.lt_iff_toInt_lt, z3_int ha.1 ha.2, z3_int hb.1 hb.2]
theorem z3_le {a b : Int} (ha : -2147483648 ≤ a ∧ a < 2147483648) (hb : -2147483648 ≤ b ∧ b < 2147483648) : (z3 a ≤ z3 b) = (a ≤ b) := by
  rw [Int32.le_iff_toInt_le, z3_int ha.1 ha.2, z3_int hb.1 hb.2]
theorem z3_eq {a b : Int} (ha : -2147483648 ≤ a ∧ a < 2147483648) (hb : -2147483648 ≤ b ∧ b < 2147483648) : (z3 a = z3 b) = (a = b) := by
  rw [← Int32.toInt_inj, z3_int ha.1 ha.2, z3_int hb.1 hb.2]
theorem z3_clamp {z : Int} (h1 : 0 ≤ z) (h2 : z < 2147483648) : (z3 z).toNatClampNeg = z.toNat := by
  have h := z3_int (z := z) (by omega) h2
  show (z3 z).toInt.toNat = _
  rw [h]
theorem z3_in {z : Int} {N : Nat} (h1 : 0 ≤ z) (h2 : z.toNat < N) (h3 : z < 2147483648) : ¬ (z3 z < 0 ∨ N ≤ (z3 z).toNatClampNeg) := by
  rw [z3_clamp h1 h3]
  intro h
  rcases h with h | h
  · have : z3 z < z3 0 := h
    rw [z3_lt (by omega) (by omega)] at this
    omega
  · omega
abbrev AV : Type := Int ⊕ (Int ⊕ Option Int)
abbrev vi (z : Int) : AV := .inl z
abbrev vl (z : Int) : AV := .inr (.inl z)
abbrev vr (c : Int) : AV := .inr (.inr (some c))
abbrev vn : AV := .inr (.inr none)
/-- an array: kind, length, contents; an object: class, fields -/
abbrev AC : Type := (Nat × Int × (Int → AV)) ⊕ (Nat × List AV)
/-- cells, slots, the map -/
abbrev AH : Type := Nat × Nat × (Int → Option AC)
/-- launch, classes, slots of fields, classes of arrays, the base, the script's address -/
abbrev ET : Type := Launch × (Nat → ClassId) × (Nat → Nat → Nat) × (Nat → ClassId) × Nat × Nat
def eL (E : ET) : Launch := E.1
def eC (E : ET) : Nat → ClassId := E.2.1
def eS (E : ET) : Nat → Nat → Nat := E.2.2.1
def eA (E : ET) : Nat → ClassId := E.2.2.2.1
def eB (E : ET) : Nat := E.2.2.2.2.1
def eb (E : ET) : Nat := E.2.2.2.2.2
def ad (E : ET) (c : Int) : Nat := if c < 0 then eb E else eB E + c.toNat
def cv (E : ET) : AV → Value
  | .inl z => .int (z3 z)
  | .inr (.inl z) => .long (z6 z)
  | .inr (.inr none) => .null
  | .inr (.inr (some c)) => .ref (ad E c)
def hset (h : AH) (c : Int) (x : AC) : AH := (h.1, h.2.1, fun c' => if c' = c then some x else h.2.2 c')
def hpush (h : AH) (n : Nat) (x : AC) : AH := (h.1 + 1, h.2.1 + n, fun c' => if c' = (h.1 : Int) then some x else h.2.2 c')
def ki : Nat → FieldType
  | 0 => .int
  | 1 => .boolean
  | 2 => .long
  | 3 => .object "WalkedWays$Row"
  | 4 => .object "WalkedWays$Walker"
  | 5 => .object "WalkedWays$Plain"
  | _ => .int
def crep (E : ET) (c : Int) (x : AC) (H : Heap) : Prop := match x with
  | .inl (k, n, f) => (0 ≤ n ∧ n ≤ 1000000) ∧ ∃ cell : Cell, H[ad E c]? = some cell ∧ cell.cls = eA E k ∧ cell.vm ≠ .unknown ∧ (∀ q, cell.vm ≠ .statics q) ∧ cell.slots.size = n.toNat ∧ ∀ j : Nat, j < n.toNat → cell.slots[j]? = some (cv E (f (j : Int)))
  | .inr (ci, fs) => ∃ r : vw_C, vwCl[ci]? = some r ∧ t_OB (ad E c) (eC E ci) r.2.2 (eS E ci) H (fun k => cv E (fs.getD k vn))
theorem crep_kept {E : ET} {c : Int} {x : AC} {H H1 : Heap} (h : crep E c x H) (h1 : H1[ad E c]? = H[ad E c]?) : crep E c x H1 := by
  rcases x with ⟨k, n, f⟩ | ⟨ci, fs⟩
  · obtain ⟨h0, ce, hc, hr⟩ := h
    exact ⟨h0, ce, by rw [h1]; exact hc, hr⟩
  · obtain ⟨r, hr, ho⟩ := h
    exact ⟨r, hr, ho.kept h1⟩
def Rep (E : ET) (h : AH) (H : Heap) : Prop := H.size = eB E + h.1 ∧ eb E < eB E ∧ ∀ (c : Int) (x : AC), h.2.2 c = some x → (-1 ≤ c ∧ c < (h.1 : Int)) ∧ crep E c x H
def KK (E : ET) (U : State) : Prop := (∀ (ci : Nat) (q : vw_C), vwCl[ci]? = some q → u_Kn U q.1 q.2.1 q.2.2 (eC E ci) (eS E ci)) ∧ (∀ k, k < 6 → ArrOfT U (eA E k) (ki k) ∧ va_RA U (eA E k) (ki k)) ∧ ArrOfT U (eA E 9) .int
theorem KK.moved {E : ET} {u U : State} (hvm : u.vm.Alike U.vm) (h : KK E u) : KK E U := ⟨fun c q hq => u_Kn_moved hvm (h.1 c q hq), fun k hk => ⟨arrOfT_moved hvm (h.2.1 k hk).1, (h.2.1 k hk).2.moved hvm⟩, arrOfT_moved hvm h.2.2⟩
theorem ad_ne {E : ET} {c c' : Int} (hb : eb E < eB E) (h1 : -1 ≤ c) (h2 : -1 ≤ c') (h : c ≠ c') : ad E c ≠ ad E c' := by
  unfold ad
  split <;> split <;> omega
theorem Rep.set {E : ET} {h : AH} {H H1 : Heap} {c : Int} {x x0 : AC} (hR : Rep E h H) (h0 : h.2.2 c = some x0) (hx : crep E c x H1) (hz : H1.size = H.size) (ho : ∀ q, q ≠ ad E c → H1[q]? = H[q]?) : Rep E (hset h c x) H1 := by
  obtain ⟨a1, a2, a3⟩ := hR
  have b1 := (a3 c x0 h0).1
  refine ⟨by rw [hz]; exact a1, a2, fun c' y hy => ?_⟩
  by_cases hcc : c' = c
  · subst hcc
    have : x = y := by simpa [hset] using hy
    subst this
    exact ⟨b1, hx⟩
  · have hy' : h.2.2 c' = some y := by simpa [hset, hcc] using hy
    obtain ⟨d1, d2⟩ := a3 c' y hy'
    exact ⟨d1, crep_kept d2 (ho _ (ad_ne a2 d1.1 b1.1 hcc))⟩
theorem ad_lt {E : ET} {h : AH} {H : Heap} (hR : Rep E h H) {c : Int} (h1 : -1 ≤ c) (h2 : c < (h.1 : Int)) : ad E c < H.size := by
  obtain ⟨a1, a2, -⟩ := hR
  rw [a1]
  unfold ad
  split <;> omega
theorem Rep.push {E : ET} {h : AH} {H H1 : Heap} {n : Nat} {x : AC} (hR : Rep E h H) (hx : crep E (h.1 : Int) x H1) (hz : H1.size = H.size + 1) (ho : ∀ q, q < H.size → H1[q]? = H[q]?) : Rep E (hpush h n x) H1 := by
  obtain ⟨a1, a2, a3⟩ := id hR
  refine ⟨by rw [hz, a1]; show _ = eB E + (h.1 + 1); omega, a2, fun c' y hy => ?_⟩
  by_cases hcc : c' = (h.1 : Int)
  · subst hcc
    have : x = y := by simpa [hpush] using hy
    subst this
    exact ⟨⟨by omega, by show (h.1 : Int) < ((h.1 + 1 : Nat) : Int); omega⟩, hx⟩
  · have hy' : h.2.2 c' = some y := by simpa [hpush, hcc] using hy
    obtain ⟨d1, d2⟩ := a3 c' y hy'
    exact ⟨⟨d1.1, by show c' < ((h.1 + 1 : Nat) : Int); omega⟩, crep_kept d2 (ho _ (ad_lt hR d1.1 d1.2))⟩
/-! words -/
def okw (w : Jvm.Cond) : Bool := goodWord w || (match w with | .methodLinkNest _ _ _ _ => true | .castable _ _ => true | .arrayOver (.object _) => true | _ => false)
def WS : List Jvm.Cond := lw_tbl.filter okw
theorem WS_pay {args : Array Value} {s : State} (hts : ∀ w ∈ WS, w.before args s = true) : ∀ w ∈ WS, ∀ (a' : Array Value) (U : State), s.WarmedH U.vm → w.before a' U = true := by
  intro w hw a' U hW
  have h1 := hts w hw
  have h2 : okw w = true := (List.mem_filter.mp hw).2
  unfold okw at h2
  rw [Bool.or_eq_true] at h2
  rcases h2 with h2 | h2
  · exact word_at hW (good_of_word h2) h1
  · split at h2
    · exact va_Nw.use rfl (va_Nw.warmM hW (va_Nw.of rfl h1))
    · exact va_Nw.use rfl (va_Nw.warmC hW (va_Nw.of rfl h1))
    · exact Cond.arrayOver_alike hW.alike h1
    · cases h2
/-! contracts -/
/-- a method: name, code, locals, what it returns, parameters (its own object not counted) -/
abbrev MT : Type := MethodName × ByteArray × Nat × Option FieldType × Nat
def cPc (E : ET) (as : List AV) (h : AH) : Array Value → State → Prop := fun v U => v = (as.map (cv E)).toArray ∧ Rep E h U.heap ∧ KK E U
def cQc (E : ET) (r : Option AV) (h' : AH) : Array Value → State → Outcome → State → Prop := fun _ st oc t => oc = .returned (r.map (cv E)) ∧ Rep E h' t.heap ∧ ∀ q : Nat, q < eB E → t.heap[q]? = st.heap[q]?
def CtrM (E : ET) (d : Nat) (y : MT) (as : List AV) (h : AH) (r : Option AV) (h' : AH) : Prop :=
  Met (eL E) y.1 (Jvm.Cond.code y.1 y.2.1 y.2.2.1 y.2.2.2.1 :: WS) { frames := d, cells := h'.1 - h.1, slots := h'.2.1 - h.2.1, locals := 38 * d } (cPc E as h) (cQc E r h') (h'.1 - h.1) (h'.2.1 - h.2.1) (fun q => eB E ≤ q)
/-! frames -/
abbrev LV : Type := List (Option AV)
def LR (E : ET) (ls : Array Slot) (nL : Nat) (L : LV) : Prop := ls.size = nL ∧ lv_wf ls ∧ L.length = nL ∧ ∀ (i : Nat) (v : AV), L[i]? = some (some v) → ls[i]? = some (.val (cv E v))
/-- program, choices, room, start, method, arguments, below, method, code, goal; cells and slots at the start -/
abbrev GT : Type := Program × Env × Room × State × MethodId × Array Value × List Frame × Method × Code × (State → Prop) × Nat × Nat
def gW (E : ET) (g : GT) (H : Heap) (locs : List Loc) (k n : Nat) (pc : Nat) (ls : Array Slot) (st : List Value) : Prop := match g with
  | (p, e, R, s, m, args, below, meth, c, Q, _, _) => W p (eL E) e R s m args below meth c H locs k n Q (F0 m pc ls st)
def ownS (o : Nat) : String := [RX0, RX1, RX2, RX3, RX4, RX5, RX6, RX7, RX8, RX9, RL, RJ6, RJ9].getD o ""
/-- own class, code, locals, kind of return, whether it is a constructor -/
abbrev MI : Type := Nat × ByteArray × Nat × Nat × Bool
def Sc (E : ET) (s : State) (H : Heap) (locs : List Loc) : Prop := (∀ q : Nat, q < eB E → H[q]? = s.heap[q]?) ∧ ∀ x ∈ locs, eB E ≤ x.base
def retd (rk : Nat) (v : Option AV) (i : Except DecodeError (Instr × Nat)) : Prop := match rk with
  | 0 => i = .ok (.ireturn, 1) ∧ ∃ z, v = some (vi z)
  | 1 => i = .ok (.ireturn, 1) ∧ (v = some (vi 0) ∨ v = some (vi 1))
  | 2 => i = .ok (.lreturn, 1) ∧ ∃ z, v = some (vl z)
  | 3 => i = .ok (.areturn, 1) ∧ ∃ c, v = some (vr c)
  | _ => i = .ok (.return_, 1) ∧ v = none
abbrev RTy : Type := Option AV → AH → Prop
def In4 (c0 s0 : Nat) (lm : Nat × Nat) (h : AH) : Prop := c0 ≤ h.1 ∧ h.1 ≤ lm.1 ∧ s0 ≤ h.2.1 ∧ h.2.1 ≤ lm.2
def Ok (E : ET) (g : GT) (mi : MI) (d : Nat) (lm : Nat × Nat) (RT : RTy) : Prop := match g with
  | (p, e, R, s, m, args, below, meth, c, Q, c0, s0) =>
    p.tables.exec = Jvm.exec ∧ c.code = mi.2.1 ∧ c.maxLocals = mi.2.2.1 ∧ s.vm.findClass (ownS mi.1) = some m.cls ∧ (∀ w ∈ WS, w.before args s = true) ∧ KK E s ∧ (d ≤ R.frames ∧ 38 * d ≤ R.locals) ∧ (lm.1 ≤ c0 + R.cells ∧ lm.2 ≤ s0 + R.slots) ∧ (mi.2.2.2.2 = true → meth.name = "<init>") ∧
    ∀ (v : Option AV) (h : AH) (H : Heap) (locs : List Loc) (ls : Array Slot) (pc : Nat), In4 c0 s0 lm h → retd mi.2.2.2.1 v (decode mi.2.1 pc) → RT v h → Rep E h H → Sc E s H locs → gW E g H locs (h.1 - c0) (h.2.1 - s0) pc ls (v.toList.map (cv E))
def G (E : ET) (g : GT) (mi : MI) (d : Nat) (lm : Nat × Nat) (RT : RTy) (pc : Nat) (L : LV) (st : List AV) (h : AH) : Prop := match g with
  | (p, e, R, s, m, args, below, meth, c, Q, c0, s0) =>
    Ok E g mi d lm RT → ∀ (H : Heap) (locs : List Loc) (ls : Array Slot), Rep E h H → Sc E s H locs → LR E ls mi.2.2.1 L → In4 c0 s0 lm h → gW E g H locs (h.1 - c0) (h.2.1 - s0) pc ls (st.map (cv E))
