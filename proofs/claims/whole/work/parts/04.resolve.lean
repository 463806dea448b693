/-! ===== from decoded instructions to the abstract machine's ===== -/
def gd (b : Bool) (x : PT) : Option PT := if b then some x else none
theorem gd_some {b : Bool} {x y : PT} (h : gd b x = some y) : b = true ∧ x = y := by
  unfold gd at h
  split at h
  · rename_i hb
    exact ⟨hb, Option.some.inj h⟩
  · cases h
def cn : ClassFile.Cond → Int
  | .eq => 0
  | .ne => 1
  | .lt => 2
  | .ge => 3
  | .gt => 4
  | .le => 5
def fF (o i : Nat) : Option (Nat × Nat × Nat × Nat × Nat × Nat) := fldT.find? (fun e => e.1 == o && e.2.1 == i)
def fM (o i : Nat) : Option (Nat × Nat × Nat × Nat × Nat × Nat) := calT.find? (fun e => e.1 == o && e.2.1 == i)
def fC (o i : Nat) : Option (Nat × Nat × Nat) := clsT.find? (fun e => e.1 == o && e.2.1 == i)
def fK (o i : Nat) : Option (Nat × Nat × Int) := cstT.find? (fun e => e.1 == o && e.2.1 == i)
def fKL (o i : Nat) : Option (Nat × Nat × Int) := cslT.find? (fun e => e.1 == o && e.2.1 == i)
def aK : Nat → Option Int
  | 5 => some 3
  | 7 => some 4
  | 4 => some 5
  | _ => none
def rsv (o rk : Nat) (ini : Bool) (pc len : Nat) : Instr → Option PT
  | .iconst n => gd (len == 1) (0, n, 0, pc + 1, [])
  | .bipush n => gd (len == 2 && decide (-128 ≤ n ∧ n < 128)) (0, n, 0, pc + 2, [])
  | .sipush n => gd (len == 3 && decide (-32768 ≤ n ∧ n < 32768)) (0, n, 0, pc + 3, [])
  | .ldc i => (fK o i).bind fun e => gd (len == 2) (0, e.2.2, 0, pc + 2, [])
  | .ldc_w i => (fK o i).bind fun e => gd (len == 3) (0, e.2.2, 0, pc + 3, [])
  | .lconst l => gd (len == 1) (27, (l.val : Int), 0, pc + 1, [])
  | .ldc2_w i => (fKL o i).bind fun e => gd (len == 3) (27, e.2.2, 0, pc + 3, [])
  | .iload_n k => gd (len == 1) (1, (k.val : Int), 0, pc + 1, [])
  | .iload k => gd (len == 2) (1, (k : Int), 0, pc + 2, [])
  | .aload_n k => gd (len == 1) (2, (k.val : Int), 0, pc + 1, [])
  | .aload k => gd (len == 2) (2, (k : Int), 0, pc + 2, [])
  | .lload_n k => gd (len == 1) (3, (k.val : Int), 0, pc + 1, [])
  | .lload k => gd (len == 2) (3, (k : Int), 0, pc + 2, [])
  | .istore_n k => gd (len == 1) (4, (k.val : Int), 0, pc + 1, [])
  | .istore k => gd (len == 2) (4, (k : Int), 0, pc + 2, [])
  | .astore_n k => gd (len == 1) (5, (k.val : Int), 0, pc + 1, [])
  | .astore k => gd (len == 2) (5, (k : Int), 0, pc + 2, [])
  | .lstore_n k => gd (len == 1) (6, (k.val : Int), 0, pc + 1, [])
  | .lstore k => gd (len == 2) (6, (k : Int), 0, pc + 2, [])
  | .iinc k n => gd (len == 3) (7, (k : Int), n, pc + 3, [])
  | .iadd => gd (len == 1) (8, 0, 0, pc + 1, [])
  | .isub => gd (len == 1) (9, 0, 0, pc + 1, [])
  | .imul => gd (len == 1) (10, 0, 0, pc + 1, [])
  | .idiv => gd (len == 1) (11, 0, 0, pc + 1, [])
  | .irem => gd (len == 1) (12, 0, 0, pc + 1, [])
  | .iand => gd (len == 1) (13, 0, 0, pc + 1, [])
  | .ior => gd (len == 1) (14, 0, 0, pc + 1, [])
  | .ixor => gd (len == 1) (15, 0, 0, pc + 1, [])
  | .ishl => gd (len == 1) (16, 0, 0, pc + 1, [])
  | .ishr => gd (len == 1) (17, 0, 0, pc + 1, [])
  | .iushr => gd (len == 1) (18, 0, 0, pc + 1, [])
  | .ladd => gd (len == 1) (19, 0, 0, pc + 1, [])
  | .lsub => gd (len == 1) (20, 0, 0, pc + 1, [])
  | .lmul => gd (len == 1) (21, 0, 0, pc + 1, [])
  | .ldiv => gd (len == 1) (22, 0, 0, pc + 1, [])
  | .lrem => gd (len == 1) (23, 0, 0, pc + 1, [])
  | .lcmp => gd (len == 1) (24, 0, 0, pc + 1, [])
  | .i2l => gd (len == 1) (25, 0, 0, pc + 1, [])
  | .l2i => gd (len == 1) (26, 0, 0, pc + 1, [])
  | .dup => gd (len == 1) (28, 0, 0, pc + 1, [])
  | .dup2 => gd (len == 1) (29, 0, 0, pc + 1, [])
  | .pop => gd (len == 1) (30, 0, 0, pc + 1, [])
  | .ifCond c off => gd (len == 3 && decide (0 ≤ (pc : Int) + off)) (31, cn c, (pc : Int) + off, pc + 3, [])
  | .if_icmp c off => gd (len == 3 && decide (0 ≤ (pc : Int) + off)) (32, cn c, (pc : Int) + off, pc + 3, [])
  | .goto off => gd (len == 3 && decide (0 ≤ (pc : Int) + off)) (33, (pc : Int) + off, 0, 0, [])
  | .tableswitch df lo hi offs => gd (decide (hi + 1 = lo + offs.toList.length ∧ 0 ≤ (pc : Int) + df) && offs.toList.all (fun o => decide (0 ≤ (pc : Int) + o))) (34, lo, (pc : Int) + df, 0, offs.toList.map (fun o => ((pc : Int) + o).toNat))
  | .getfield i => (fF o i).bind fun e => gd (len == 3) (35, (e.2.2.1 : Int), (e.2.2.2.1 : Int), pc + 3, [])
  | .putfield i => (fF o i).bind fun e => if e.2.2.2.2.2 == 0 then gd (len == 3) (36, (e.2.2.1 : Int), (e.2.2.2.1 : Int), pc + 3, [e.2.2.2.2.1]) else gd (len == 3 && ini && e.2.2.1 == o) (37, (e.2.2.1 : Int), (e.2.2.2.1 : Int), pc + 3, [e.2.2.2.2.1])
  | .iaload => gd (len == 1) (38, 0, 0, pc + 1, [])
  | .baload => gd (len == 1) (38, 1, 0, pc + 1, [])
  | .laload => gd (len == 1) (38, 2, 0, pc + 1, [])
  | .iastore => gd (len == 1) (39, 0, 0, pc + 1, [])
  | .bastore => gd (len == 1) (39, 1, 0, pc + 1, [])
  | .lastore => gd (len == 1) (39, 2, 0, pc + 1, [])
  | .aaload => gd (len == 1) (49, 0, 0, pc + 1, [])
  | .aastore => gd (len == 1) (50, 0, 0, pc + 1, [])
  | .arraylength => gd (len == 1) (40, 0, 0, pc + 1, [])
  | .new i => (fC o i).bind fun e => gd (len == 3) (41, (e.2.2 : Int), 0, pc + 3, [])
  | .newarray .int => gd (len == 2) (42, 0, 0, pc + 2, [])
  | .newarray .boolean => gd (len == 2) (42, 1, 0, pc + 2, [])
  | .newarray .long => gd (len == 2) (42, 2, 0, pc + 2, [])
  | .anewarray i => (fC o i).bind fun e => (aK e.2.2).bind fun k => gd (len == 3) (43, k, 0, pc + 3, [])
  | .invokevirtual i => (fM o i).bind fun e => match e.2.2.1 with
    | 0 => if e.2.2.2.2.2 == 0 then gd (len == 3) (51, (e.2.2.2.1 : Int), (e.2.2.2.2.1 : Int), pc + 3, [mcl e.2.2.2.1]) else gd (len == 3) (52, (e.2.2.2.1 : Int), (e.2.2.2.2.1 : Int), pc + 3, [mcl e.2.2.2.1])
    | 6 => gd (len == 3) (46, (e.2.2.2.1 : Int), (e.2.2.2.2.1 : Int), pc + 3, [])
    | _ => none
  | .invokestatic i => (fM o i).bind fun e => match e.2.2.1 with
    | 1 => if e.2.2.2.2.2 == 0 then gd (len == 3) (44, (e.2.2.2.1 : Int), (e.2.2.2.2.1 : Int), pc + 3, []) else gd (len == 3) (45, (e.2.2.2.1 : Int), (e.2.2.2.2.1 : Int), pc + 3, [])
    | 2 => if e.2.2.2.2.2 == 0 then gd (len == 3) (44, (e.2.2.2.1 : Int), (e.2.2.2.2.1 : Int), pc + 3, []) else gd (len == 3) (45, (e.2.2.2.1 : Int), (e.2.2.2.2.1 : Int), pc + 3, [])
    | _ => none
  | .invokespecial i => (fM o i).bind fun e => match e.2.2.1 with
    | 3 => gd (len == 3) (53, (e.2.2.2.1 : Int), (e.2.2.2.2.1 : Int), pc + 3, [])
    | 4 => gd (len == 3) (53, (e.2.2.2.1 : Int), (e.2.2.2.2.1 : Int), pc + 3, [])
    | 5 => gd (len == 3) (47, 0, 0, pc + 3, [])
    | 7 => gd (len == 3) (51, (e.2.2.2.1 : Int), (e.2.2.2.2.1 : Int), pc + 3, [1])
    | _ => none
  | .ireturn => gd (len == 1 && (rk == 0 || rk == 1)) (48, (rk : Int), 0, 0, [])
  | .lreturn => gd (len == 1 && rk == 2) (48, 2, 0, 0, [])
  | .areturn => gd (len == 1 && rk == 3) (48, 3, 0, 0, [])
  | .return_ => gd (len == 1 && rk == 4) (48, 4, 0, 0, [])
  | _ => none
def okPt (mi : MI) (pc : Nat) (pt : PT) : Prop := ∃ (i : Instr) (len : Nat), decode mi.2.1 pc = .ok (i, len) ∧ rsv mi.1 mi.2.2.2.1 mi.2.2.2.2 pc len i = some pt
def tOk (mi : MI) (T : List (Nat × PT)) : Bool := T.all fun e => match decode mi.2.1 e.1 with
  | .ok (i, len) => decide (rsv mi.1 mi.2.2.2.1 mi.2.2.2.2 e.1 len i = some e.2)
  | .error _ => false
theorem tOk_spec {mi : MI} {T : List (Nat × PT)} (h : tOk mi T = true) {pc : Nat} {pt : PT} (hm : (pc, pt) ∈ T) : okPt mi pc pt := by
  have h1 := List.all_eq_true.mp h _ hm
  dsimp only at h1
  split at h1
  · rename_i i len hd
    exact ⟨i, len, hd, of_decide_eq_true h1⟩
  · cases h1
