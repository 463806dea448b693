/-! ===== calls ===== -/
theorem cal_at {o i : Nat} {e : Nat × Nat × Nat × Nat × Nat × Nat} (h : fM o i = some e) : e.1 = o ∧ e.2.1 = i ∧ calOk e = true ∧ ∀ w ∈ calW e, w ∈ WS := by
  have hm := List.mem_of_find?_eq_some h
  have hp := List.find?_some h
  simp only [Bool.and_eq_true, beq_iff_eq] at hp
  exact ⟨hp.1, hp.2, calT_at hm⟩
theorem cPc_blind {E : ET} {as : List AV} {h : AH} : FrameBlind (cPc E as h) := fun a U g mk q => ⟨q.1, q.2.1, KK.moved (u := U) (U := U.calling g mk a) (Vm.Alike.refl U.vm) q.2.2⟩
theorem yOk_spec {y : MT} (h : yOk y = true) : (y.1.cls ≠ "java/lang/invoke/MethodHandle" ∧ y.1.cls ≠ "java/lang/invoke/VarHandle") ∧ (parseMethodDescriptor y.1.desc).map (fun d => d.parameters.length) = some y.2.2.2.2 ∧ y.2.2.1 ≤ 19 ∧ plainFor y.1 = true := by
  simp only [yOk, Bool.and_eq_true, decide_eq_true_eq] at h
  exact ⟨h.1.1.1, h.1.1.2, h.1.2, h.2⟩
theorem len_of {y : MT} {n : Nat} (h : (parseMethodDescriptor y.1.desc).map (fun d => d.parameters.length) = some n) : ∀ sig, parseMethodDescriptor y.1.desc = some sig → n = sig.parameters.length := by
  intro sig hs
  rw [hs] at h
  exact (Option.some.inj h).symm
theorem room_st {E : ET} {st : List AV} (h : st.length ≤ 4) : ((st.map (cv E)).map fun v => v.category).sum ≤ 8 := by
  have key : ∀ l : List AV, ((l.map (cv E)).map fun v => v.category).sum ≤ 2 * l.length := by
    intro l
    induction l with
    | nil => simp
    | cons v t ih =>
      have hv : (cv E v).category ≤ 2 := by rcases lv_cat (cv E v) with q | q <;> omega
      simp only [List.map_cons, List.sum_cons, List.length_cons]
      omega
  have := key st
  omega
theorem room_sw {E : ET} {st : List AV} (h : cwt st ≤ 8) : ((st.map (cv E)).map fun v => v.category).sum ≤ 8 := by
  have key : ∀ l : List AV, ((l.map (cv E)).map fun v => v.category).sum ≤ cwt l := by
    intro l
    induction l with
    | nil => exact Nat.le_refl 0
    | cons v t ih =>
      simp only [List.map_cons, List.sum_cons]
      rcases v with z | z | z
      · have hv : (cv E (.inl z)).category = 1 := rfl
        show _ ≤ cwt t + 1; omega
      · have hv : (cv E (.inr (.inl z))).category ≤ 2 := by rcases lv_cat (cv E (.inr (.inl z))) with q | q <;> omega
        show _ ≤ cwt t + 2; omega
      · have hv : (cv E (.inr (.inr z))).category = 1 := by cases z <;> rfl
        show _ ≤ cwt t + 1; omega
  exact Nat.le_trans (key st) h
theorem WSc_pay {args : Array Value} {s : State} (hts : ∀ w ∈ WS, w.before args s = true) {y : MT} (hy : Jvm.Cond.code y.1 y.2.1 y.2.2.1 y.2.2.2.1 ∈ WS) : ∀ w ∈ (Jvm.Cond.code y.1 y.2.1 y.2.2.1 y.2.2.2.1 :: WS), ∀ (a' : Array Value) (U : State), s.WarmedH U.vm → w.before a' U = true := by
  intro w hw
  rcases List.mem_cons.mp hw with rfl | hw
  · exact WS_pay hts _ hy
  · exact WS_pay hts _ hw
/-- behind a call -/
theorem call_go {E : ET} {p : Program} {e : Env} {R : Room} {s : State} {m : MethodId} {args : Array Value} {below : List Frame} {meth : Method} {c : Code} {H : Heap} {locs : List Loc} {k n mc ms pc : Nat} {Q : State → Prop} {ls : Array Slot} {st0 rest : List Value} {r : Option AV} {h' : AH} {a : Array Value}
    (hr : va_Run p (eL E) e R s m args below meth c H locs k n mc ms (F0 m pc ls st0) rest (cQc E r h' a) (fun q => eB E ≤ q)) (hS : Sc E s H locs)
    (kk : ∀ (H1 : Heap) (locs1 : List Loc), Rep E h' H1 → Sc E s H1 locs1 → W p (eL E) e R s m args below meth c H1 locs1 (k + mc) (n + ms) Q (F0 m (pc + 3) ls ((r.map (cv E)).toList ++ rest))) : W p (eL E) e R s m args below meth c H locs k n Q (F0 m pc ls st0) := by
  intro T hT X
  obtain ⟨v, st₀, t, T', Ls, h0, X', hL, e1, e2, ⟨hv, hR', hfr⟩, st⟩ := hr T hT X
  cases hv
  obtain ⟨t2, a1, b1⟩ := kk T'.heap (locs ++ Ls) (by rw [e1]; exact hR') ⟨fun q hq => by rw [e1, hfr q hq, h0]; exact hS.1 q hq, fun x hx => by
    rcases List.mem_append.mp hx with q | q
    · exact hS.2 x q
    · exact hL x q⟩ T' rfl X'
  exact ⟨t2, st t2 a1, b1⟩
theorem tk_rv {E : ET} {st : List AV} {n : Nat} : st.map (cv E) = (((st.take n).reverse).map (cv E)).reverse ++ (st.drop n).map (cv E) := by
  rw [← List.map_reverse, List.reverse_reverse, ← List.map_append, List.take_append_drop]
theorem hd_rv {st : List AV} {n : Nat} {v : AV} (h : st[n]? = some v) : (st.take (n + 1)).reverse = v :: (st.take n).reverse := by
  rw [List.take_add_one, h]
  simp
theorem opt_map_toList {E : ET} (r : Option AV) (st : List AV) : (r.toList ++ st).map (cv E) = (r.map (cv E)).toList ++ st.map (cv E) := by
  cases r <;> simp
section SC
variable {E : ET} {g : GT} {mi : MI} {d : Nat} {lm : Nat × Nat} {RT : RTy} {F : FT} {K : KT} {L : LV} {st : List AV} {h : AH} {pc : Nat}
theorem s_objI {i : Nat} {e0 : Nat × Nat × Nat × Nat × Nat × Nat} (hf : fM mi.1 i = some e0) (hk : e0.2.2.1 = 5) (hd : decode mi.2.1 pc = .ok (.invokespecial i, 3)) (hK : ∀ pc L st h, K pc L st h → G E g mi d lm RT pc L st h) (hx : exI E d lm RT F K (47, 0, 0, pc + 3, []) L st h) : G E g mi d lm RT pc L st h := by
  obtain ⟨p, e, R, s, m, args, below, meth, c, Q, c0, s0⟩ := g
  intro ok H locs ls hR hS hL hI
  obtain ⟨e1, e2, e3, e4, e5, e6, e7, e8, e9, e10⟩ := id ok
  obtain ⟨o', i', kd, j, na, lf⟩ := e0
  obtain ⟨rfl, rfl, hok, hw⟩ := cal_at hf
  dsimp only at hk
  subst hk
  rcases st with _ | ⟨(x | x | (_ | cc)), st⟩ <;> try exact hx.elim
  obtain ⟨hd1, hst, hx⟩ := hx
  have w1 := e5 _ (hw (.methodLink (ownS mi.1) i' objectInit) (by simp [calW]))
  have w2 := e5 _ (hw (.instanceMethod objectInit) (by simp [calW]))
  have w3 := e5 _ (hw (.code objectInit ⟨#[0xb1]⟩ 1 none) (by simp [calW]))
  refine W.objInit (g := F0 m pc ls (.ref (ad E cc) :: st.map (cv E))) e1 e2 e4 w1 w2 w3 rfl (by rw [e3]; exact hL.1) rfl hd (by omega) ?_ (hK _ _ _ _ hx ok H locs ls hR hS hL hI)
  have := lv_room (m := m) (pc := pc) (ls := ls) (rest := .ref (ad E cc) :: st.map (cv E)) (room_st (E := E) hst)
  omega
/-- what all calls share: the callee's contract, its room -/
theorem s_call {y : MT} {as rest : List AV} {nx : Nat} (hnx : nx = pc + 3) (hcall : ∀ (p : Program) (e : Env) (R : Room) (s : State) (m : MethodId) (args : Array Value) (below : List Frame) (meth : Method) (c : Code) (H : Heap) (locs : List Loc) (k n : Nat) (ls : Array Slot) (d0 : Nat) (r : Option AV) (h' : AH),
      p.tables.exec = Jvm.exec → c.code = mi.2.1 → c.maxLocals = mi.2.2.1 → s.vm.findClass (ownS mi.1) = some m.cls → (∀ w ∈ WS, w.before args s = true) → KK E s → d0 + 1 ≤ R.frames ∧ 8 + (y.2.2.1 + 11) + 38 * d0 ≤ R.locals → ls.size = mi.2.2.1 → Rep E h H → CtrM E d0 y as h r h' → cwt rest ≤ 8 → k + (h'.1 - h.1) ≤ R.cells ∧ n + (h'.2.1 - h.2.1) ≤ R.slots →
      va_Run p (eL E) e R s m args below meth c H locs k n (h'.1 - h.1) (h'.2.1 - h.2.1) (F0 m pc ls (st.map (cv E))) (rest.map (cv E)) (cQc E r h' (as.map (cv E)).toArray) (fun q => eB E ≤ q)) (hy : y.2.2.1 ≤ 19)
    (hK : ∀ pc L st h, K pc L st h → G E g mi d lm RT pc L st h) (hx : ∃ (d0 : Nat) (r : Option AV) (h' : AH), d0 + 1 ≤ d ∧ CtrM E d0 y as h r h' ∧ (h.1 ≤ h'.1 ∧ (h'.1 = h.1 ∨ h'.1 ≤ lm.1) ∧ h.2.1 ≤ h'.2.1 ∧ (h'.2.1 = h.2.1 ∨ h'.2.1 ≤ lm.2)) ∧ cwt rest ≤ 8 ∧ K nx L (r.toList ++ rest) h') : G E g mi d lm RT pc L st h := by
  subst hnx
  obtain ⟨p, e, R, s, m, args, below, meth, c, Q, c0, s0⟩ := g
  intro ok H locs ls hR hS hL hI
  obtain ⟨e1, e2, e3, e4, e5, e6, e7, e8, e9, e10⟩ := id ok
  obtain ⟨d0, r, h', hd0, hC, hlim, hrest, hx⟩ := hx
  obtain ⟨i1, i2, i3, i4⟩ := hI
  refine call_go (hcall p e R s m args below meth c H locs (h.1 - c0) (h.2.1 - s0) ls d0 r h' e1 e2 e3 e4 e5 e6 (by omega) hL.1 hR hC hrest (by omega)) hS fun H1 locs1 hR1 hS1 => ?_
  have hk := hK _ _ _ _ hx ok H1 locs1 ls hR1 hS1 hL ⟨by omega, by omega, by omega, by omega⟩
  rw [opt_map_toList] at hk
  have q1 : h'.1 - c0 = h.1 - c0 + (h'.1 - h.1) := by omega
  have q2 : h'.2.1 - s0 = h.2.1 - s0 + (h'.2.1 - h.2.1) := by omega
  rw [q1, q2] at hk
  exact hk
theorem s_static {i : Nat} {e0 : Nat × Nat × Nat × Nat × Nat × Nat} (hf : fM mi.1 i = some e0) (hk : e0.2.2.1 = 1) (hd : decode mi.2.1 pc = .ok (.invokestatic i, 3)) (hK : ∀ pc L st h, K pc L st h → G E g mi d lm RT pc L st h) (hl : e0.2.2.2.2.1 ≤ st.length) (hx : callK E d lm K (pc + 3) e0.2.2.2.1 (st.take e0.2.2.2.2.1).reverse L (st.drop e0.2.2.2.2.1) h) : G E g mi d lm RT pc L st h := by
  obtain ⟨o', i', kd, j, na, lf⟩ := e0
  obtain ⟨ho, hi, hok, hw⟩ := cal_at hf
  dsimp only at ho hi hk hl hx
  subst ho hi hk
  simp only [calOk, Bool.and_eq_true, decide_eq_true_eq] at hok
  obtain ⟨hy0, hna⟩ := hok
  obtain ⟨y1, y2, y3, y4⟩ := yOk_spec hy0
  refine s_call (y := mt j) rfl ?_ y3 hK hx
  intro p e R s m args below meth c H locs k n ls d0 r h' e1 e2 e3 e4 e5 e6 e7 hls hR hC hrest hroom
  have w1 : Jvm.Cond.code (mt j).1 (mt j).2.1 (mt j).2.2.1 (mt j).2.2.2.1 ∈ WS := hw _ (by simp [calW, yW])
  have w2 := e5 _ (hw (.initialized (mt j).1.cls) (by simp [calW, yW]))
  have w3 := e5 _ (hw (.methodLink (ownS mi.1) i' (mt j).1) (by simp [calW]))
  have w4 := e5 _ (hw (.static (mt j).1) (by simp [calW]))
  exact va_runS (g := F0 m pc ls (st.map (cv E))) (n := (mt j).2.2.2.2) (As := ((st.take na).reverse).map (cv E)) (rest := (st.drop na).map (cv E)) ⟨e1, e2, e3, e4, e5⟩ hC ⟨⟨rfl, rfl, e7.1, e7.2, WSc_pay e5 w1, List.mem_cons_self, e5 _ w1, w2, y1, len_of y2, w3⟩, w4⟩ ⟨cPc_blind, fun U hU hW => ⟨rfl, by rw [hU]; exact hR, KK.moved hW.alike e6⟩⟩ rfl (by simp [List.length_take]; omega) hls tk_rv (lv_room (room_sw hrest)) hd hroom
theorem s_staticN {i : Nat} {e0 : Nat × Nat × Nat × Nat × Nat × Nat} (hf : fM mi.1 i = some e0) (hk : e0.2.2.1 = 2) (hd : decode mi.2.1 pc = .ok (.invokestatic i, 3)) (hK : ∀ pc L st h, K pc L st h → G E g mi d lm RT pc L st h) (hl : e0.2.2.2.2.1 ≤ st.length) (hx : callK E d lm K (pc + 3) e0.2.2.2.1 (st.take e0.2.2.2.2.1).reverse L (st.drop e0.2.2.2.2.1) h) : G E g mi d lm RT pc L st h := by
  obtain ⟨o', i', kd, j, na, lf⟩ := e0
  obtain ⟨ho, hi, hok, hw⟩ := cal_at hf
  dsimp only at ho hi hk hl hx
  subst ho hi hk
  simp only [calOk, Bool.and_eq_true, decide_eq_true_eq] at hok
  obtain ⟨hy0, hna⟩ := hok
  obtain ⟨y1, y2, y3, y4⟩ := yOk_spec hy0
  refine s_call (y := mt j) rfl ?_ y3 hK hx
  intro p e R s m args below meth c H locs k n ls d0 r h' e1 e2 e3 e4 e5 e6 e7 hls hR hC hrest hroom
  have w1 : Jvm.Cond.code (mt j).1 (mt j).2.1 (mt j).2.2.1 (mt j).2.2.2.1 ∈ WS := hw _ (by simp [calW, yW])
  have w2 := e5 _ (hw (.initialized (mt j).1.cls) (by simp [calW, yW]))
  have w3 := e5 _ (hw (.methodLinkNest (ownS mi.1) i' (mt j).1 "WalkedWays") (by simp [calW]))
  have w4 := e5 _ (hw (.static (mt j).1) (by simp [calW]))
  exact va_runSN (g := F0 m pc ls (st.map (cv E))) (n := (mt j).2.2.2.2) (As := ((st.take na).reverse).map (cv E)) (rest := (st.drop na).map (cv E)) ⟨e1, e2, e3, e4, e5⟩ hC ⟨⟨⟨rfl, rfl, e7.1, e7.2, WSc_pay e5 w1, List.mem_cons_self⟩, e5 _ w1, w2, y1, len_of y2, w3⟩, w4, trivial⟩ ⟨cPc_blind, fun U hU hW => ⟨rfl, by rw [hU]; exact hR, KK.moved hW.alike e6⟩⟩ rfl (by simp [List.length_take]; omega) hls tk_rv (lv_room (room_sw hrest)) hd hroom
theorem ob_recv {U : State} {H : Heap} {c : Int} {ci : Nat} (hK : KK E U) (hR : Rep E h H) (hci : ci < 10) (ho : isOb h c ci) : ∃ cellB : Cell, H[ad E c]? = some cellB ∧ cellB.vm.isStatics = false ∧ U.vm.findClass (ownS ci) = some cellB.cls ∧ cellB.cls = eC E ci := by
  unfold isOb at ho
  split at ho
  · rename_i ci' fs hcell
    subst ho
    obtain ⟨-, r, hr, cell, q1, q2, q3, q4⟩ := hR.2.2 _ _ hcell
    exact ⟨cell, q1, by rw [q3]; rfl, by rw [q2]; exact (hK.1 ci' _ (vwCl_at hci)).2.1, q2⟩
  · exact ho.elim
theorem s_virt {i : Nat} {e0 : Nat × Nat × Nat × Nat × Nat × Nat} (hf : fM mi.1 i = some e0) (hk : e0.2.2.1 = 0) (hd : decode mi.2.1 pc = .ok (.invokevirtual i, 3)) (hK : ∀ pc L st h, K pc L st h → G E g mi d lm RT pc L st h) {cc : Int} (hl : st[e0.2.2.2.2.1 - 1]? = some (vr cc)) (hob : isOb h cc (mcl e0.2.2.2.1)) (hx : callK E d lm K (pc + 3) e0.2.2.2.1 (st.take e0.2.2.2.2.1).reverse L (st.drop e0.2.2.2.2.1) h) : G E g mi d lm RT pc L st h := by
  obtain ⟨o', i', kd, j, na, lf⟩ := e0
  obtain ⟨ho, hi, hok, hw⟩ := cal_at hf
  dsimp only at ho hi hk hl hx hob
  subst ho hi hk
  simp only [calOk, Bool.and_eq_true, decide_eq_true_eq] at hok
  obtain ⟨⟨hy0, hna⟩, hm1, hm2⟩ := hok
  obtain ⟨y1, y2, y3, y4⟩ := yOk_spec hy0
  have hlt : (mt j).2.2.2.2 < st.length := by
    have := (List.getElem?_eq_some_iff.mp hl).1
    omega
  have hst : (st.take na).reverse = vr cc :: (st.take (mt j).2.2.2.2).reverse := by rw [hna]; exact hd_rv (by rw [hna] at hl; exact hl)
  refine s_call (y := mt j) rfl ?_ y3 hK hx
  intro p e R s m args below meth c H locs k n ls d0 r h' e1 e2 e3 e4 e5 e6 e7 hls hR hC hrest hroom
  have w1 : Jvm.Cond.code (mt j).1 (mt j).2.1 (mt j).2.2.1 (mt j).2.2.2.1 ∈ WS := hw _ (by simp [calW, yW])
  have w2 := e5 _ (hw (.initialized (mt j).1.cls) (by simp [calW, yW]))
  have w3 := e5 _ (hw (.methodLink (ownS mi.1) i' (mt j).1) (by simp [calW]))
  have w4 := e5 _ (hw (.instanceMethod (mt j).1) (by simp [calW]))
  have w5 := e5 _ (hw (.selects (mt j).1.cls (mt j).1 (mt j).1) (by simp [calW]))
  obtain ⟨cellB, b1, b2, b3, -⟩ := ob_recv e6 hR hm1 hob
  rw [hst] at hC ⊢
  refine va_runV (g := F0 m pc ls (st.map (cv E))) (b := ad E cc) (n := (mt j).2.2.2.2) (C := (mt j).1.cls) (As := ((st.take (mt j).2.2.2.2).reverse).map (cv E)) (rest := (st.drop na).map (cv E)) ⟨e1, e2, e3, e4, e5⟩ hC ⟨⟨rfl, rfl, e7.1, e7.2, WSc_pay e5 w1, List.mem_cons_self, e5 _ w1, w2, y1, len_of y2, w3⟩, w4, w5⟩ ⟨cPc_blind, ⟨cellB, b1, b2, by rw [← hm2]; exact b3⟩, fun U hU hW => ⟨rfl, by rw [hU]; exact hR, KK.moved hW.alike e6⟩⟩ rfl (by simp [List.length_take]; omega) hls ?_ (lv_room (room_sw hrest)) hd hroom
  show st.map (cv E) = _
  rw [tk_rv (n := na), hst]
  simp [cv]
end SC
