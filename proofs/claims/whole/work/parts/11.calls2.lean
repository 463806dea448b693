/-! ===== constructors, calls by the object's class, super, arrays of objects, returns ===== -/
section SD
variable {E : ET} {g : GT} {mi : MI} {d : Nat} {lm : Nat × Nat} {RT : RTy} {F : FT} {K : KT} {L : LV} {st : List AV} {h : AH} {pc : Nat}
theorem s_init {i : Nat} {e0 : Nat × Nat × Nat × Nat × Nat × Nat} (hf : fM mi.1 i = some e0) (hk : e0.2.2.1 = 3) (hd : decode mi.2.1 pc = .ok (.invokespecial i, 3)) (hK : ∀ pc L st h, K pc L st h → G E g mi d lm RT pc L st h) {cc : Int} (hl : st[e0.2.2.2.2.1 - 1]? = some (vr cc)) (hx : callK E d lm K (pc + 3) e0.2.2.2.1 (st.take e0.2.2.2.2.1).reverse L (st.drop e0.2.2.2.2.1) h) : G E g mi d lm RT pc L st h := by
  obtain ⟨o', i', kd, j, na, lf⟩ := e0
  obtain ⟨ho, hi, hok, hw⟩ := cal_at hf
  dsimp only at ho hi hk hl hx
  subst ho hi hk
  simp only [calOk, Bool.and_eq_true, decide_eq_true_eq] at hok
  obtain ⟨⟨hy0, hna⟩, hm1, hm2⟩ := hok
  obtain ⟨y1, y2, y3, y4⟩ := yOk_spec hy0
  have hlt : (mt j).2.2.2.2 < st.length := by
    have := (List.getElem?_eq_some_iff.mp hl).1
    omega
  have hst : (st.take na).reverse = vr cc :: (st.take (mt j).2.2.2.2).reverse := by rw [hna]; exact hd_rv (by rw [hna] at hl; exact hl)
  refine s_call (y := mt j) rfl ?_ y3 hK hx
  intro p e R s m args below meth c H locs k n ls d0 r h' e1 e2 e3 e4 e5 e6 e7 hls hR hC hrest hroom
  have w1 : Jvm.Cond.code (mt j).1 (mt j).2.1 (mt j).2.2.1 (mt j).2.2.2.1 ∈ WS := hw _ (by simp [calW, yW])
  have w2 := e5 _ (hw (.initialized (mt j).1.cls) (by simp [calW, yW]))
  have w3 := e5 _ (hw (.methodLink (ownS mi.1) i' (mt j).1) (by simp [calW]))
  have w4 := e5 _ (hw (.instanceMethod (mt j).1) (by simp [calW]))
  rw [hst] at hC ⊢
  have hC' := hC
  unfold CtrM at hC'
  rw [hm2] at hC' w1
  refine va_runI (g := F0 m pc ls (st.map (cv E))) (b := ad E cc) (n := (mt j).2.2.2.2) (As := ((st.take (mt j).2.2.2.2).reverse).map (cv E)) (rest := (st.drop na).map (cv E)) ⟨e1, e2, e3, e4, e5⟩ hC' ⟨⟨rfl, rfl, e7.1, e7.2, ?_, List.mem_cons_self, e5 _ w1, w2, y1, len_of y2, w3⟩, hm1, w4⟩ ⟨cPc_blind, fun U hU hW => ⟨rfl, by rw [hU]; exact hR, KK.moved hW.alike e6⟩⟩ rfl (by simp [List.length_take]; omega) hls ?_ (lv_room (room_sw hrest)) hd hroom
  · intro w hw'
    rcases List.mem_cons.mp hw' with rfl | hw'
    · exact WS_pay e5 _ w1
    · exact WS_pay e5 _ hw'
  · show st.map (cv E) = _
    rw [tk_rv (n := na), hst]
    simp [cv]
theorem s_initN {i : Nat} {e0 : Nat × Nat × Nat × Nat × Nat × Nat} (hf : fM mi.1 i = some e0) (hk : e0.2.2.1 = 4) (hd : decode mi.2.1 pc = .ok (.invokespecial i, 3)) (hK : ∀ pc L st h, K pc L st h → G E g mi d lm RT pc L st h) {cc : Int} (hl : st[e0.2.2.2.2.1 - 1]? = some (vr cc)) (hx : callK E d lm K (pc + 3) e0.2.2.2.1 (st.take e0.2.2.2.2.1).reverse L (st.drop e0.2.2.2.2.1) h) : G E g mi d lm RT pc L st h := by
  obtain ⟨o', i', kd, j, na, lf⟩ := e0
  obtain ⟨ho, hi, hok, hw⟩ := cal_at hf
  dsimp only at ho hi hk hl hx
  subst ho hi hk
  simp only [calOk, Bool.and_eq_true, decide_eq_true_eq] at hok
  obtain ⟨⟨hy0, hna⟩, hm1, hm2⟩ := hok
  obtain ⟨y1, y2, y3, y4⟩ := yOk_spec hy0
  have hlt : (mt j).2.2.2.2 < st.length := by
    have := (List.getElem?_eq_some_iff.mp hl).1
    omega
  have hst : (st.take na).reverse = vr cc :: (st.take (mt j).2.2.2.2).reverse := by rw [hna]; exact hd_rv (by rw [hna] at hl; exact hl)
  refine s_call (y := mt j) rfl ?_ y3 hK hx
  intro p e R s m args below meth c H locs k n ls d0 r h' e1 e2 e3 e4 e5 e6 e7 hls hR hC hrest hroom
  have w1 : Jvm.Cond.code (mt j).1 (mt j).2.1 (mt j).2.2.1 (mt j).2.2.2.1 ∈ WS := hw _ (by simp [calW, yW])
  have w2 := e5 _ (hw (.initialized (mt j).1.cls) (by simp [calW, yW]))
  have w3 := e5 _ (hw (.methodLinkNest (ownS mi.1) i' (mt j).1 "WalkedWays") (by simp [calW]))
  have w4 := e5 _ (hw (.instanceMethod (mt j).1) (by simp [calW]))
  rw [hst] at hC ⊢
  have hC' := hC
  unfold CtrM at hC'
  rw [hm2] at hC' w1
  refine va_runIN (g := F0 m pc ls (st.map (cv E))) (b := ad E cc) (n := (mt j).2.2.2.2) (As := ((st.take (mt j).2.2.2.2).reverse).map (cv E)) (rest := (st.drop na).map (cv E)) ⟨e1, e2, e3, e4, e5⟩ hC' ⟨⟨⟨rfl, rfl, e7.1, e7.2, ?_, List.mem_cons_self⟩, e5 _ w1, w2, y1, len_of y2, w3⟩, hm1, w4⟩ ⟨cPc_blind, fun U hU hW => ⟨rfl, by rw [hU]; exact hR, KK.moved hW.alike e6⟩⟩ rfl (by simp [List.length_take]; omega) hls ?_ (lv_room (room_sw hrest)) hd hroom
  · intro w hw'
    rcases List.mem_cons.mp hw' with rfl | hw'
    · exact WS_pay e5 _ w1
    · exact WS_pay e5 _ hw'
  · show st.map (cv E) = _
    rw [tk_rv (n := na), hst]
    simp [cv]
theorem s_byclass {i : Nat} {e0 : Nat × Nat × Nat × Nat × Nat × Nat} (hf : fM mi.1 i = some e0) (hk : e0.2.2.1 = 6) (hd : decode mi.2.1 pc = .ok (.invokevirtual i, 3)) (hK : ∀ pc L st h, K pc L st h → G E g mi d lm RT pc L st h) {cc : Int} (hl : st[e0.2.2.2.2.1 - 1]? = some (vr cc)) {ci j : Nat} (hob : isOb h cc ci) (hv : vsel e0.2.2.2.1 ci = some j) (hx : callK E d lm K (pc + 3) j (st.take e0.2.2.2.2.1).reverse L (st.drop e0.2.2.2.2.1) h) : G E g mi d lm RT pc L st h := by
  obtain ⟨o', i', kd, a, na, lf⟩ := e0
  obtain ⟨ho, hi, hok, hw⟩ := cal_at hf
  dsimp only at ho hi hk hl hx hv
  subst ho hi hk
  simp only [calOk, Bool.and_eq_true, decide_eq_true_eq] at hok
  obtain ⟨⟨⟨⟨⟨⟨ha, hx0⟩, hy4⟩, hy2⟩, hy1⟩, hna⟩, hxc⟩ := hok
  obtain ⟨x1, x2, x3, x4⟩ := yOk_spec hx0
  have hci : (ci = 4 ∨ ci = 2 ∨ ci = 1) ∧ ci < 10 ∧ yOk (mt j) = true ∧ ∀ w ∈ vW a ci (mt j), w ∈ calW (mi.1, i', 6, a, na, lf) := by
    have hj : (vsel a ci).getD 0 = j := by rw [hv]; rfl
    have hc : ci = 4 ∨ ci = 2 ∨ ci = 1 := by
      rcases (show a = 0 ∨ a = 1 by omega) with rfl | rfl <;> (unfold vsel at hv; split at hv <;> first | omega | cases hv)
    refine ⟨hc, by omega, ?_, fun w hw => ?_⟩
    · rcases hc with rfl | rfl | rfl
      · rw [← hj]; exact hy4
      · rw [← hj]; exact hy2
      · rw [← hj]; exact hy1
    · rcases hc with rfl | rfl | rfl
      · rw [← hj] at hw; simp only [calW]; exact List.mem_append_left _ (List.mem_append_left _ (List.mem_append_right _ hw))
      · rw [← hj] at hw; simp only [calW]; exact List.mem_append_left _ (List.mem_append_right _ hw)
      · rw [← hj] at hw; simp only [calW]; exact List.mem_append_right _ hw
  obtain ⟨hc3, hci10, hyj, hvw⟩ := hci
  obtain ⟨y1, y2, y3, y4⟩ := yOk_spec hyj
  have hlt : (xOf a).2.2.2.2 < st.length := by
    have := (List.getElem?_eq_some_iff.mp hl).1
    omega
  have hst : (st.take na).reverse = vr cc :: (st.take (xOf a).2.2.2.2).reverse := by rw [hna]; exact hd_rv (by rw [hna] at hl; exact hl)
  refine s_call (y := mt j) rfl ?_ y3 hK hx
  intro p e R s m args below meth c H locs k n ls d0 r h' e1 e2 e3 e4 e5 e6 e7 hls hR hC hrest hroom
  have w1 : Jvm.Cond.code (mt j).1 (mt j).2.1 (mt j).2.2.1 (mt j).2.2.2.1 ∈ WS := hw _ (hvw _ (by simp [vW]))
  have w2 := e5 _ (hw (.initialized (mt j).1.cls) (hvw _ (by simp [vW])))
  have w3 := e5 _ (hw (.selects (ownS ci) (xOf a).1 (mt j).1) (hvw _ (by simp [vW])))
  have w4 := e5 _ (hw (.instanceMethod (mt j).1) (hvw _ (by simp [vW])))
  have v1 := e5 _ (hw (.methodLink (ownS mi.1) i' (xOf a).1) (by simp [calW]))
  have v2 := e5 _ (hw (.sameMethod RX4 RX4 (xOf a).1.name (xOf a).1.desc) (by simp [calW]))
  have v3 := e5 _ (hw (.instanceMethod (xOf a).1) (by simp [calW]))
  have v4 := e5 _ (hw (.code (xOf a).1 (xOf a).2.1 (xOf a).2.2.1 (xOf a).2.2.2.1) (by simp [calW]))
  obtain ⟨cellB, b1, b2, b3, -⟩ := ob_recv e6 hR hci10 hob
  have hxe : (⟨RX4, (xOf a).1.name, (xOf a).1.desc⟩ : MethodName) = (xOf a).1 := by rw [← hxc]
  rw [hst] at hC ⊢
  refine va_runU (g := F0 m pc ls (st.map (cv E))) (b := ad E cc) (n := (xOf a).2.2.2.2) (x := (xOf a).1) (owner := RX4) (C := ownS ci) (As := ((st.take (xOf a).2.2.2.2).reverse).map (cv E)) (rest := (st.drop na).map (cv E)) ⟨e1, e2, e3, e4, e5⟩ hC ⟨⟨rfl, rfl, e7.1, e7.2, WSc_pay e5 w1, List.mem_cons_self⟩, e5 _ w1, w2, by rw [← hxc]; exact x1, len_of x2, v1, by rw [hxc]; exact v2, by rw [hxe]; exact va_Decl.of v3 v4, w3, w4⟩ ⟨cPc_blind, ⟨cellB, b1, b2, b3⟩, fun U hU hW => ⟨rfl, by rw [hU]; exact hR, KK.moved hW.alike e6⟩⟩ rfl (by simp [List.length_take]; omega) hls ?_ (lv_room (room_sw hrest)) hd hroom
  show st.map (cv E) = _
  rw [tk_rv (n := na), hst]
  simp [cv]
theorem s_super {i : Nat} {e0 : Nat × Nat × Nat × Nat × Nat × Nat} (hf : fM mi.1 i = some e0) (hk : e0.2.2.1 = 7) (hd : decode mi.2.1 pc = .ok (.invokespecial i, 3)) (hK : ∀ pc L st h, K pc L st h → G E g mi d lm RT pc L st h) {cc : Int} (hl : st[e0.2.2.2.2.1 - 1]? = some (vr cc)) (hob : isOb h cc 1) (hx : callK E d lm K (pc + 3) e0.2.2.2.1 (st.take e0.2.2.2.2.1).reverse L (st.drop e0.2.2.2.2.1) h) : G E g mi d lm RT pc L st h := by
  obtain ⟨o', i', kd, j, na, lf⟩ := e0
  obtain ⟨ho, hi, hok, hw⟩ := cal_at hf
  dsimp only at ho hi hk hl hx
  subst ho hi hk
  simp only [calOk, Bool.and_eq_true, decide_eq_true_eq] at hok
  obtain ⟨⟨⟨hmi, hy0⟩, hna⟩, hm1, hm2⟩ := hok
  obtain ⟨y1, y2, y3, y4⟩ := yOk_spec hy0
  have hlt : (mt j).2.2.2.2 < st.length := by
    have := (List.getElem?_eq_some_iff.mp hl).1
    omega
  have hst : (st.take na).reverse = vr cc :: (st.take (mt j).2.2.2.2).reverse := by rw [hna]; exact hd_rv (by rw [hna] at hl; exact hl)
  refine s_call (y := mt j) rfl ?_ y3 hK hx
  intro p e R s m args below meth c H locs k n ls d0 r h' e1 e2 e3 e4 e5 e6 e7 hls hR hC hrest hroom
  have w1 : Jvm.Cond.code (mt j).1 (mt j).2.1 (mt j).2.2.1 (mt j).2.2.2.1 ∈ WS := hw _ (by simp [calW, yW])
  have w2 := e5 _ (hw (.initialized (mt j).1.cls) (by simp [calW, yW]))
  have w3 := e5 _ (hw (.methodLink (ownS mi.1) i' ⟨RX2, (mt j).1.name, (mt j).1.desc⟩) (by simp [calW]))
  have w4 := e5 _ (hw (.instanceMethod (mt j).1) (by simp [calW]))
  have w5 := e5 _ (hw (.sameMethod RX2 RX4 (mt j).1.name (mt j).1.desc) (by simp [calW]))
  have w6 := e5 _ (hw (.superclass RX1 RX2) (by simp [calW]))
  have w7 := e5 _ (hw (.superclass RX2 RX4) (by simp [calW]))
  obtain ⟨cellB, b1, b2, b3, -⟩ := ob_recv e6 hR (by omega) hob
  have hown1 : s.vm.findClass RX1 = some m.cls := by have := e4; rw [hmi] at this; exact this
  obtain ⟨kB, hkB, -⟩ := Vm.findClass_spec b3
  obtain ⟨mk, methM, hnamed, hmethM, hstM, habM⟩ := Cond.instanceMethod_spec w4
  obtain ⟨methM', cM, hmethM', -, -, -, -, -, -, hsigM⟩ := Cond.code_spec hnamed (e5 _ w1)
  cases hmethM.symm.trans hmethM'
  obtain ⟨ps, dk, kp, hps, hdk, hkp, hsuper, -, -, hnid⟩ := Cond.superclass_spec hown1 w6
  obtain ⟨ps2, dk2, kp2, hps2, hdk2, hkp2, hsuper2, -, -, hnid2⟩ := Cond.superclass_spec hps w7
  have hmk : mk.cls = ps2 := by
    have h1 := findClass_of_methodNamed hnamed
    rw [hm1] at h1
    exact Option.some.inj (h1.symm.trans hps2)
  have hsub : s.vm.isSubclass ps mk.cls = true := by
    rw [hmk]
    have hsz : 0 < s.vm.classes.size := by
      have := (Array.getElem?_eq_some_iff.mp hkp2).1
      omega
    obtain ⟨n0, hn0⟩ : ∃ n0, s.vm.classes.size = n0 + 1 := ⟨s.vm.classes.size - 1, by omega⟩
    simp only [Vm.isSubclass, Vm.isSubclassAux, hdk2, hsuper2, hn0]
    simp
  have hnE : (⟨RX4, (mt j).1.name, (mt j).1.desc⟩ : MethodName) = (mt j).1 := by rw [← hm1]
  rw [hst] at hC ⊢
  have hBk : Back (eL E) R p e below s args (mt j).1 3 8 (PreOf R (h'.1 - h.1) (h'.2.1 - h.2.1) (cPc E (vr cc :: (st.take (mt j).2.2.2.2).reverse) h)) (PostOf (cQc E r h') (h'.1 - h.1) (h'.2.1 - h.2.1) (fun q => eB E ≤ q)) := back_of (bytes := (mt j).2.1) (maxL := (mt j).2.2.1) (ret := (mt j).2.2.2.1) hC cPc_blind rfl rfl e7.1 e7.2 (WSc_pay e5 w1) List.mem_cons_self (fun a' U hW => word_at hW (Or.inl (by first | rfl | simp [Cond.onTables, Cond.keeps, Cond.steady])) w2)
  intro T hT X
  have hstk : (F0 m pc ls (st.map (cv E))).stack = (((st.take (mt j).2.2.2.2).reverse).map (cv E)).reverse ++ .ref (ad E cc) :: (st.drop na).map (cv E) := by
    show st.map (cv E) = _
    rw [tk_rv (n := na), hst]
    simp [cv]
  obtain ⟨vm₁, X₁, hstep₁⟩ := X.invokespecialUp e1 (x := ⟨RX2, (mt j).1.name, (mt j).1.desc⟩) (owner := RX4) e4 w3 w5 (r0 := mk) (by rw [hnE]; exact hnamed) hmethM hstM habM hm2 hdk hnid hps hsuper hsub (a := ad E cc) (cell := cellB) (by rw [hT]; exact b1)
    (fun z h => by rw [h] at b2; cases b2) hkB (g := F0 m pc ls (st.map (cv E))) rfl (argsL := ((st.take (mt j).2.2.2.2).reverse).map (cv E)) (rest := (st.drop na).map (cv E)) (by rw [← len_of y2 _ hsigM]; simp [List.length_take]; omega) hstk (by rw [e2]; exact hd)
  obtain ⟨v, ⟨U', l2, c2, s2⟩, X', ⟨g', mk', t, Ls, q1, q2, hq, h1, hL, h2, h3⟩, hsteps⟩ := hBk m meth c ⟨T.setVm vm₁, locs, k, n⟩ { (F0 m pc ls (st.map (cv E))) with stack := (st.drop na).map (cv E) } (.invokespecial i') mk (Value.ref (ad E cc) :: ((st.take (mt j).2.2.2.2).reverse).map (cv E)).toArray X₁ rfl (by rw [e3]; exact hls) (by rw [e2]; exact hd) (lv_room (room_sw hrest)) (X₁.named hnamed) ⟨hroom.1, hroom.2, ⟨rfl, by show Rep E h T.heap; rw [hT]; exact hR, KK.moved X₁.warmed.alike e6⟩⟩
  dsimp only [Pt.U, Pt.locs, Pt.cells, Pt.slots] at X' q1 q2 h1 h2 h3 hsteps
  subst h1; subst h2; subst h3
  exact ⟨v, (T.setVm vm₁).calling g' mk' (Value.ref (ad E cc) :: ((st.take (mt j).2.2.2.2).reverse).map (cv E)).toArray, t, U', Ls, hT, X', hL, q1, q2, hq, fun target h => hstep₁ _ (by rw [doInvoke_state]; exact hsteps.trans h)⟩
theorem s_aast (hd : decode mi.2.1 pc = .ok (.aastore, 1)) (hK : ∀ pc L st h, K pc L st h → G E g mi d lm RT pc L st h) (hx : exI E d lm RT F K (50, 0, 0, pc + 1, []) L st h) : G E g mi d lm RT pc L st h := by
  obtain ⟨p, e, R, s, m, args, below, meth, c, Q, c0, s0⟩ := g
  intro ok H locs ls hR hS hL hI
  obtain ⟨e1, e2, e3, e4, e5, e6, e7, e8, e9, e10⟩ := id ok
  rcases st with _ | ⟨(v | v | (_ | v)), _ | ⟨(z | z), _ | ⟨(x | x | (_ | cc)), st⟩⟩⟩ <;> try exact hx.elim
  obtain ⟨hc0, hx⟩ := hx
  replace hx : (match h.2.2 v with | some (.inr (ci, _)) => (match h.2.2 cc with | some (.inl (k, n, f)) => aok k ci = true ∧ 0 ≤ z ∧ z < n ∧ K (pc + 1) L st (hset h cc (.inl (k, n, updz f z (vr v)))) | _ => False) | _ => False) := hx
  split at hx
  · rename_i ci fs hv
    split at hx
    · rename_i k n f hcell
      obtain ⟨haok, hz0, hz1, hx⟩ := hx
      obtain ⟨-, hn, cell, q1, q2, q3, q4, q5, q6⟩ := hR.2.2 _ _ hcell
      obtain ⟨-, r, hr, cellv, v1, v2, v3, v4⟩ := hR.2.2 _ _ hv
      have key : ∀ C : String, k < 6 → ci < 10 → ki k = .object C → (∀ comp, s.vm.findClass C = some comp → s.vm.assignable (eC E ci) comp = true) → gW E (p, e, R, s, m, args, below, meth, c, Q, c0, s0) H locs (h.1 - c0) (h.2.1 - s0) pc ls ((vr v :: vi z :: vr cc :: st).map (cv E)) := by
        intro C hk hci hki hass
        have hRA : va_RA s (eA E k) (.object C) := hki ▸ (e6.2.1 k hk).2
        obtain ⟨kA, comp, a1, a2, a3, a4⟩ := hRA
        obtain ⟨kcomp, hkc, -⟩ := Vm.findClass_spec a3
        obtain ⟨-, hfc, kv, hkv, -⟩ := e6.1 ci _ (vwCl_at hci)
        refine W.aast (g := F0 m pc ls (.ref (ad E v) :: .int (z3 z) :: .ref (ad E cc) :: st.map (cv E))) (t := .object C) e1 e2 q1 q4 q3 (by rw [q2]; exact a1) a2 rfl hkc ⟨fun q => z3_in hz0 (by omega) (by omega) (N := n.toNat) (Or.inl q), by rw [z3_clamp hz0 (by omega), q5]; omega⟩ v1 (by rw [v3]; exact fun q h => by cases h) (by rw [v2]; exact hkv) (by rw [v2]; exact hass comp a3) rfl rfl hd fun H' b1 b2 b3 => ?_
        rw [z3_clamp hz0 (by omega)] at b1
        exact hK _ _ _ _ hx ok H' _ ls (hR.set hcell (arr_kept hn ⟨hz0, hz1⟩ (v := vr v) b1 q2 q3 q4 q5 q6) b2 b3) (hS.put hc0 b3) hL hI
      have hself : ∀ q, q < 10 → ∀ comp, s.vm.findClass (ownS q) = some comp → s.vm.assignable (eC E q) comp = true := by
        intro q hq comp hcomp
        have h1 := (e6.1 q _ (vwCl_at hq)).2.1
        rw [Option.some.inj (hcomp.symm.trans h1)]
        show s.vm.assignableAux (255 + 1) _ _ = true
        rw [Vm.assignableAux]
        simp
      have hcast : ∀ q, q < 10 → (Jvm.Cond.castable (ownS q) RX4).before args s = true → ∀ comp, s.vm.findClass RX4 = some comp → s.vm.assignable (eC E q) comp = true := by
        intro q hq hw comp hcomp
        have h1 := (e6.1 q _ (vwCl_at hq)).2.1
        obtain ⟨c3, t3, w1, w2, w3⟩ := Cond.castable_spec hw
        rw [Option.some.inj (h1.symm.trans w1), Option.some.inj (hcomp.symm.trans w2)]
        exact w3
      simp only [aok, Bool.or_eq_true, Bool.and_eq_true, beq_iff_eq] at haok
      rcases haok with (⟨rfl, rfl⟩ | ⟨rfl, rfl⟩) | ⟨rfl, (rfl | rfl) | rfl⟩
      · exact key _ (by omega) (by omega) rfl (hself 5 (by omega))
      · exact key _ (by omega) (by omega) rfl (hself 7 (by omega))
      · exact key _ (by omega) (by omega) rfl (hself 4 (by omega))
      · exact key _ (by omega) (by omega) rfl (hcast 2 (by omega) (e5 (.castable RX2 RX4) (w_arr (by simp))))
      · exact key _ (by omega) (by omega) rfl (hcast 1 (by omega) (e5 (.castable RX1 RX4) (w_arr (by simp))))
    · exact hx.elim
  · exact hx.elim
theorem s_ret {rk : Nat} {v : Option AV} (hrk : mi.2.2.2.1 = rk) (hd : retd rk v (decode mi.2.1 pc)) (hst : st = v.toList) (hx : RT v h) : G E g mi d lm RT pc L st h := by
  obtain ⟨p, e, R, s, m, args, below, meth, c, Q, c0, s0⟩ := g
  intro ok H locs ls hR hS hL hI
  obtain ⟨e1, e2, e3, e4, e5, e6, e7, e8, e9, e10⟩ := id ok
  subst hst
  exact e10 v h H locs ls pc hI (by rw [hrk]; exact hd) hx hR hS
end SD
