/-! ===== what is made; calls ===== -/
theorem cls_at {o i : Nat} {e : Nat × Nat × Nat} (h : fC o i = some e) : e.1 = o ∧ e.2.1 = i ∧ e.2.2 < 10 ∧ ∀ w ∈ clsW e, w ∈ WS := by
  have hm := List.mem_of_find?_eq_some h
  have hp := List.find?_some h
  simp only [Bool.and_eq_true, beq_iff_eq] at hp
  exact ⟨hp.1, hp.2, of_decide_eq_true (List.all_eq_true.mp clsT_ok _ hm), fun w hw => chkW_spec _ _ clsT_w w (List.mem_flatMap.mpr ⟨e, hm, hw⟩)⟩
theorem dfl_len : ∀ ci, ci < 10 → (dfl ci).length = (vwCl.getD ci ("", TX1, 0)).2.2 := by decide +kernel
theorem dfl_ok (E : ET) : ∀ ci, ci < 10 → ∀ j, j < (vwCl.getD ci ("", TX1, 0)).2.2 → defaultValue (tyT ci j) = cv E ((dfl ci).getD j vn) := by
  intro ci h
  have h2 : ci = 0 ∨ ci = 1 ∨ ci = 2 ∨ ci = 3 ∨ ci = 4 ∨ ci = 5 ∨ ci = 6 ∨ ci = 7 ∨ ci = 8 ∨ ci = 9 := by omega
  rcases h2 with rfl | rfl | rfl | rfl | rfl | rfl | rfl | rfl | rfl | rfl
  · intro j hj
    replace hj : j < 2 := hj
    rcases (show j = 0 ∨ j = 1 by omega) with rfl | rfl <;> rfl
  · intro j hj
    exact absurd hj (Nat.not_lt_zero j)
  · intro j hj
    exact absurd hj (Nat.not_lt_zero j)
  · intro j hj
    replace hj : j < 6 := hj
    rcases (show j = 0 ∨ j = 1 ∨ j = 2 ∨ j = 3 ∨ j = 4 ∨ j = 5 by omega) with rfl | rfl | rfl | rfl | rfl | rfl <;> rfl
  · intro j hj
    exact absurd hj (Nat.not_lt_zero j)
  · intro j hj
    replace hj : j < 5 := hj
    rcases (show j = 0 ∨ j = 1 ∨ j = 2 ∨ j = 3 ∨ j = 4 by omega) with rfl | rfl | rfl | rfl | rfl <;> rfl
  · intro j hj
    replace hj : j < 3 := hj
    rcases (show j = 0 ∨ j = 1 ∨ j = 2 by omega) with rfl | rfl | rfl <;> rfl
  · intro j hj
    replace hj : j < 13 := hj
    rcases (show j = 0 ∨ j = 1 ∨ j = 2 ∨ j = 3 ∨ j = 4 ∨ j = 5 ∨ j = 6 ∨ j = 7 ∨ j = 8 ∨ j = 9 ∨ j = 10 ∨ j = 11 ∨ j = 12 by omega) with rfl | rfl | rfl | rfl | rfl | rfl | rfl | rfl | rfl | rfl | rfl | rfl | rfl <;> rfl
  · intro j hj
    replace hj : j < 14 := hj
    rcases (show j = 0 ∨ j = 1 ∨ j = 2 ∨ j = 3 ∨ j = 4 ∨ j = 5 ∨ j = 6 ∨ j = 7 ∨ j = 8 ∨ j = 9 ∨ j = 10 ∨ j = 11 ∨ j = 12 ∨ j = 13 by omega) with rfl | rfl | rfl | rfl | rfl | rfl | rfl | rfl | rfl | rfl | rfl | rfl | rfl | rfl <;> rfl
  · intro j hj
    replace hj : j < 34 := hj
    rcases (show j = 0 ∨ j = 1 ∨ j = 2 ∨ j = 3 ∨ j = 4 ∨ j = 5 ∨ j = 6 ∨ j = 7 ∨ j = 8 ∨ j = 9 ∨ j = 10 ∨ j = 11 ∨ j = 12 ∨ j = 13 ∨ j = 14 ∨ j = 15 ∨ j = 16 ∨ j = 17 ∨ j = 18 ∨ j = 19 ∨ j = 20 ∨ j = 21 ∨ j = 22 ∨ j = 23 ∨ j = 24 ∨ j = 25 ∨ j = 26 ∨ j = 27 ∨ j = 28 ∨ j = 29 ∨ j = 30 ∨ j = 31 ∨ j = 32 ∨ j = 33 by omega) with rfl | rfl | rfl | rfl | rfl | rfl | rfl | rfl | rfl | rfl | rfl | rfl | rfl | rfl | rfl | rfl | rfl | rfl | rfl | rfl | rfl | rfl | rfl | rfl | rfl | rfl | rfl | rfl | rfl | rfl | rfl | rfl | rfl | rfl <;> rfl
theorem Sc.push {E : ET} {s : State} {h : AH} {H H1 : Heap} {locs : List Loc} (hS : Sc E s H locs) (hR : Rep E h H) (ho : ∀ q, q < H.size → H1[q]? = H[q]?) : Sc E s H1 locs := by
  refine ⟨fun q hq => ?_, hS.2⟩
  rw [ho q (by rw [hR.1]; omega)]
  exact hS.1 q hq
theorem ad_size {E : ET} {h : AH} {H : Heap} (hR : Rep E h H) : H.size = ad E (h.1 : Int) := by
  unfold ad
  rw [if_neg (by omega), hR.1]
  omega
theorem w_arr0 : chkW [.arrayClass .int, .arrayClass .boolean, .arrayClass .long, .arrayOver (.object "WalkedWays$Row"), .arrayOver (.object "WalkedWays$Walker"), .arrayOver (.object "WalkedWays$Plain"), .castable RX2 RX4, .castable RX1 RX4] [108, 747, 129, 110, 131, 133, 969, 970] = true := by decide +kernel
theorem w_arr {w : Jvm.Cond} (h : w ∈ ([.arrayClass .int, .arrayClass .boolean, .arrayClass .long, .arrayOver (.object "WalkedWays$Row"), .arrayOver (.object "WalkedWays$Walker"), .arrayOver (.object "WalkedWays$Plain"), .castable RX2 RX4, .castable RX1 RX4] : List Jvm.Cond)) : w ∈ WS := chkW_spec _ _ w_arr0 w h
section SM
variable {E : ET} {g : GT} {mi : MI} {d : Nat} {lm : Nat × Nat} {RT : RTy} {F : FT} {K : KT} {L : LV} {st : List AV} {h : AH} {pc : Nat}
theorem s_new {i : Nat} {e0 : Nat × Nat × Nat} (hf : fC mi.1 i = some e0) (hd : decode mi.2.1 pc = .ok (.new i, 3)) (hK : ∀ pc L st h, K pc L st h → G E g mi d lm RT pc L st h) (hx : exI E d lm RT F K (41, (e0.2.2 : Int), 0, pc + 3, []) L st h) : G E g mi d lm RT pc L st h := by
  obtain ⟨p, e, R, s, m, args, below, meth, c, Q, c0, s0⟩ := g
  intro ok H locs ls hR hS hL hI
  obtain ⟨e1, e2, e3, e4, e5, e6, e7, e8, e9, e10⟩ := id ok
  obtain ⟨o', i', ci⟩ := e0
  obtain ⟨rfl, rfl, hci, hw⟩ := cls_at hf
  replace hx : h.1 + 1 ≤ lm.1 ∧ h.2.1 + (dfl (ci : Int).toNat).length ≤ lm.2 ∧ K (pc + 3) L (vr h.1 :: st) (hpush h (dfl (ci : Int).toNat).length (.inr ((ci : Int).toNat, dfl (ci : Int).toNat))) := hx
  rw [Int.toNat_natCast] at hx
  obtain ⟨hx1, hx2, hx⟩ := hx
  have w1 := e5 _ (hw _ (by unfold clsW; exact List.mem_cons_self))
  have w2 := e5 _ (hw _ (by unfold clsW; exact List.mem_cons_of_mem _ List.mem_cons_self))
  have w3 := e5 _ (hw _ (by unfold clsW; exact List.mem_cons_of_mem _ (List.mem_cons_of_mem _ List.mem_cons_self)))
  dsimp only at w1 w2 w3
  have hKn := e6.1 ci _ (vwCl_at hci)
  obtain ⟨i1, i2, i3, i4⟩ := hI
  refine W.newcK (g := F0 m pc ls (st.map (cv E))) e1 e2 e4 w1 w2 w3 rfl hd (by omega) (by omega) hKn.2.1 (ad_size hR) fun H1 kC hkC a1 a2 a3 => ?_
  have hz : H1.size = H.size + 1 := by rw [a2, ← ad_size hR]
  have ho : ∀ q, q < H.size → H1[q]? = H[q]? := fun q hq => a3 q (by rw [← ad_size hR]; exact hq)
  have hk := hK _ _ _ _ hx ok H1 locs ls (hR.push (n := (dfl ci).length) ⟨_, vwCl_at hci, (u_born (tyT ci) e5 (u_in_all ci hci) hKn hkC a1 (ty_all ci hci)).to (fun j hj => dfl_ok E ci hci j hj)⟩ hz ho) (hS.push hR ho) hL ⟨by show c0 ≤ h.1 + 1; omega, by show h.1 + 1 ≤ _; omega, by show s0 ≤ h.2.1 + _; omega, by show h.2.1 + _ ≤ _; omega⟩
  have q1 : (hpush h (dfl ci).length (Sum.inr (ci, dfl ci))).1 - c0 = h.1 - c0 + 1 := by show h.1 + 1 - c0 = _; omega
  have q2 : (hpush h (dfl ci).length (Sum.inr (ci, dfl ci))).2.1 - s0 = h.2.1 - s0 + (dfl ci).length := by show h.2.1 + _ - s0 = _; omega
  rw [q1, q2] at hk
  exact hk
theorem s_newarr {at0 : ArrayType} {k : Nat} (hk6 : (at0 = .int ∧ k = 0) ∨ (at0 = .boolean ∧ k = 1) ∨ (at0 = .long ∧ k = 2)) (hd : decode mi.2.1 pc = .ok (.newarray at0, 2)) (hK : ∀ pc L st h, K pc L st h → G E g mi d lm RT pc L st h) (hx : exI E d lm RT F K (42, (k : Int), 0, pc + 2, []) L st h) : G E g mi d lm RT pc L st h := by
  obtain ⟨p, e, R, s, m, args, below, meth, c, Q, c0, s0⟩ := g
  intro ok H locs ls hR hS hL hI
  obtain ⟨e1, e2, e3, e4, e5, e6, e7, e8, e9, e10⟩ := id ok
  rcases st with _ | ⟨(n | n), st⟩ <;> try exact hx.elim
  replace hx : (0 ≤ n ∧ n ≤ 1000000) ∧ h.1 + 1 ≤ lm.1 ∧ h.2.1 + n.toNat ≤ lm.2 ∧ K (pc + 2) L (vr h.1 :: st) (hpush h n.toNat (.inl ((k : Int).toNat, n, fun _ => if (k : Int) = 2 then vl 0 else vi 0))) := hx
  rw [Int.toNat_natCast] at hx
  obtain ⟨hn, hx1, hx2, hx⟩ := hx
  obtain ⟨i1, i2, i3, i4⟩ := hI
  have key : ∀ (ty : FieldType), newarray.typeOf at0 = ty → ki k = ty → k < 6 → (Jvm.Cond.arrayClass (newarray.typeOf at0)).before args s = true → n.toNat * componentBytes (newarray.typeOf at0) ≤ 536870912 → (∀ j : Int, defaultValue ty = cv E (if (k : Int) = 2 then vl 0 else vi 0)) → (∀ U cA, va_RA U cA ty → U.vm.findClass ("[" ++ ty.toString) = some cA) → gW E (p, e, R, s, m, args, below, meth, c, Q, c0, s0) H locs (h.1 - c0) (h.2.1 - s0) pc ls ((vi n :: st).map (cv E)) := by
    intro ty hty hki hk hac hby hdv hra
    subst hty
    refine va_newaK (g := F0 m pc ls (.int (z3 n) :: st.map (cv E))) (N := n.toNat) e1 e2 hac rfl hd rfl ?_ (z3_clamp hn.1 (by omega)) hby (by omega) (by omega) (ad_size hR) fun H1 cA a1 a2 a3 hAr hNm => ?_
    · show ¬ z3 n < z3 0
      rw [z3_lt (by omega) (by omega)]; omega
    have hz : H1.size = H.size + 1 := by rw [a2, ← ad_size hR]
    have ho : ∀ q, q < H.size → H1[q]? = H[q]? := fun q hq => a3 q (by rw [← ad_size hR]; exact hq)
    have hcA : cA = eA E k := by
      have h2 := hra s _ (hki ▸ (e6.2.1 k hk).2)
      exact Option.some.inj (hNm.symm.trans h2)
    have hkk := hK _ _ _ _ hx ok H1 locs ls (hR.push (n := n.toNat) ⟨hn, _, a1, hcA, (fun h => nomatch h), (fun q h => nomatch h), arrV_size _ _ _, fun j hj => by rw [arrV_read _ _ hj, hdv 0]⟩ hz ho) (hS.push hR ho) hL ⟨by show c0 ≤ h.1 + 1; omega, by show h.1 + 1 ≤ _; omega, by show s0 ≤ h.2.1 + _; omega, by show h.2.1 + _ ≤ _; omega⟩
    have q1 : (hpush h n.toNat (Sum.inl (k, n, fun (_ : Int) => if (k : Int) = 2 then vl 0 else vi 0))).1 - c0 = h.1 - c0 + 1 := by show h.1 + 1 - c0 = _; omega
    have q2 : (hpush h n.toNat (Sum.inl (k, n, fun (_ : Int) => if (k : Int) = 2 then vl 0 else vi 0))).2.1 - s0 = h.2.1 - s0 + n.toNat := by show h.2.1 + _ - s0 = _; omega
    rw [q1, q2] at hkk
    exact hkk
  rcases hk6 with ⟨rfl, rfl⟩ | ⟨rfl, rfl⟩ | ⟨rfl, rfl⟩
  · exact key .int rfl rfl (by omega) (e5 (.arrayClass .int) (w_arr (by simp))) (by show n.toNat * 4 ≤ _; omega) (fun _ => rfl) (fun U cA h => h)
  · exact key .boolean rfl rfl (by omega) (e5 (.arrayClass .boolean) (w_arr (by simp))) (by show n.toNat * 1 ≤ _; omega) (fun _ => rfl) (fun U cA h => h)
  · exact key .long rfl rfl (by omega) (e5 (.arrayClass .long) (w_arr (by simp))) (by show n.toNat * 8 ≤ _; omega) (fun _ => rfl) (fun U cA h => h)
theorem s_anewarr {i : Nat} {e0 : Nat × Nat × Nat} {k0 : Int} (hf : fC mi.1 i = some e0) (hk0 : aK e0.2.2 = some k0) (hd : decode mi.2.1 pc = .ok (.anewarray i, 3)) (hK : ∀ pc L st h, K pc L st h → G E g mi d lm RT pc L st h) (hx : exI E d lm RT F K (43, k0, 0, pc + 3, []) L st h) : G E g mi d lm RT pc L st h := by
  obtain ⟨p, e, R, s, m, args, below, meth, c, Q, c0, s0⟩ := g
  intro ok H locs ls hR hS hL hI
  obtain ⟨e1, e2, e3, e4, e5, e6, e7, e8, e9, e10⟩ := id ok
  obtain ⟨o', i', ci⟩ := e0
  obtain ⟨rfl, rfl, hci, hw⟩ := cls_at hf
  rcases st with _ | ⟨(n | n), st⟩ <;> try exact hx.elim
  obtain ⟨hn, hx1, hx2, hx⟩ := hx
  obtain ⟨i1, i2, i3, i4⟩ := hI
  have w1 := e5 _ (hw _ (by unfold clsW; exact List.mem_cons_self))
  dsimp only at w1 hk0
  have key : ∀ (C : String) (k : Nat), k0 = (k : Int) → ki k = .object C → ownS ci = C → k < 6 → (Jvm.Cond.arrayOver (.object C)).before args s = true → gW E (p, e, R, s, m, args, below, meth, c, Q, c0, s0) H locs (h.1 - c0) (h.2.1 - s0) pc ls ((vi n :: st).map (cv E)) := by
    intro C k hkk hki hC hk hac
    subst hkk
    subst hC
    replace hx : K (pc + 3) L (vr h.1 :: st) (hpush h n.toNat (.inl ((k : Int).toNat, n, fun _ => vn))) := hx
    rw [Int.toNat_natCast] at hx
    refine W.anew (g := F0 m pc ls (.int (z3 n) :: st.map (cv E))) e1 e2 e4 w1 hac rfl hd rfl ?_ (by rw [z3_clamp hn.1 (by omega)]; omega) (by omega) (by rw [z3_clamp hn.1 (by omega)]; omega) fun cA kA comp b1 b2 b3 b4 => ?_
    · show ¬ z3 n < z3 0
      rw [z3_lt (by omega) (by omega)]; omega
    have hRA : va_RA s (eA E k) (.object (ownS ci)) := hki ▸ (e6.2.1 k hk).2
    obtain ⟨kA', comp', c1, c2, c3, c4⟩ := hRA
    have hcA : cA = eA E k := Option.some.inj (b1.symm.trans c4)
    have ho : ∀ q, q < H.size → (H.push { cls := cA, slots := Array.replicate (z3 n).toNatClampNeg Value.null, vm := .none })[q]? = H[q]? := fun q hq => by rw [Array.getElem?_push, if_neg (Nat.ne_of_lt hq)]
    have hz : (H.push { cls := cA, slots := Array.replicate (z3 n).toNatClampNeg Value.null, vm := .none }).size = H.size + 1 := by simp
    have hcl : (z3 n).toNatClampNeg = n.toNat := z3_clamp hn.1 (by omega)
    have hkk := hK _ _ _ _ hx ok _ locs ls (hR.push (n := n.toNat) (x := .inl (k, n, fun _ => vn)) ⟨hn, { cls := cA, slots := Array.replicate (z3 n).toNatClampNeg Value.null, vm := .none }, by rw [← ad_size hR]; exact Array.getElem?_push_size, hcA, (fun h => nomatch h), (fun q h => nomatch h), (by show (Array.replicate _ _).size = _; simp [hcl]), (fun j hj => by show (Array.replicate _ _)[j]? = _; rw [hcl]; simp [hj, cv])⟩ hz ho) (hS.push hR ho) hL ⟨by show c0 ≤ h.1 + 1; omega, by show h.1 + 1 ≤ _; omega, by show s0 ≤ h.2.1 + _; omega, by show h.2.1 + _ ≤ _; omega⟩
    have q1 : (hpush h n.toNat (Sum.inl (k, n, fun (_ : Int) => vn))).1 - c0 = h.1 - c0 + 1 := by show h.1 + 1 - c0 = _; omega
    have q2 : (hpush h n.toNat (Sum.inl (k, n, fun (_ : Int) => vn))).2.1 - s0 = h.2.1 - s0 + (z3 n).toNatClampNeg := by show h.2.1 + _ - s0 = _; rw [hcl]; omega
    rw [q1, q2] at hkk
    rw [ad_size hR]
    exact hkk
  unfold aK at hk0
  split at hk0
  · cases hk0
    exact key _ 3 rfl rfl rfl (by omega) (e5 _ (w_arr (by simp)))
  · cases hk0
    exact key _ 4 rfl rfl rfl (by omega) (e5 _ (w_arr (by simp)))
  · cases hk0
    exact key _ 5 rfl rfl rfl (by omega) (e5 _ (w_arr (by simp)))
  · cases hk0
end SM
