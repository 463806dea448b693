/-! ===== the heap: fields, arrays, what is made ===== -/
theorem vwCl_at {ci : Nat} (h : ci < 10) : vwCl[ci]? = some (ownS ci, rowT ci, (vwCl.getD ci ("", TX1, 0)).2.2) := by
  have h2 : ci = 0 ∨ ci = 1 ∨ ci = 2 ∨ ci = 3 ∨ ci = 4 ∨ ci = 5 ∨ ci = 6 ∨ ci = 7 ∨ ci = 8 ∨ ci = 9 := by omega
  rcases h2 with rfl | rfl | rfl | rfl | rfl | rfl | rfl | rfl | rfl | rfl <;> rfl
theorem u_in_all : ∀ ci, ci < 10 → ∀ w ∈ u_ws (ownS ci) (rowT ci) (vwCl.getD ci ("", TX1, 0)).2.2, w ∈ WS := by
  intro ci h
  have h2 : ci = 0 ∨ ci = 1 ∨ ci = 2 ∨ ci = 3 ∨ ci = 4 ∨ ci = 5 ∨ ci = 6 ∨ ci = 7 ∨ ci = 8 ∨ ci = 9 := by omega
  rcases h2 with rfl | rfl | rfl | rfl | rfl | rfl | rfl | rfl | rfl | rfl
  · exact chkW_spec _ _ u_w0
  · exact chkW_spec _ _ u_w1
  · exact chkW_spec _ _ u_w2
  · exact chkW_spec _ _ u_w3
  · exact chkW_spec _ _ u_w4
  · exact chkW_spec _ _ u_w5
  · exact chkW_spec _ _ u_w6
  · exact chkW_spec _ _ u_w7
  · exact chkW_spec _ _ u_w8
  · exact chkW_spec _ _ u_w9
theorem ty_all : ∀ ci, ci < 10 → ∀ k, k < (vwCl.getD ci ("", TX1, 0)).2.2 → parseFieldDescriptor (rowT ci k).2.2.1 = some (tyT ci k) := by
  intro ci h
  have h2 : ci = 0 ∨ ci = 1 ∨ ci = 2 ∨ ci = 3 ∨ ci = 4 ∨ ci = 5 ∨ ci = 6 ∨ ci = 7 ∨ ci = 8 ∨ ci = 9 := by omega
  rcases h2 with rfl | rfl | rfl | rfl | rfl | rfl | rfl | rfl | rfl | rfl
  · exact tyX0_ok
  · exact tyX1_ok
  · exact tyX2_ok
  · exact tyX3_ok
  · exact tyX4_ok
  · exact tyX5_ok
  · exact tyX6_ok
  · exact tyX7_ok
  · exact tyX8_ok
  · exact tyX9_ok
theorem nm_all : ∀ ci, ci < 10 → ∀ a, a < (vwCl.getD ci ("", TX1, 0)).2.2 → ∀ b, b < (vwCl.getD ci ("", TX1, 0)).2.2 → a ≠ b → (rowT ci a).2.1 ≠ (rowT ci b).2.1 := by
  intro ci h
  have h2 : ci = 0 ∨ ci = 1 ∨ ci = 2 ∨ ci = 3 ∨ ci = 4 ∨ ci = 5 ∨ ci = 6 ∨ ci = 7 ∨ ci = 8 ∨ ci = 9 := by omega
  rcases h2 with rfl | rfl | rfl | rfl | rfl | rfl | rfl | rfl | rfl | rfl
  · exact nmX0
  · exact nmX1
  · exact nmX2
  · exact nmX3
  · exact nmX4
  · exact nmX5
  · exact nmX6
  · exact nmX7
  · exact nmX8
  · exact nmX9
theorem fld_at {o i : Nat} {e : Nat × Nat × Nat × Nat × Nat × Nat} (h : fF o i = some e) : e.1 = o ∧ e.2.1 = i ∧ fldOk e = true ∧ fldW e ∈ WS := by
  have hm := List.mem_of_find?_eq_some h
  have hp := List.find?_some h
  simp only [Bool.and_eq_true, beq_iff_eq] at hp
  exact ⟨hp.1, hp.2, List.all_eq_true.mp fldT_ok _ hm, chkW_spec _ _ fldT_w _ (List.mem_map.mpr ⟨e, hm, rfl⟩)⟩
theorem cv_fit {E : ET} {ty : FieldType} {v : AV} (h : fitk (fkOf ty) v) : narrow ty (cv E v) = cv E v ∧ fits ty (cv E v) = true := by
  cases ty <;> rcases v with z | z | (_ | z) <;> first | exact h.elim | exact ⟨rfl, rfl⟩ | skip
  all_goals (rcases (show z = 0 ∨ z = 1 from h) with rfl | rfl <;> exact ⟨rfl, rfl⟩)
theorem getD_set_map {E : ET} {fs : List AV} {k : Nat} (hk : k < fs.length) (v : AV) (j : Nat) : updV (fun k => cv E (fs.getD k vn)) k (cv E v) j = cv E ((fs.set k v).getD j vn) := by
  unfold updV
  by_cases h : j = k
  · subst h
    rw [if_pos rfl]
    simp [List.getD_eq_getElem?_getD, List.getElem?_set_self hk]
  · rw [if_neg h]
    simp [List.getD_eq_getElem?_getD, List.getElem?_set_ne (fun e => h e.symm)]
theorem Sc.put {E : ET} {s : State} {H H1 : Heap} {locs : List Loc} {c : Int} {k : Nat} (hS : Sc E s H locs) (hc : 0 ≤ c) (ho : ∀ q, q ≠ ad E c → H1[q]? = H[q]?) : Sc E s H1 (locs ++ [⟨ad E c, k⟩]) := by
  have hb : eB E ≤ ad E c := by unfold ad; rw [if_neg (by omega)]; omega
  refine ⟨fun q hq => ?_, fun x hx => ?_⟩
  · rw [ho q (fun e => by rw [e] at hq; omega)]
    exact hS.1 q hq
  · rcases List.mem_append.mp hx with h1 | h1
    · exact hS.2 x h1
    · rw [List.mem_singleton.mp h1]
      exact hb
section SH
variable {E : ET} {g : GT} {mi : MI} {d : Nat} {lm : Nat × Nat} {RT : RTy} {F : FT} {K : KT} {L : LV} {st : List AV} {h : AH} {pc : Nat}
theorem s_getf {i : Nat} {e0 : Nat × Nat × Nat × Nat × Nat × Nat} (hf : fF mi.1 i = some e0) (hd : decode mi.2.1 pc = .ok (.getfield i, 3)) (hK : ∀ pc L st h, K pc L st h → G E g mi d lm RT pc L st h) (hx : exI E d lm RT F K (35, (e0.2.2.1 : Int), (e0.2.2.2.1 : Int), pc + 3, []) L st h) : G E g mi d lm RT pc L st h := by
  obtain ⟨p, e, R, s, m, args, below, meth, c, Q, c0, s0⟩ := g
  intro ok H locs ls hR hS hL hI
  obtain ⟨e1, e2, e3, e4, e5, e6, e7, e8, e9, e10⟩ := id ok
  obtain ⟨o', i', ci, k, fk, fin⟩ := e0
  obtain ⟨rfl, rfl, hok, hw⟩ := fld_at hf
  simp only [fldOk, Bool.and_eq_true, decide_eq_true_eq] at hok
  obtain ⟨⟨⟨⟨hci, hk⟩, hfk⟩, hfin⟩, hdecl⟩ := hok
  rcases st with _ | ⟨(z | z | (_ | cc)), st⟩ <;> try exact hx.elim
  replace hx : (match gfv h cc (ci : Int).toNat (k : Int).toNat with | some v => K (pc + 3) L (v :: st) h | none => False) := hx
  rw [Int.toNat_natCast, Int.toNat_natCast] at hx
  split at hx
  · rename_i v hv
    have hkk := hK _ _ _ _ hx ok H locs ls hR hS hL hI
    unfold gfv at hv
    split at hv
    · rename_i ci' fs hcell
      split at hv
      · rename_i hcc
        subst hcc
        obtain ⟨-, r, hr, cell, q1, q2, q3, q4⟩ := hR.2.2 _ _ hcell
        rw [vwCl_at hci] at hr
        cases hr
        obtain ⟨hSl, hfc, kC, hkC, hkind⟩ := e6.1 ci' _ (vwCl_at hci)
        obtain ⟨cf, kf, fi, f, hi, hsl⟩ := hSl k hk
        refine W.getf (g := F0 m pc ls (.ref (ad E cc) :: st.map (cv E))) e1 e2 e4 (e5 _ hw) hi (u_facts hfc hkC (u_lays e5 (u_in_all ci' hci) hk) hi).1 q1 (by rw [q3]; exact fun h => by cases h) (v := cv E v) ?_ rfl rfl hd hkk
        rw [hsl, q4 k hk]
        simp [List.getD_eq_getElem?_getD, hv]
      · cases hv
    · cases hv
  · exact hx.elim
theorem s_putf {i : Nat} {e0 : Nat × Nat × Nat × Nat × Nat × Nat} (hf : fF mi.1 i = some e0) (hf0 : (e0.2.2.2.2.2 == 0) = true) (hd : decode mi.2.1 pc = .ok (.putfield i, 3)) (hK : ∀ pc L st h, K pc L st h → G E g mi d lm RT pc L st h) (hx : exI E d lm RT F K (36, (e0.2.2.1 : Int), (e0.2.2.2.1 : Int), pc + 3, [e0.2.2.2.2.1]) L st h) : G E g mi d lm RT pc L st h := by
  obtain ⟨p, e, R, s, m, args, below, meth, c, Q, c0, s0⟩ := g
  intro ok H locs ls hR hS hL hI
  obtain ⟨e1, e2, e3, e4, e5, e6, e7, e8, e9, e10⟩ := id ok
  obtain ⟨o', i', ci, k, fk, fin⟩ := e0
  obtain ⟨rfl, rfl, hok, hw⟩ := fld_at hf
  simp only [fldOk, Bool.and_eq_true, decide_eq_true_eq] at hok
  obtain ⟨⟨⟨⟨hci, hk⟩, hfk⟩, hfin⟩, hdecl⟩ := hok
  rcases st with _ | ⟨v, _ | ⟨(z | z | (_ | cc)), st⟩⟩ <;> try exact hx.elim
  obtain ⟨hfit, hc0, hx⟩ := hx
  replace hx : (match h.2.2 cc with | some (.inr (ci', fs)) => ci' = (ci : Int).toNat ∧ (k : Int).toNat < fs.length ∧ K (pc + 3) L st (hset h cc (.inr (ci', fs.set (k : Int).toNat v))) | _ => False) := hx
  rw [Int.toNat_natCast, Int.toNat_natCast] at hx
  split at hx
  · rename_i ci' fs hcell
    obtain ⟨rfl, hl, hx⟩ := hx
    obtain ⟨-, r, hr, cell, q1, q2, q3, q4⟩ := hR.2.2 _ _ hcell
    rw [vwCl_at hci] at hr
    cases hr
    obtain ⟨hSl, hfc, kC, hkC, hkind⟩ := e6.1 ci' _ (vwCl_at hci)
    obtain ⟨cf, kf, fi, f, hi, hsl⟩ := hSl k hk
    have hlay := e5 _ (u_in_all ci' hci _ (u_in_lay hk))
    unfold u_lay at hlay
    have hff : (rowT ci' k).2.2.2 = false := by
      have h0 : fin = 0 := by simpa using hf0
      rw [hfin, h0]; rfl
    rw [if_neg (by rw [hff]; decide)] at hlay
    have hst := (u_facts hfc hkC (u_lays e5 (u_in_all ci' hci) hk) hi).1
    have hfit' : fitk (fkOf (tyT ci' k)) v := by rw [hfk]; exact hfit
    obtain ⟨hn, hft⟩ := cv_fit (E := E) hfit'
    have h6 := u_store hfc hkC hkind hlay hi (ty_all ci' hci k hk) hn hft
    have hap : ∀ x y, x < (vwCl.getD ci' ("", TX1, 0)).2.2 → y < (vwCl.getD ci' ("", TX1, 0)).2.2 → x ≠ y → eS E ci' x ≠ eS E ci' y := by
      intro x y hx hy hne
      obtain ⟨_, _, _, fa, hia, ea⟩ := hSl x hx
      obtain ⟨_, _, _, fb, hib, eb⟩ := hSl y hy
      rw [← ea, ← eb]
      refine u_apart (u_lays e5 (u_in_all ci' hci) hx) (u_lays e5 (u_in_all ci' hci) hy) hia hib ?_
      rw [(State.fieldFound?_type hia (ty_all ci' hci x hx)).1, (State.fieldFound?_type hib (ty_all ci' hci y hy)).1]
      exact nm_all ci' hci x hx y hy hne
    refine W.putK (g := F0 m pc ls (cv E v :: .ref (ad E cc) :: st.map (cv E))) e1 e2 (f := f) ⟨e4, e5 _ hw, ⟨_, _, _, hi⟩, hst⟩ (by rw [q2]; exact h6) q1 q3 (by rw [hsl]; exact k2_hasslot (q4 k hk)) rfl rfl hd fun H' a1 a2 a3 => ?_
    rw [hsl] at a1
    exact hK _ _ _ _ hx ok H' _ ls (hR.set hcell ⟨_, vwCl_at hci, t_OB.to (V := updV (fun k => cv E (fs.getD k vn)) k (cv E v)) ⟨_, a1, q2, q3, t_set q4 hap hk _⟩ (fun j _ => getD_set_map hl v j)⟩ a2 a3) (hS.put hc0 a3) hL hI
  · exact hx.elim
theorem s_putff {i : Nat} {e0 : Nat × Nat × Nat × Nat × Nat × Nat} (hf : fF mi.1 i = some e0) (hf0 : ¬ (e0.2.2.2.2.2 == 0) = true) (hini : mi.2.2.2.2 = true) (hci0 : e0.2.2.1 = mi.1) (hd : decode mi.2.1 pc = .ok (.putfield i, 3)) (hK : ∀ pc L st h, K pc L st h → G E g mi d lm RT pc L st h) (hx : exI E d lm RT F K (37, (e0.2.2.1 : Int), (e0.2.2.2.1 : Int), pc + 3, [e0.2.2.2.2.1]) L st h) : G E g mi d lm RT pc L st h := by
  obtain ⟨p, e, R, s, m, args, below, meth, c, Q, c0, s0⟩ := g
  intro ok H locs ls hR hS hL hI
  obtain ⟨e1, e2, e3, e4, e5, e6, e7, e8, e9, e10⟩ := id ok
  obtain ⟨o', i', ci, k, fk, fin⟩ := e0
  obtain ⟨rfl, rfl, hok, hw⟩ := fld_at hf
  simp only [fldOk, Bool.and_eq_true, decide_eq_true_eq] at hok
  obtain ⟨⟨⟨⟨hci, hk⟩, hfk⟩, hfin⟩, hdecl⟩ := hok
  rcases st with _ | ⟨v, _ | ⟨(z | z | (_ | cc)), st⟩⟩ <;> try exact hx.elim
  obtain ⟨hfit, hc0, hx⟩ := hx
  replace hx : (match h.2.2 cc with | some (.inr (ci', fs)) => ci' = (ci : Int).toNat ∧ (k : Int).toNat < fs.length ∧ K (pc + 3) L st (hset h cc (.inr (ci', fs.set (k : Int).toNat v))) | _ => False) := hx
  rw [Int.toNat_natCast, Int.toNat_natCast] at hx
  split at hx
  · rename_i ci' fs hcell
    obtain ⟨rfl, hl, hx⟩ := hx
    obtain ⟨-, r, hr, cell, q1, q2, q3, q4⟩ := hR.2.2 _ _ hcell
    rw [vwCl_at hci] at hr
    cases hr
    obtain ⟨hSl, hfc, kC, hkC, hkind⟩ := e6.1 ci' _ (vwCl_at hci)
    obtain ⟨cf, kf, fi, f, hi, hsl⟩ := hSl k hk
    have hlay := e5 _ (u_in_all ci' hci _ (u_in_lay hk))
    unfold u_lay at hlay
    have hff : (rowT ci' k).2.2.2 = true := by
      have h0 : ¬ fin = 0 := by simpa using hf0
      rw [hfin]; simpa using h0
    rw [if_pos hff] at hlay
    have hst := (u_facts hfc hkC (u_lays e5 (u_in_all ci' hci) hk) hi).1
    have hfit' : fitk (fkOf (tyT ci' k)) v := by rw [hfk]; exact hfit
    obtain ⟨hn, hft⟩ := cv_fit (E := E) hfit'
    have hcf : m.cls = cf := by
      obtain ⟨_, _, c', _, _, _, -, -, hf', -, -, -, hown2, -⟩ := Cond.laysFinal_spec hlay
      have e1 : c' = cf := by have := hi.symm.trans hf'; simp at this; exact this.1.symm
      rw [hdecl] at hown2
      rw [← e1]
      dsimp only at hci0
      subst hci0
      exact Option.some.inj (e4.symm.trans hown2)
    have h6 := u_fits hfc hkC hkind (Or.inr hlay) hi (ty_all ci' hci k hk) hn hft
    have hap : ∀ x y, x < (vwCl.getD ci' ("", TX1, 0)).2.2 → y < (vwCl.getD ci' ("", TX1, 0)).2.2 → x ≠ y → eS E ci' x ≠ eS E ci' y := by
      intro x y hx hy hne
      obtain ⟨_, _, _, fa, hia, ea⟩ := hSl x hx
      obtain ⟨_, _, _, fb, hib, eb⟩ := hSl y hy
      rw [← ea, ← eb]
      refine u_apart (u_lays e5 (u_in_all ci' hci) hx) (u_lays e5 (u_in_all ci' hci) hy) hia hib ?_
      rw [(State.fieldFound?_type hia (ty_all ci' hci x hx)).1, (State.fieldFound?_type hib (ty_all ci' hci y hy)).1]
      exact nm_all ci' hci x hx y hy hne
    refine W.putFinK (g := F0 m pc ls (cv E v :: .ref (ad E cc) :: st.map (cv E))) e1 e2 e4 (e5 _ hw) hi hst hcf (e9 hini) (by rw [q2]; exact h6) q1 q3 (by rw [hsl]; exact k2_hasslot (q4 k hk)) rfl rfl hd fun H' a1 a2 a3 => ?_
    rw [hsl] at a1
    exact hK _ _ _ _ hx ok H' _ ls (hR.set hcell ⟨_, vwCl_at hci, t_OB.to (V := updV (fun k => cv E (fs.getD k vn)) k (cv E v)) ⟨_, a1, q2, q3, t_set q4 hap hk _⟩ (fun j _ => getD_set_map hl v j)⟩ a2 a3) (hS.put hc0 a3) hL hI
  · exact hx.elim
end SH
