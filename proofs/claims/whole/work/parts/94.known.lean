/-! ===== what is known of the classes at the start ===== -/
theorem inst0 : ∀ ci, ci < 10 → Jvm.Cond.instantiable (ownS ci) (dfl ci).length ∈ lw_tbl := by
  intro ci h
  have h2 : ci = 0 ∨ ci = 1 ∨ ci = 2 ∨ ci = 3 ∨ ci = 4 ∨ ci = 5 ∨ ci = 6 ∨ ci = 7 ∨ ci = 8 ∨ ci = 9 := by omega
  rcases h2 with rfl | rfl | rfl | rfl | rfl | rfl | rfl | rfl | rfl | rfl <;> decide +kernel
theorem kn_all {args : Array Value} {s : State} (hts : ∀ w ∈ lw_tbl, w.before args s = true) : ∃ (dC : Nat → ClassId) (dI : Nat → Nat → Nat), ∀ (ci : Nat) (q : vw_C), vwCl[ci]? = some q → u_Kn s q.1 q.2.1 q.2.2 (dC ci) (dI ci) := by
  have hws : ∀ w ∈ WS, w.before args s = true := fun w hw => hts w (List.mem_filter.mp hw).1
  have h1 : ∀ ci : Nat, ∃ r : ClassId × (Nat → Nat), ci < 10 → u_Kn s (ownS ci) (rowT ci) (vwCl.getD ci ("", TX1, 0)).2.2 r.1 r.2 := by
    intro ci
    by_cases h : ci < 10
    · obtain ⟨cC, iS, hk⟩ := u_known hws (u_in_all ci h) (hts _ (inst0 ci h))
      exact ⟨(cC, iS), fun _ => hk⟩
    · exact ⟨(0, fun _ => 0), fun f => absurd f h⟩
  refine ⟨fun ci => (h1 ci).choose.1, fun ci => (h1 ci).choose.2, fun ci q hq => ?_⟩
  have hci : ci < 10 := (List.getElem?_eq_some_iff.mp hq).1
  rw [vwCl_at hci] at hq
  rw [← Option.some.inj hq]
  exact (h1 ci).choose_spec hci
theorem ar_one {s : State} {cA : ClassId} {k : Class} {comp : ClassId} {ty : FieldType} (h1 : s.vm.classes[cA]? = some k) (h2 : k.kind = .array comp ty) : ArrOfT s cA ty := fun _ _ => ⟨(fun _ h => nomatch h), k, h1, comp, h2⟩
theorem ar_all {args : Array Value} {s : State} (hts : ∀ w ∈ WS, w.before args s = true) (c9 : ClassId) : ∃ aC : Nat → ClassId, aC 9 = c9 ∧ ∀ k, k < 6 → ArrOfT s (aC k) (ki k) ∧ va_RA s (aC k) (ki k) := by
  obtain ⟨c0, k0, p0, a0, b0, d0⟩ := Cond.arrayClass_spec (hts (.arrayClass .int) (w_arr (by simp)))
  obtain ⟨c1, k1, p1, a1, b1, d1⟩ := Cond.arrayClass_spec (hts (.arrayClass .boolean) (w_arr (by simp)))
  obtain ⟨c2, k2, p2, a2, b2, d2⟩ := Cond.arrayClass_spec (hts (.arrayClass .long) (w_arr (by simp)))
  obtain ⟨p3, c3, k3, a3, -, b3, d3, e3⟩ := Cond.arrayOver_spec (hts (.arrayOver (.object "WalkedWays$Row")) (w_arr (by simp)))
  obtain ⟨p4, c4, k4, a4, -, b4, d4, e4⟩ := Cond.arrayOver_spec (hts (.arrayOver (.object "WalkedWays$Walker")) (w_arr (by simp)))
  obtain ⟨p5, c5, k5, a5, -, b5, d5, e5⟩ := Cond.arrayOver_spec (hts (.arrayOver (.object "WalkedWays$Plain")) (w_arr (by simp)))
  refine ⟨fun k => match k with | 0 => c0 | 1 => c1 | 2 => c2 | 3 => c3 | 4 => c4 | 5 => c5 | _ => c9, rfl, fun k hk => ?_⟩
  have h2 : k = 0 ∨ k = 1 ∨ k = 2 ∨ k = 3 ∨ k = 4 ∨ k = 5 := by omega
  rcases h2 with rfl | rfl | rfl | rfl | rfl | rfl
  · exact ⟨ar_one b0 d0, a0⟩
  · exact ⟨ar_one b1 d1, a1⟩
  · exact ⟨ar_one b2 d2, a2⟩
  · exact ⟨ar_one b3 d3, k3, p3, b3, d3, a3, e3⟩
  · exact ⟨ar_one b4 d4, k4, p4, b4, d4, a4, e4⟩
  · exact ⟨ar_one b5 d5, k5, p5, b5, d5, a5, e5⟩
