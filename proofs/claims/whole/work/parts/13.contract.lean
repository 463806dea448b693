/-! ===== a contract out of a run ===== -/
def entA : List AV → LV
  | [] => []
  | .inr (.inl z) :: t => some (vl z) :: none :: entA t
  | v :: t => some v :: entA t
def entL (n : Nat) (as : List AV) : LV := entA as ++ List.replicate (n - (entA as).length) none
theorem entA_mem {E : ET} : ∀ (as : List AV) (k i : Nat) (v : AV), (entA as)[i]? = some (some v) → (k + i, cv E v) ∈ lv_args k (as.map (cv E)) := by
  intro as
  induction as with
  | nil => intro k i v h; simp [entA] at h
  | cons a t ih =>
    intro k i v h
    rcases a with z | z | r
    · rcases i with _ | i
      · simp [entA] at h
        subst h
        exact List.mem_cons_self
      · have h' : (entA t)[i]? = some (some v) := by simpa [entA] using h
        have := ih (k + 1) i v h'
        rw [show k + (i + 1) = k + 1 + i by omega]
        exact List.mem_cons_of_mem _ this
    · rcases i with _ | _ | i
      · simp [entA] at h
        subst h
        exact List.mem_cons_self
      · simp [entA] at h
      · have h' : (entA t)[i]? = some (some v) := by simpa [entA] using h
        have := ih (k + 2) i v h'
        rw [show k + (i + 1 + 1) = k + 2 + i by omega]
        exact List.mem_cons_of_mem _ this
    · rcases i with _ | i
      · simp [entA] at h
        subst h
        exact List.mem_cons_self
      · have h' : (entA t)[i]? = some (some v) := by simpa [entA] using h
        have := ih (k + 1) i v h'
        rw [show k + (i + 1) = k + 1 + i by omega]
        rcases r with _ | r <;> exact List.mem_cons_of_mem _ this
theorem entA_len {E : ET} : ∀ as : List AV, (lg_sl (as.map (cv E))).length = (entA as).length := by
  intro as
  induction as with
  | nil => rfl
  | cons a t ih =>
    rcases a with z | z | (_ | r) <;> simp only [lg_sl, entA, List.map_cons, List.flatMap_cons, List.length_append, List.length_cons] at ih ⊢ <;> rw [ih] <;> simp [cv, Value.category] <;> omega
theorem entL_LR {E : ET} {n : Nat} {as : List AV} (h : (entA as).length ≤ n) : LR E ((lg_sl (as.map (cv E)) ++ List.replicate (n - (lg_sl (as.map (cv E))).length) Slot.unset).toArray) n (entL n as) := by
  have hl := lv_entry (as.map (cv E)) (n := n) (by rw [entA_len]; exact h)
  refine ⟨hl.1, hl.2.1, by simp [entL]; omega, fun i v hv => ?_⟩
  have hv' : (entA as)[i]? = some (some v) := by
    unfold entL at hv
    by_cases hi : i < (entA as).length
    · rw [List.getElem?_append_left hi] at hv
      exact hv
    · rw [List.getElem?_append_right (by omega)] at hv
      rw [List.getElem?_replicate] at hv
      split at hv <;> cases hv
  have := entA_mem (E := E) as 0 i v hv'
  rw [Nat.zero_add] at this
  exact hl.2.2 _ this
def rkOf : Option FieldType → Nat
  | none => 4
  | some .int => 0
  | some .boolean => 1
  | some .long => 2
  | some (.object _) => 3
  | _ => 9
def miOk (mi : MI) (y : MT) : Bool := decide (mi.2.1 = y.2.1) && decide (mi.2.2.1 = y.2.2.1) && decide (ownS mi.1 = y.1.cls) && decide (mi.2.2.2.1 = rkOf y.2.2.2.1) && decide (mi.2.2.2.2 = decide (y.1.name = "<init>")) && plainFor y.1 && decide (mi.2.2.2.1 < 5)
theorem Ctr_of {E : ET} {d j : Nat} {as : List AV} {h : AH} {r : Option AV} {h' : AH} (mi : MI) (hmi : miOk mi (mt j) = true) (hn : (entA as).length ≤ mi.2.2.1) (hle : h.1 ≤ h'.1 ∧ h.2.1 ≤ h'.2.1)
    (hg : ∀ g, G E g mi d (h'.1, h'.2.1) (fun v h'' => v = r ∧ h'' = h') 0 (entL mi.2.2.1 as) [] h) : Ctr E d j as h r h' := by
  simp only [miOk, Bool.and_eq_true, decide_eq_true_eq] at hmi
  obtain ⟨⟨⟨⟨⟨⟨m1, m2⟩, m3⟩, m4⟩, m5⟩, m6⟩, m7⟩ := hmi
  unfold Ctr CtrM
  refine va_MetF m6 rfl ?_
  intro p e s m args below meth c s₁ B hml hv
  obtain ⟨rfl, hR, hK⟩ := hv
  have hr := B.returns
  have hts := atoms_spec (ws := Jvm.Cond.code (mt j).1 (mt j).2.1 (mt j).2.2.1 (mt j).2.2.2.1 :: WS) B.pre
  have hown : s.vm.findClass (mt j).1.cls = some m.cls := findClass_of_methodNamed B.named
  have hlocks := B.notSynchronized
  have hin := (name_of_methodNamed B.named B.method).1
  rw [lg_entry_eq]
  have hLR := entL_LR (E := E) hn
  rw [m2] at hLR hn
  have key := hg (p, e, { frames := d, cells := h'.1 - h.1, slots := h'.2.1 - h.2.1, locals := 38 * d }, s, m, (as.map (cv E)).toArray, below, meth, c, MQ below (cQc E r h') (as.map (cv E)).toArray s (h'.1 - h.1) (h'.2.1 - h.2.1) (fun q => eB E ≤ q), h.1, h.2.1)
  have hk := key ⟨B.exec, by rw [m1]; exact B.bytes, by rw [m2]; exact hml, by rw [m3]; exact hown, fun w hw => hts w (List.mem_cons_of_mem _ hw), hK, ⟨Nat.le_refl _, Nat.le_refl _⟩, ⟨by show h'.1 ≤ h.1 + (h'.1 - h.1); omega, by show h'.2.1 ≤ h.2.1 + (h'.2.1 - h.2.1); omega⟩, fun hi => by rw [hin]; rw [hi] at m5; exact of_decide_eq_true m5.symm, ?_⟩ s.heap [] _ hR ⟨fun _ _ => rfl, fun x hx => absurd hx List.not_mem_nil⟩ (by rw [m2]; exact hLR) ⟨Nat.le_refl _, hle.1, Nat.le_refl _, hle.2⟩
  · have q1 : h.1 - h.1 = 0 := by omega
    have q2 : h.2.1 - h.2.1 = 0 := by omega
    rw [q1, q2] at hk
    exact hk
  · intro v h2 H locs ls pc hI hrd hrt hR2 hS2
    obtain ⟨rfl, rfl⟩ := hrt
    rw [m4, m1] at hrd
    have hq : ∀ t : State, t.heap = H → s.WarmedH t.vm → cQc E v h2 (as.map (cv E)).toArray s (.returned (v.map (cv E))) t := fun t ht hW => ⟨rfl, by rw [ht]; exact hR2, fun q hq => by rw [ht]; exact hS2.1 q hq⟩
    have hf : ∀ q ∈ locs, eB E ≤ q.base := hS2.2
    have m8 : rkOf (mt j).2.2.2.1 < 5 := by rw [← m4]; exact m7
    generalize hret : (mt j).2.2.2.1 = ret0 at hrd hr m8
    match ret0, hrd, hr, m8 with
    | none, hrd, hr, _ =>
      obtain ⟨hd, rfl⟩ := hrd
      exact W.vret B.exec B.bytes hr hq hf hd
    | some .int, hrd, hr, _ =>
      obtain ⟨hd, z, rfl⟩ := hrd
      exact W.iret B.exec B.bytes hr hq hf hd
    | some .boolean, hrd, hr, _ =>
      obtain ⟨hd, h01⟩ := hrd
      rcases h01 with rfl | rfl
      · exact W.zret B.exec B.bytes hr rfl hq hf hd
      · exact W.zret B.exec B.bytes hr rfl hq hf hd
    | some .long, hrd, hr, _ =>
      obtain ⟨hd, z, rfl⟩ := hrd
      exact W.lret B.exec B.bytes hr hq hf hd
    | some (.object C), hrd, hr, _ =>
      obtain ⟨hd, z, rfl⟩ := hrd
      exact W.aret B.exec B.bytes hr (Or.inl ⟨C, rfl⟩) (Or.inr ⟨_, rfl⟩) hq hf hd
    | some .byte, hrd, hr, h8 => exact absurd h8 (by decide)
    | some .char, hrd, hr, h8 => exact absurd h8 (by decide)
    | some .short, hrd, hr, h8 => exact absurd h8 (by decide)
    | some .float, hrd, hr, h8 => exact absurd h8 (by decide)
    | some .double, hrd, hr, h8 => exact absurd h8 (by decide)
    | some (.array _), hrd, hr, h8 => exact absurd (show 9 < 5 from h8) (by decide)
