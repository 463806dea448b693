/-! ===== the step, the run, a contract out of a run ===== -/
def FOk (E : ET) (d : Nat) (F : FT) : Prop := ∀ (j : Nat) (as : List AV) (h : AH) (r : AV), F j as h = some r → ∃ d0, d0 + 1 ≤ d ∧ Ctr E d0 j as h (some r) h
theorem leaf_call {E : ET} {d : Nat} {lm : Nat × Nat} {F : FT} {K : KT} (hF : FOk E d F) {nx j : Nat} {as : List AV} {L : LV} {st : List AV} {h : AH} (hx : match F j as h with | some r => st.length ≤ 4 ∧ K nx L (r :: st) h | none => False) : callK E d lm K nx j as L st h := by
  split at hx
  · rename_i r hr
    obtain ⟨d0, h1, h2⟩ := hF _ _ _ _ hr
    exact ⟨d0, some r, h, h1, h2, ⟨Nat.le_refl _, Or.inl rfl, Nat.le_refl _, Or.inl rfl⟩, cwt_le hx.1, hx.2⟩
  · exact hx.elim
theorem sstep {E : ET} {g : GT} {mi : MI} {d : Nat} {lm : Nat × Nat} {RT : RTy} {F : FT} {K : KT} {L : LV} {st : List AV} {h : AH} {pc : Nat} {pt : PT} (hF : FOk E d F) (hok : okPt mi pc pt) (hK : ∀ pc L st h, K pc L st h → G E g mi d lm RT pc L st h) (hx : exI E d lm RT F K pt L st h) : G E g mi d lm RT pc L st h := by
  obtain ⟨i, len, hd, hr⟩ := hok
  cases i with
  | iconst n =>
    obtain ⟨hb, rfl⟩ := gd_some hr
    cases (beq_iff_eq.mp hb : len = _)
    exact s_iconst hd hK hx
  | bipush n =>
    obtain ⟨hb, rfl⟩ := gd_some hr
    simp only [Bool.and_eq_true, beq_iff_eq, decide_eq_true_eq] at hb
    obtain ⟨rfl, hb⟩ := hb
    exact s_bipush hb hd hK hx
  | sipush n =>
    obtain ⟨hb, rfl⟩ := gd_some hr
    simp only [Bool.and_eq_true, beq_iff_eq, decide_eq_true_eq] at hb
    obtain ⟨rfl, hb⟩ := hb
    exact s_sipush hb hd hK hx
  | ldc i =>
    obtain ⟨e0, he, hr⟩ := Option.bind_eq_some_iff.mp hr
    obtain ⟨hb, rfl⟩ := gd_some hr
    cases (beq_iff_eq.mp hb : len = _)
    obtain ⟨o', i', n⟩ := e0
    have hm := List.mem_of_find?_eq_some he
    have hp := List.find?_some he
    simp only [Bool.and_eq_true, beq_iff_eq] at hp
    obtain ⟨rfl, rfl⟩ := hp
    exact s_ldc (chkW_spec _ _ cstT_w _ (List.mem_map.mpr ⟨_, hm, rfl⟩)) hd hK hx
  | ldc_w i =>
    obtain ⟨e0, he, hr⟩ := Option.bind_eq_some_iff.mp hr
    obtain ⟨hb, rfl⟩ := gd_some hr
    cases (beq_iff_eq.mp hb : len = _)
    obtain ⟨o', i', n⟩ := e0
    have hm := List.mem_of_find?_eq_some he
    have hp := List.find?_some he
    simp only [Bool.and_eq_true, beq_iff_eq] at hp
    obtain ⟨rfl, rfl⟩ := hp
    exact s_ldcw (chkW_spec _ _ cstT_w _ (List.mem_map.mpr ⟨_, hm, rfl⟩)) hd hK hx
  | lconst n =>
    obtain ⟨hb, rfl⟩ := gd_some hr
    cases (beq_iff_eq.mp hb : len = _)
    exact s_lconst hd hK hx
  | ldc2_w i =>
    obtain ⟨e0, he, hr⟩ := Option.bind_eq_some_iff.mp hr
    obtain ⟨hb, rfl⟩ := gd_some hr
    cases (beq_iff_eq.mp hb : len = _)
    obtain ⟨o', i', n⟩ := e0
    have hm := List.mem_of_find?_eq_some he
    have hp := List.find?_some he
    simp only [Bool.and_eq_true, beq_iff_eq] at hp
    obtain ⟨rfl, rfl⟩ := hp
    exact s_ldc2 (chkW_spec _ _ cslT_w _ (List.mem_map.mpr ⟨_, hm, rfl⟩)) hd hK hx
  | iload_n n =>
    obtain ⟨hb, rfl⟩ := gd_some hr
    cases (beq_iff_eq.mp hb : len = _)
    exact s_iload_n hd hK hx
  | iload n =>
    obtain ⟨hb, rfl⟩ := gd_some hr
    cases (beq_iff_eq.mp hb : len = _)
    exact s_iload hd hK hx
  | istore_n n =>
    obtain ⟨hb, rfl⟩ := gd_some hr
    cases (beq_iff_eq.mp hb : len = _)
    exact s_istore_n hd hK hx
  | istore n =>
    obtain ⟨hb, rfl⟩ := gd_some hr
    cases (beq_iff_eq.mp hb : len = _)
    exact s_istore hd hK hx
  | aload_n n =>
    obtain ⟨hb, rfl⟩ := gd_some hr
    cases (beq_iff_eq.mp hb : len = _)
    exact s_aload_n hd hK hx
  | aload n =>
    obtain ⟨hb, rfl⟩ := gd_some hr
    cases (beq_iff_eq.mp hb : len = _)
    exact s_aload hd hK hx
  | astore_n n =>
    obtain ⟨hb, rfl⟩ := gd_some hr
    cases (beq_iff_eq.mp hb : len = _)
    exact s_astore_n hd hK hx
  | astore n =>
    obtain ⟨hb, rfl⟩ := gd_some hr
    cases (beq_iff_eq.mp hb : len = _)
    exact s_astore hd hK hx
  | lload_n n =>
    obtain ⟨hb, rfl⟩ := gd_some hr
    cases (beq_iff_eq.mp hb : len = _)
    exact s_lload_n hd hK hx
  | lload n =>
    obtain ⟨hb, rfl⟩ := gd_some hr
    cases (beq_iff_eq.mp hb : len = _)
    exact s_lload hd hK hx
  | lstore_n n =>
    obtain ⟨hb, rfl⟩ := gd_some hr
    cases (beq_iff_eq.mp hb : len = _)
    exact s_lstore_n hd hK hx
  | lstore n =>
    obtain ⟨hb, rfl⟩ := gd_some hr
    cases (beq_iff_eq.mp hb : len = _)
    exact s_lstore hd hK hx
  | iinc k n =>
    obtain ⟨hb, rfl⟩ := gd_some hr
    cases (beq_iff_eq.mp hb : len = _)
    exact s_iinc hd hK hx
  | iadd =>
    obtain ⟨hb, rfl⟩ := gd_some hr
    cases (beq_iff_eq.mp hb : len = _)
    exact s_iadd hd hK hx
  | isub =>
    obtain ⟨hb, rfl⟩ := gd_some hr
    cases (beq_iff_eq.mp hb : len = _)
    exact s_isub hd hK hx
  | imul =>
    obtain ⟨hb, rfl⟩ := gd_some hr
    cases (beq_iff_eq.mp hb : len = _)
    exact s_imul hd hK hx
  | idiv =>
    obtain ⟨hb, rfl⟩ := gd_some hr
    cases (beq_iff_eq.mp hb : len = _)
    exact s_idiv hd hK hx
  | irem =>
    obtain ⟨hb, rfl⟩ := gd_some hr
    cases (beq_iff_eq.mp hb : len = _)
    exact s_irem hd hK hx
  | iand =>
    obtain ⟨hb, rfl⟩ := gd_some hr
    cases (beq_iff_eq.mp hb : len = _)
    exact s_iand hd hK hx
  | ior =>
    obtain ⟨hb, rfl⟩ := gd_some hr
    cases (beq_iff_eq.mp hb : len = _)
    exact s_ior hd hK hx
  | ixor =>
    obtain ⟨hb, rfl⟩ := gd_some hr
    cases (beq_iff_eq.mp hb : len = _)
    exact s_ixor hd hK hx
  | ishl =>
    obtain ⟨hb, rfl⟩ := gd_some hr
    cases (beq_iff_eq.mp hb : len = _)
    exact s_ishl hd hK hx
  | ishr =>
    obtain ⟨hb, rfl⟩ := gd_some hr
    cases (beq_iff_eq.mp hb : len = _)
    exact s_ishr hd hK hx
  | iushr =>
    obtain ⟨hb, rfl⟩ := gd_some hr
    cases (beq_iff_eq.mp hb : len = _)
    exact s_iushr hd hK hx
  | ladd =>
    obtain ⟨hb, rfl⟩ := gd_some hr
    cases (beq_iff_eq.mp hb : len = _)
    exact s_ladd hd hK hx
  | lsub =>
    obtain ⟨hb, rfl⟩ := gd_some hr
    cases (beq_iff_eq.mp hb : len = _)
    exact s_lsub hd hK hx
  | lmul =>
    obtain ⟨hb, rfl⟩ := gd_some hr
    cases (beq_iff_eq.mp hb : len = _)
    exact s_lmul hd hK hx
  | ldiv =>
    obtain ⟨hb, rfl⟩ := gd_some hr
    cases (beq_iff_eq.mp hb : len = _)
    exact s_ldiv hd hK hx
  | lrem =>
    obtain ⟨hb, rfl⟩ := gd_some hr
    cases (beq_iff_eq.mp hb : len = _)
    exact s_lrem hd hK hx
  | lcmp =>
    obtain ⟨hb, rfl⟩ := gd_some hr
    cases (beq_iff_eq.mp hb : len = _)
    exact s_lcmp hd hK hx
  | i2l =>
    obtain ⟨hb, rfl⟩ := gd_some hr
    cases (beq_iff_eq.mp hb : len = _)
    exact s_i2l hd hK hx
  | l2i =>
    obtain ⟨hb, rfl⟩ := gd_some hr
    cases (beq_iff_eq.mp hb : len = _)
    exact s_l2i hd hK hx
  | dup =>
    obtain ⟨hb, rfl⟩ := gd_some hr
    cases (beq_iff_eq.mp hb : len = _)
    exact s_dup hd hK hx
  | dup2 =>
    obtain ⟨hb, rfl⟩ := gd_some hr
    cases (beq_iff_eq.mp hb : len = _)
    exact s_dup2 hd hK hx
  | pop =>
    obtain ⟨hb, rfl⟩ := gd_some hr
    cases (beq_iff_eq.mp hb : len = _)
    exact s_pop hd hK hx
  | ifCond c off =>
    obtain ⟨hb, rfl⟩ := gd_some hr
    simp only [Bool.and_eq_true, beq_iff_eq, decide_eq_true_eq] at hb
    obtain ⟨rfl, hb⟩ := hb
    exact s_if hb hd hK hx
  | if_icmp c off =>
    obtain ⟨hb, rfl⟩ := gd_some hr
    simp only [Bool.and_eq_true, beq_iff_eq, decide_eq_true_eq] at hb
    obtain ⟨rfl, hb⟩ := hb
    exact s_icmp hb hd hK hx
  | goto off =>
    obtain ⟨hb, rfl⟩ := gd_some hr
    simp only [Bool.and_eq_true, beq_iff_eq, decide_eq_true_eq] at hb
    obtain ⟨rfl, hb⟩ := hb
    exact s_goto hb hd hK hx
  | tableswitch df lo hi offs =>
    obtain ⟨hb, rfl⟩ := gd_some hr
    simp only [Bool.and_eq_true, decide_eq_true_eq] at hb
    exact s_tsw hb.1 (fun o ho => of_decide_eq_true (List.all_eq_true.mp hb.2 o ho)) hd hK hx
  | getfield i =>
    obtain ⟨e0, he, hr⟩ := Option.bind_eq_some_iff.mp hr
    obtain ⟨hb, rfl⟩ := gd_some hr
    cases (beq_iff_eq.mp hb : len = _)
    exact s_getf he hd hK hx
  | putfield i =>
    obtain ⟨e0, he, hr⟩ := Option.bind_eq_some_iff.mp hr
    split at hr
    · rename_i h0
      obtain ⟨hb, rfl⟩ := gd_some hr
      cases (beq_iff_eq.mp hb : len = _)
      exact s_putf he h0 hd hK hx
    · rename_i h0
      obtain ⟨hb, rfl⟩ := gd_some hr
      simp only [Bool.and_eq_true, beq_iff_eq] at hb
      obtain ⟨⟨rfl, hb1⟩, hb2⟩ := hb
      exact s_putff he h0 hb1 hb2 hd hK hx
  | iaload =>
    obtain ⟨hb, rfl⟩ := gd_some hr
    cases (beq_iff_eq.mp hb : len = _)
    exact s_iald hd hK hx
  | baload =>
    obtain ⟨hb, rfl⟩ := gd_some hr
    cases (beq_iff_eq.mp hb : len = _)
    exact s_bald hd hK hx
  | laload =>
    obtain ⟨hb, rfl⟩ := gd_some hr
    cases (beq_iff_eq.mp hb : len = _)
    exact s_lald hd hK hx
  | iastore =>
    obtain ⟨hb, rfl⟩ := gd_some hr
    cases (beq_iff_eq.mp hb : len = _)
    exact s_iast hd hK hx
  | bastore =>
    obtain ⟨hb, rfl⟩ := gd_some hr
    cases (beq_iff_eq.mp hb : len = _)
    exact s_bast hd hK hx
  | lastore =>
    obtain ⟨hb, rfl⟩ := gd_some hr
    cases (beq_iff_eq.mp hb : len = _)
    exact s_last hd hK hx
  | aaload =>
    obtain ⟨hb, rfl⟩ := gd_some hr
    cases (beq_iff_eq.mp hb : len = _)
    exact s_aald hd hK hx
  | aastore =>
    obtain ⟨hb, rfl⟩ := gd_some hr
    cases (beq_iff_eq.mp hb : len = _)
    exact s_aast hd hK hx
  | arraylength =>
    obtain ⟨hb, rfl⟩ := gd_some hr
    cases (beq_iff_eq.mp hb : len = _)
    exact s_alen hd hK hx
  | new i =>
    obtain ⟨e0, he, hr⟩ := Option.bind_eq_some_iff.mp hr
    obtain ⟨hb, rfl⟩ := gd_some hr
    cases (beq_iff_eq.mp hb : len = _)
    exact s_new he hd hK hx
  | newarray a =>
    cases a <;> first | (simp [rsv] at hr; done) | skip
    · obtain ⟨hb, rfl⟩ := gd_some hr
      cases (beq_iff_eq.mp hb : len = _)
      exact s_newarr (k := 1) (Or.inr (Or.inl ⟨rfl, rfl⟩)) hd hK hx
    · obtain ⟨hb, rfl⟩ := gd_some hr
      cases (beq_iff_eq.mp hb : len = _)
      exact s_newarr (k := 0) (Or.inl ⟨rfl, rfl⟩) hd hK hx
    · obtain ⟨hb, rfl⟩ := gd_some hr
      cases (beq_iff_eq.mp hb : len = _)
      exact s_newarr (k := 2) (Or.inr (Or.inr ⟨rfl, rfl⟩)) hd hK hx
  | anewarray i =>
    obtain ⟨e0, he, hr⟩ := Option.bind_eq_some_iff.mp hr
    obtain ⟨k0, hk0, hr⟩ := Option.bind_eq_some_iff.mp hr
    obtain ⟨hb, rfl⟩ := gd_some hr
    cases (beq_iff_eq.mp hb : len = _)
    exact s_anewarr he hk0 hd hK hx
  | invokevirtual i =>
    obtain ⟨e0, he, hr⟩ := Option.bind_eq_some_iff.mp hr
    obtain ⟨o', i', kd, j, na, lf⟩ := e0
    dsimp only at hr
    split at hr
    · split at hr
      · obtain ⟨hb, rfl⟩ := gd_some hr
        cases (beq_iff_eq.mp hb : len = _)
        replace hx : (match st[(na : Int).toNat - 1]? with | some (.inr (.inr (some c))) => isOb h c (mcl j) ∧ callK E d lm K (pc + 3) (j : Int).toNat (st.take (na : Int).toNat).reverse L (st.drop (na : Int).toNat) h | _ => False) := hx
        rw [Int.toNat_natCast, Int.toNat_natCast] at hx
        split at hx
        · rename_i c hc
          exact s_virt he rfl hd hK hc hx.1 hx.2
        · exact hx.elim
      · obtain ⟨hb, rfl⟩ := gd_some hr
        cases (beq_iff_eq.mp hb : len = _)
        replace hx : (match st[(na : Int).toNat - 1]? with | some (.inr (.inr (some c))) => isOb h c (mcl j) ∧ (match F (j : Int).toNat (st.take (na : Int).toNat).reverse h with | some r => (st.drop (na : Int).toNat).length ≤ 4 ∧ K (pc + 3) L (r :: st.drop (na : Int).toNat) h | none => False) | _ => False) := hx
        rw [Int.toNat_natCast, Int.toNat_natCast] at hx
        split at hx
        · rename_i c hc
          exact s_virt he rfl hd hK hc hx.1 (leaf_call hF hx.2)
        · exact hx.elim
    · obtain ⟨hb, rfl⟩ := gd_some hr
      cases (beq_iff_eq.mp hb : len = _)
      replace hx : (match st[(na : Int).toNat - 1]? with | some (.inr (.inr (some c))) => (match h.2.2 c with | some (.inr (ci, _)) => (match vsel (j : Int).toNat ci with | some jj => callK E d lm K (pc + 3) jj (st.take (na : Int).toNat).reverse L (st.drop (na : Int).toNat) h | none => False) | _ => False) | _ => False) := hx
      rw [Int.toNat_natCast, Int.toNat_natCast] at hx
      split at hx
      · rename_i c hc
        split at hx
        · rename_i ci fs hcell
          split at hx
          · rename_i jj hjj
            exact s_byclass he rfl hd hK hc (by unfold isOb; rw [hcell]) hjj hx
          · exact hx.elim
        · exact hx.elim
      · exact hx.elim
    · cases hr
  | invokestatic i =>
    obtain ⟨e0, he, hr⟩ := Option.bind_eq_some_iff.mp hr
    obtain ⟨o', i', kd, j, na, lf⟩ := e0
    dsimp only at hr
    split at hr
    · split at hr
      · obtain ⟨hb, rfl⟩ := gd_some hr
        cases (beq_iff_eq.mp hb : len = _)
        replace hx : (na : Int).toNat ≤ st.length ∧ callK E d lm K (pc + 3) (j : Int).toNat (st.take (na : Int).toNat).reverse L (st.drop (na : Int).toNat) h := hx
        rw [Int.toNat_natCast, Int.toNat_natCast] at hx
        exact s_static he rfl hd hK hx.1 hx.2
      · obtain ⟨hb, rfl⟩ := gd_some hr
        cases (beq_iff_eq.mp hb : len = _)
        replace hx : (na : Int).toNat ≤ st.length ∧ (match F (j : Int).toNat (st.take (na : Int).toNat).reverse h with | some r => (st.drop (na : Int).toNat).length ≤ 4 ∧ K (pc + 3) L (r :: st.drop (na : Int).toNat) h | none => False) := hx
        rw [Int.toNat_natCast, Int.toNat_natCast] at hx
        exact s_static he rfl hd hK hx.1 (leaf_call hF hx.2)
    · split at hr
      · obtain ⟨hb, rfl⟩ := gd_some hr
        cases (beq_iff_eq.mp hb : len = _)
        replace hx : (na : Int).toNat ≤ st.length ∧ callK E d lm K (pc + 3) (j : Int).toNat (st.take (na : Int).toNat).reverse L (st.drop (na : Int).toNat) h := hx
        rw [Int.toNat_natCast, Int.toNat_natCast] at hx
        exact s_staticN he rfl hd hK hx.1 hx.2
      · obtain ⟨hb, rfl⟩ := gd_some hr
        cases (beq_iff_eq.mp hb : len = _)
        replace hx : (na : Int).toNat ≤ st.length ∧ (match F (j : Int).toNat (st.take (na : Int).toNat).reverse h with | some r => (st.drop (na : Int).toNat).length ≤ 4 ∧ K (pc + 3) L (r :: st.drop (na : Int).toNat) h | none => False) := hx
        rw [Int.toNat_natCast, Int.toNat_natCast] at hx
        exact s_staticN he rfl hd hK hx.1 (leaf_call hF hx.2)
    · cases hr
  | invokespecial i =>
    obtain ⟨e0, he, hr⟩ := Option.bind_eq_some_iff.mp hr
    obtain ⟨o', i', kd, j, na, lf⟩ := e0
    dsimp only at hr
    split at hr
    · obtain ⟨hb, rfl⟩ := gd_some hr
      cases (beq_iff_eq.mp hb : len = _)
      replace hx : (match st[(na : Int).toNat - 1]? with | some (.inr (.inr (some c))) => callK E d lm K (pc + 3) (j : Int).toNat (st.take (na : Int).toNat).reverse L (st.drop (na : Int).toNat) h | _ => False) := hx
      rw [Int.toNat_natCast, Int.toNat_natCast] at hx
      split at hx
      · rename_i c hc
        exact s_init he rfl hd hK hc hx
      · exact hx.elim
    · obtain ⟨hb, rfl⟩ := gd_some hr
      cases (beq_iff_eq.mp hb : len = _)
      replace hx : (match st[(na : Int).toNat - 1]? with | some (.inr (.inr (some c))) => callK E d lm K (pc + 3) (j : Int).toNat (st.take (na : Int).toNat).reverse L (st.drop (na : Int).toNat) h | _ => False) := hx
      rw [Int.toNat_natCast, Int.toNat_natCast] at hx
      split at hx
      · rename_i c hc
        exact s_initN he rfl hd hK hc hx
      · exact hx.elim
    · obtain ⟨hb, rfl⟩ := gd_some hr
      cases (beq_iff_eq.mp hb : len = _)
      exact s_objI he rfl hd hK hx
    · obtain ⟨hb, rfl⟩ := gd_some hr
      cases (beq_iff_eq.mp hb : len = _)
      replace hx : (match st[(na : Int).toNat - 1]? with | some (.inr (.inr (some c))) => isOb h c 1 ∧ callK E d lm K (pc + 3) (j : Int).toNat (st.take (na : Int).toNat).reverse L (st.drop (na : Int).toNat) h | _ => False) := hx
      rw [Int.toNat_natCast, Int.toNat_natCast] at hx
      split at hx
      · rename_i c hc
        exact s_super he rfl hd hK hc hx.1 hx.2
      · exact hx.elim
    · cases hr
  | ireturn =>
    obtain ⟨hb, rfl⟩ := gd_some hr
    simp only [Bool.and_eq_true, Bool.or_eq_true, beq_iff_eq] at hb
    obtain ⟨rfl, hb | hb⟩ := hb
    · rw [hb] at hx
      rcases st with _ | ⟨(z | z), _ | ⟨y, st⟩⟩ <;> try exact hx.elim
      exact s_ret hb ⟨hd, _, rfl⟩ rfl hx
    · rw [hb] at hx
      rcases st with _ | ⟨(z | z), _ | ⟨y, st⟩⟩ <;> try exact hx.elim
      obtain ⟨h01, hx⟩ := hx
      refine s_ret hb ⟨hd, ?_⟩ rfl hx
      rcases h01 with rfl | rfl
      · exact Or.inl rfl
      · exact Or.inr rfl
  | lreturn =>
    obtain ⟨hb, rfl⟩ := gd_some hr
    simp only [Bool.and_eq_true, beq_iff_eq] at hb
    obtain ⟨rfl, hb⟩ := hb
    rcases st with _ | ⟨(z | z | z), _ | ⟨y, st⟩⟩ <;> try exact hx.elim
    exact s_ret hb ⟨hd, _, rfl⟩ rfl hx
  | areturn =>
    obtain ⟨hb, rfl⟩ := gd_some hr
    simp only [Bool.and_eq_true, beq_iff_eq] at hb
    obtain ⟨rfl, hb⟩ := hb
    rcases st with _ | ⟨(z | z | (_ | z)), _ | ⟨y, st⟩⟩ <;> try exact hx.elim
    exact s_ret hb ⟨hd, _, rfl⟩ rfl hx
  | return_ =>
    obtain ⟨hb, rfl⟩ := gd_some hr
    simp only [Bool.and_eq_true, beq_iff_eq] at hb
    obtain ⟨rfl, hb⟩ := hb
    rcases st with _ | ⟨y, st⟩ <;> try exact hx.elim
    exact s_ret hb ⟨hd, rfl⟩ rfl hx
  | _ => cases hr
theorem run_sound {E : ET} {g : GT} {mi : MI} {d : Nat} {lm : Nat × Nat} {RT : RTy} {F : FT} {P : Nat → Option PT} (hF : FOk E d F) (hP : ∀ pc pt, P pc = some pt → okPt mi pc pt) : ∀ (n pc : Nat) (L : LV) (st : List AV) (h : AH), run E g mi d lm RT F P n pc L st h → G E g mi d lm RT pc L st h := by
  intro n
  induction n with
  | zero => intro pc L st h hx; exact hx
  | succ n ih =>
    intro pc L st h hx
    unfold run at hx
    split at hx
    · exact hx
    · rename_i pt hpt
      exact sstep hF (hP _ _ hpt) ih hx
