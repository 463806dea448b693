/-! ===== heaps while they are made ===== -/
def HH (S : SCR) (n sl : Nat) (T : Int → Option AC) : AH := (n, sl, fun c => if c = -1 then some (.inl (9, S.1, fun i => vi (S.2 i))) else T c)
theorem HH_push {S : SCR} {n sl k : Nat} {T : Int → Option AC} {x : AC} : hpush (HH S n sl T) k x = HH S (n + 1) (sl + k) (fun c => if c = (n : Int) then some x else T c) := by
  unfold hpush HH
  refine Prod.ext rfl (Prod.ext rfl (funext fun c => ?_))
  show (if c = (n : Int) then some x else if c = -1 then _ else T c) = (if c = -1 then _ else if c = (n : Int) then some x else T c)
  by_cases q : c = -1
  · rw [if_neg (by omega), if_pos q, if_pos q]
  · rw [if_neg q, if_neg q]
theorem HH_set {S : SCR} {n sl : Nat} {T : Int → Option AC} {c : Int} {x : AC} (hc : 0 ≤ c) : hset (HH S n sl T) c x = HH S n sl (fun c' => if c' = c then some x else T c') := by
  unfold hset HH
  refine Prod.ext rfl (Prod.ext rfl (funext fun c' => ?_))
  show (if c' = c then some x else if c' = -1 then _ else T c') = (if c' = -1 then _ else if c' = c then some x else T c')
  by_cases q : c' = -1
  · rw [if_neg (by omega), if_pos q, if_pos q]
  · rw [if_neg q, if_neg q]
theorem HH_at {S : SCR} {n sl : Nat} {T : Int → Option AC} {c : Int} (hc : 0 ≤ c) : (HH S n sl T).2.2 c = T c := by
  show (if c = -1 then _ else T c) = T c
  rw [if_neg (by omega)]
/-- an object at c whose arrays are made from n0 on -/
def CT (T : Int → Option AC) (n0 k : Nat) (arr : Int → AC) (c : Int) (ci : Nat) (fs : List AV) : Int → Option AC := fun c' => if c' = c then some (.inr (ci, fs)) else if (n0 : Int) ≤ c' ∧ c' < (n0 : Int) + (k : Int) then some (arr (c' - (n0 : Int))) else T c'
def cHH (S : SCR) (n0 sl k : Nat) (arr : Int → AC) (T : Int → Option AC) (c : Int) (ci : Nat) (fs : List AV) : AH := HH S (n0 + k) sl (CT T n0 k arr c ci fs)
section
variable {E : ET} {S : SCR} {d nx : Nat} {lm : Nat × Nat} {RT : RTy} {F : FT} {K : KT} {L : LV} {st : List AV} {tb : List Nat} {T : Int → Option AC} {n0 sl k ci : Nat} {arr : Int → AC} {c a b : Int} {fs : List AV}
theorem cHH_0 (hc : T c = some (.inr (ci, fs))) : HH S n0 sl T = cHH S n0 sl 0 arr T c ci fs := by
  have e : T = CT T n0 0 arr c ci fs := funext fun c' => by
    unfold CT
    by_cases q : c' = c
    · rw [if_pos q, q, hc]
    · rw [if_neg q, if_neg (by omega)]
  exact congrArg (HH S n0 sl) e
theorem z47 {h : AH} {z : Int} (hd : 1 ≤ d) (hs : st.length ≤ 4) : exI E d lm RT F K (47, a, b, nx, tb) L (vr z :: st) h = K nx L st h := propext ⟨fun q => q.2.2, fun q => ⟨hd, hs, q⟩⟩
theorem k53_1 {h : AH} {j : Nat} {z : Int} : exI E d lm RT F K (53, ((j : Nat) : Int), ((1 : Nat) : Int), nx, tb) L (vr z :: st) h = callK E d lm K nx j [vr z] L st h := propext Iff.rfl
theorem z42 {len : Int} {ka : Nat} (hc : c < (n0 : Int)) (ha : arr (k : Int) = .inl (ka, len, fun _ => if (ka : Int) = 2 then vl 0 else vi 0)) (hl : 0 ≤ len ∧ len ≤ 1000000) (h1 : n0 + k + 1 ≤ lm.1) (h2 : sl + len.toNat ≤ lm.2) (hka : a = (ka : Int)) : exI E d lm RT F K (42, a, b, nx, tb) L (vi len :: st) (cHH S n0 sl k arr T c ci fs) = K nx L (vr ((n0 : Int) + (k : Int)) :: st) (cHH S n0 (sl + len.toNat) (k + 1) arr T c ci fs) := by
  subst hka
  have e : hpush (cHH S n0 sl k arr T c ci fs) len.toNat (.inl (((ka : Nat) : Int).toNat, len, fun _ => if ((ka : Nat) : Int) = 2 then vl 0 else vi 0)) = cHH S n0 (sl + len.toNat) (k + 1) arr T c ci fs := by
    unfold cHH
    rw [HH_push, Int.toNat_natCast]
    show HH S (n0 + (k + 1)) _ _ = _
    congr 1
    funext c'
    unfold CT
    by_cases q : c' = c
    · rw [if_neg (by omega), if_pos q, if_pos q]
    · rw [if_neg q, if_neg q]
      by_cases y : c' = ((n0 + k : Nat) : Int)
      · have p : (n0 : Int) ≤ c' ∧ c' < (n0 : Int) + ((k + 1 : Nat) : Int) := by omega
        rw [if_pos y, if_pos p, show c' - (n0 : Int) = (k : Int) by omega, ha]
      · rw [if_neg y]
        by_cases x : (n0 : Int) ≤ c' ∧ c' < (n0 : Int) + (k : Int)
        · rw [if_pos x, if_pos (by omega)]
        · rw [if_neg x, if_neg (by omega)]
  have e1 : (vr (((cHH S n0 sl k arr T c ci fs).1 : Nat) : Int) : AV) = vr ((n0 : Int) + (k : Int)) := by
    show vr ((n0 + k : Nat) : Int) = _
    rw [show ((n0 + k : Nat) : Int) = (n0 : Int) + (k : Int) by omega]
  show ((0 ≤ len ∧ len ≤ 1000000) ∧ (cHH S n0 sl k arr T c ci fs).1 + 1 ≤ lm.1 ∧ (cHH S n0 sl k arr T c ci fs).2.1 + len.toNat ≤ lm.2 ∧ K nx L (vr (((cHH S n0 sl k arr T c ci fs).1 : Nat) : Int) :: st) (hpush (cHH S n0 sl k arr T c ci fs) len.toNat (.inl (((ka : Nat) : Int).toNat, len, fun _ => if ((ka : Nat) : Int) = 2 then vl 0 else vi 0)))) = _
  rw [e, e1]
  exact propext ⟨fun q => q.2.2.2, fun q => ⟨hl, h1, h2, q⟩⟩
theorem z42i {len : Int} (hc : c < (n0 : Int)) (ha : arr (k : Int) = .inl (0, len, fun _ => vi 0)) (hl : 0 ≤ len ∧ len ≤ 1000000) (h1 : n0 + k + 1 ≤ lm.1) (h2 : sl + len.toNat ≤ lm.2) : exI E d lm RT F K (42, 0, b, nx, tb) L (vi len :: st) (cHH S n0 sl k arr T c ci fs) = K nx L (vr ((n0 : Int) + (k : Int)) :: st) (cHH S n0 (sl + len.toNat) (k + 1) arr T c ci fs) := z42 (ka := 0) hc (by rw [ha]; rfl) hl h1 h2 rfl
theorem z42b {len : Int} (hc : c < (n0 : Int)) (ha : arr (k : Int) = .inl (1, len, fun _ => vi 0)) (hl : 0 ≤ len ∧ len ≤ 1000000) (h1 : n0 + k + 1 ≤ lm.1) (h2 : sl + len.toNat ≤ lm.2) : exI E d lm RT F K (42, 1, b, nx, tb) L (vi len :: st) (cHH S n0 sl k arr T c ci fs) = K nx L (vr ((n0 : Int) + (k : Int)) :: st) (cHH S n0 (sl + len.toNat) (k + 1) arr T c ci fs) := z42 (ka := 1) hc (by rw [ha]; rfl) hl h1 h2 rfl
theorem z42l {len : Int} (hc : c < (n0 : Int)) (ha : arr (k : Int) = .inl (2, len, fun _ => vl 0)) (hl : 0 ≤ len ∧ len ≤ 1000000) (h1 : n0 + k + 1 ≤ lm.1) (h2 : sl + len.toNat ≤ lm.2) : exI E d lm RT F K (42, 2, b, nx, tb) L (vi len :: st) (cHH S n0 sl k arr T c ci fs) = K nx L (vr ((n0 : Int) + (k : Int)) :: st) (cHH S n0 (sl + len.toNat) (k + 1) arr T c ci fs) := z42 (ka := 2) hc (by rw [ha]; rfl) hl h1 h2 rfl
theorem zput {o : Nat} {j fk : Nat} {v : AV} (ho : o = 36 ∨ o = 37) (h0 : 0 ≤ c) (hk : j < fs.length) (hf : fitk fk v) : exI E d lm RT F K (o, ((ci : Nat) : Int), ((j : Nat) : Int), nx, [fk]) L (v :: vr c :: st) (cHH S n0 sl k arr T c ci fs) = K nx L st (cHH S n0 sl k arr T c ci (fs.set j v)) := by
  have hc : (cHH S n0 sl k arr T c ci fs).2.2 c = some (.inr (ci, fs)) := by
    unfold cHH; rw [HH_at h0]; unfold CT; rw [if_pos rfl]
  have e : hset (cHH S n0 sl k arr T c ci fs) c (.inr (ci, fs.set j v)) = cHH S n0 sl k arr T c ci (fs.set j v) := by
    unfold cHH
    rw [HH_set h0]
    congr 1
    funext c'
    unfold CT
    by_cases q : c' = c
    · rw [if_pos q, if_pos q]
    · rw [if_neg q, if_neg q, if_neg q]
  have key : (fitk fk v ∧ 0 ≤ c ∧ (match (cHH S n0 sl k arr T c ci fs).2.2 c with | some (.inr (ci', fs')) => ci' = ((ci : Nat) : Int).toNat ∧ ((j : Nat) : Int).toNat < fs'.length ∧ K nx L st (hset (cHH S n0 sl k arr T c ci fs) c (.inr (ci', fs'.set ((j : Nat) : Int).toNat v))) | _ => False)) = K nx L st (cHH S n0 sl k arr T c ci (fs.set j v)) := by
    rw [hc]
    dsimp only
    rw [Int.toNat_natCast, Int.toNat_natCast, e]
    exact propext ⟨fun q => q.2.2.2.2, fun q => ⟨hf, h0, rfl, hk, q⟩⟩
  rcases ho with rfl | rfl
  · exact key
  · exact key
theorem z36i {j : Nat} {x : Int} (h0 : 0 ≤ c) (hk : j < fs.length) : exI E d lm RT F K (36, ((ci : Nat) : Int), ((j : Nat) : Int), nx, [0]) L (vi x :: vr c :: st) (cHH S n0 sl k arr T c ci fs) = K nx L st (cHH S n0 sl k arr T c ci (fs.set j (vi x))) := zput (Or.inl rfl) h0 hk trivial
theorem z36b {j : Nat} {x : Int} (h0 : 0 ≤ c) (hk : j < fs.length) (hx : x = 0 ∨ x = 1) : exI E d lm RT F K (36, ((ci : Nat) : Int), ((j : Nat) : Int), nx, [1]) L (vi x :: vr c :: st) (cHH S n0 sl k arr T c ci fs) = K nx L st (cHH S n0 sl k arr T c ci (fs.set j (vi x))) := zput (Or.inl rfl) h0 hk hx
theorem z37i {j : Nat} {x : Int} (h0 : 0 ≤ c) (hk : j < fs.length) : exI E d lm RT F K (37, ((ci : Nat) : Int), ((j : Nat) : Int), nx, [0]) L (vi x :: vr c :: st) (cHH S n0 sl k arr T c ci fs) = K nx L st (cHH S n0 sl k arr T c ci (fs.set j (vi x))) := zput (Or.inr rfl) h0 hk trivial
theorem z37r {j : Nat} {x : Int} (h0 : 0 ≤ c) (hk : j < fs.length) : exI E d lm RT F K (37, ((ci : Nat) : Int), ((j : Nat) : Int), nx, [3]) L (vr x :: vr c :: st) (cHH S n0 sl k arr T c ci fs) = K nx L st (cHH S n0 sl k arr T c ci (fs.set j (vr x))) := zput (Or.inr rfl) h0 hk trivial
theorem ck_n {h h' : AH} {d0 j : Nat} {as : List AV} (hc : Ctr E d0 j as h none h') (hd : d0 + 1 ≤ d) (h1 : h.1 ≤ h'.1 ∧ h'.1 ≤ lm.1 ∧ h.2.1 ≤ h'.2.1 ∧ h'.2.1 ≤ lm.2) (hs : st.length ≤ 4) (hk : K nx L st h') : callK E d lm K nx j as L st h := ⟨d0, none, h', hd, hc, ⟨h1.1, Or.inr h1.2.1, h1.2.2.1, Or.inr h1.2.2.2⟩, cwt_le hs, hk⟩
end
section
variable {E : ET} {S : SCR} {T : Int → Option AC} {n sl : Nat} {c : Int}
def arr8 : Int → AC := fun _ => .inl (0, 8, fun _ => vi 0)
end
