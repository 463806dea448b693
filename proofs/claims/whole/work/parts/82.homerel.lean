/-! ===== coming back side by side ===== -/
section
variable {A B A' B' : Mem} {T w : Int} {E : ET} {S : SCR}
theorem RX_rows (h : RX T A B w) (hw : 0 ≤ w ∧ w < 12) (hA : ∀ c z, c < 248 → ¬ c = 9 → ¬ c = 10 → ¬ c = 11 → ¬ (17 ≤ c ∧ c < 209) → A' c z = A c z) (hB : ∀ c z, 248 ≤ c → ¬ c = 254 → ¬ c = 255 → ¬ c = 256 → ¬ c = 257 → ¬ c = 271 → ¬ c = 272 → ¬ (c = 270 ∧ z = w) → B' c z = B c z) (hR : RR A' B') (hO : RO A' B') : RX T A' B' w := by
  obtain ⟨hN, _, _, hS, hW⟩ := h
  have fA : ∀ c, c < 248 → ¬ c = 9 → ¬ c = 10 → ¬ c = 11 → ¬ (17 ≤ c ∧ c < 209) → A' c = A c := fun c a1 a2 a3 a4 a5 => funext fun z => hA c z a1 a2 a3 a4 a5
  have e2 := fA 2 (by omega) (by omega) (by omega) (by omega) (by omega)
  have e3 := fA 3 (by omega) (by omega) (by omega) (by omega) (by omega)
  have e4 := fA 4 (by omega) (by omega) (by omega) (by omega) (by omega)
  have e5 := fA 5 (by omega) (by omega) (by omega) (by omega) (by omega)
  have e0 := fA 0 (by omega) (by omega) (by omega) (by omega) (by omega)
  have e14 := fA 14 (by omega) (by omega) (by omega) (by omega) (by omega)
  have el : ∀ i k, lk8 A' i k = lk8 A i k := fun i k => lk8_congr (fun z => by rw [e2]) (fun z => by rw [e3]) (fun z => by rw [e4])
  refine ⟨RN_congr hN e2 e3 e4 e5 (hA 1 5 (by omega) (by omega) (by omega) (by omega) (by omega)) (fun c a b => funext fun z => hB c z (by omega) (by omega) (by omega) (by omega) (by omega) (by omega) (by omega) (by omega)), hR, hO, ?_, fun u a b q => ?_⟩
  · unfold RS
    rw [e0, e14, show B' 248 = B 248 from funext fun z => hB _ _ (by omega) (by omega) (by omega) (by omega) (by omega) (by omega) (by omega) (by omega)]
    exact hS
  · exact WR_congr (hW u a b q) (fA _ (by omega) (by omega) (by omega) (by omega) (by omega)) (fA _ (by omega) (by omega) (by omega) (by omega) (by omega)) (fA _ (by omega) (by omega) (by omega) (by omega) (by omega)) (by rw [e0]) el (fun c _ _ => hB _ _ (by omega) (by omega) (by omega) (by omega) (by omega) (by omega) (by omega) (by omega)) (fun j _ _ => ⟨hB _ _ (by omega) (by omega) (by omega) (by omega) (by omega) (by omega) (by omega) (by omega), hB _ _ (by omega) (by omega) (by omega) (by omega) (by omega) (by omega) (by omega) (by omega)⟩) (hB _ _ (by omega) (by omega) (by omega) (by omega) (by omega) (by omega) (by omega) (by omega))
/-- what the two coming back ask -/
theorem home_pre (h : Rel T A B) (hT : T ≤ 1000000) (hw : 0 ≤ w ∧ w < 12) (h3 : A (209 + 3 * w) 3 = 1) (h4 : A (209 + 3 * w) 4 = 1) :
    (0 ≤ A (209 + 3 * w) 12 ∧ A (209 + 3 * w) 12 + 1 < A (209 + 3 * w) 2 ∧ B 270 w = A (209 + 3 * w) 12 + 1) ∧ (cbR A w = dbR B w ∧ cbT A w = dbT B w ∧ 0 < cbT A w ∧ cbT A w ≤ 2000000) ∧ (bs (A 5 (A (209 + 3 * w) 9)) (A (210 + 3 * w) (A (209 + 3 * w) 12 + 1)) = true) ∧ (A (210 + 3 * w) (A (209 + 3 * w) 12 + 1) = B 268 (8 * w + B 270 w)) ∧ cbW A w = dbW B w ∧ (0 ≤ cbB A w ∧ cbB A w ≤ cbT A w) := by
  obtain ⟨hc, hd, g1, g2, g3⟩ := h.2.2.2.2 w hw.1 hw.2
  obtain ⟨⟨b1, bb, b3, b4, b5⟩, ⟨e1, e2, e3, e4, e5⟩⟩ := g3 h3
  obtain ⟨p1, p2, p3, p4, p5, p6⟩ := e5 h4
  have n8 := hc.2.2.2.1
  have hv := hc.2.2.2.2.1
  have a7 := hc.2.2.2.2.2.2
  have tm := h.2.2.2.1.2.2.1
  have m0 := b4 (A (209 + 3 * w) 12) (by omega) (by omega)
  have m1 := b4 (A (209 + 3 * w) 12 + 1) (by omega) (by omega)
  have ml := b4 (A (209 + 3 * w) 2 - 1) (by omega) (by omega)
  have rs := (b5 (A (209 + 3 * w) 12) (A (209 + 3 * w) 2 - 1) (by omega) (by omega) (by omega)).2
  have eR : cbR A w = dbR B w := by unfold cbR dbR; rw [← e1.1, ← b1.2.2.1]; omega
  have eT : cbT A w = dbT B w := by
    unfold cbT dbT
    rw [p3, ← b1.2.2.2.2.2.2, show A (209 + 3 * w) 12 + 1 - 1 = A (209 + 3 * w) 12 by omega, show 8 * w + A (209 + 3 * w) 2 - 1 = 8 * w + (A (209 + 3 * w) 2 - 1) by omega, ← ml.2.1, ← m0.2.1]
  have hT2 : 0 < cbT A w ∧ cbT A w ≤ 2000000 := by unfold cbT; omega
  have hr : 0 ≤ cbR A w ∧ cbR A w < 64 := by unfold cbR; omega
  have o := h.2.2.1 (cbR A w) hr.1 hr.2
  have bk := cbB_ok (M := A) (w := w) ⟨⟨o.1.1.1, o.1.1.2.1⟩, ⟨o.1.1.2.2.1, o.1.1.2.2.2⟩⟩ o.1.2.1 (fun j a b => (o.2.2 j a b).1) hT2
  have v1 := hv (A (209 + 3 * w) 12 + 1) (by omega) (by omega)
  have nbh : bs (A 5 (A (209 + 3 * w) 9)) (A (210 + 3 * w) (A (209 + 3 * w) 12 + 1)) = true := by
    rw [h.1.2.2.2.2.2.1 _ _ (by omega) (by omega) (by omega) (by omega)]
    refine decide_eq_true (fun q => p6 ?_)
    rw [← p5, ← p4, lk8_comm]; exact q
  have eB : cbB A w = dbB B w := by
    unfold cbB dbB
    have oc : 0 ≤ A (17 + 3 * cbR A w) 3 ∧ A (17 + 3 * cbR A w) 3 ≤ 8 := ⟨o.1.1.1, o.1.1.2.1⟩
    have rn := ringed_note (x := cbT A w) o.1
    have ev : ∀ j, ntC A (cbR A w) (cbT A w) (19 + 3 * cbR A w) j = upv (A (19 + 3 * cbR A w)) (A (17 + 3 * cbR A w) 4) (cbT A w) j := fun j => by
      unfold ntC upv
      rw [up2_other (by omega), up2_other (by omega)]
      by_cases c : j = A (17 + 3 * cbR A w) 4
      · rw [if_pos c, c, up2_same]
      · rw [if_neg c, up2_other (by omega)]
    rw [bnF_congr (v' := upv (A (19 + 3 * cbR A w)) (A (17 + 3 * cbR A w) 4) (cbT A w)) _ (fun j _ _ => ev j)]
    rw [ringed_best rn (n := (min (A (17 + 3 * cbR A w) 3 + 1) 8).toNat) (by omega) (fun j a b => by rw [← ev j]; exact (bk.2 j a (by omega)).1)]
    rw [← eR, o.2.1]
    refine bnF_congr _ (fun j a b => ?_)
    unfold getv db1 ntD
    rw [← eR, up2_other (by omega), putv_at a (by omega), up2_other (by omega), o.2.1, eT, show getv (up2 B 270 w (B 270 w - 1)) 272 (8 * cbR A w) = getv B 272 (8 * cbR A w) from funext fun k => by unfold getv; exact up2_other (by omega)]
    rfl
  refine ⟨⟨p1, p2, p3⟩, ⟨eR, eT, hT2⟩, nbh, by rw [p3]; exact m1.1, ?_, bk.1⟩
  unfold cbW dbW
  rw [eB, eT, b1.1, h.2.2.2.1.2.1.1]
theorem home_rel (h : Rel T A B) (hT : T ≤ 1000000) (hw : 0 ≤ w ∧ w < 12) (h3 : A (209 + 3 * w) 3 = 1) (h4 : A (209 + 3 * w) 4 = 1) (p' w' p2 w2 : Vec) : Rel T (cbM A w p' w') (dbM B w p2 w2) ∧ cbM A w p' w' 0 11 = A 0 11 + b2 (B 270 w - 1 = 0) := by
  obtain ⟨⟨q1, q2, q3⟩, ⟨eR, eT, hT2⟩, nbh, ek, eW, bk⟩ := home_pre h hT hw h3 h4
  obtain ⟨hc, hd, g1, g2, g3⟩ := h.2.2.2.2 w hw.1 hw.2
  obtain ⟨⟨b1, bb, b3, b4, b5⟩, ⟨e1, e2, e3, e4, e5⟩⟩ := g3 h3
  have n8 := hc.2.2.2.1
  have hv := hc.2.2.2.2.1
  have a7 := hc.2.2.2.2.2.2
  have s := h.2.2.2.1
  have hr : 0 ≤ cbR A w ∧ cbR A w < 64 := by unfold cbR; omega
  have er8 : cbR A w / 8 = A (209 + 3 * w) 9 := by unfold cbR; omega
  have o := h.2.2.1 (cbR A w) hr.1 hr.2
  have rr := h.2.1 (cbR A w) hr.1 hr.2
  obtain ⟨m1, m2, m3⟩ := RR_model h hr
  rw [er8] at rr m1 m2 m3
  have v1 := hv (A (209 + 3 * w) 12 + 1) (by omega) (by omega)
  have rng := rwF_rng (kd := A (209 + 3 * w) 5) s.2.1.2 bk hT2
  rw [show rwF (A (209 + 3 * w) 5) (A 0 9) (cbB A w) (cbT A w) = cbW A w from rfl] at rng
  obtain ⟨k0, ek0⟩ : ∃ k0, k0 = A (210 + 3 * w) (A (209 + 3 * w) 12 + 1) := ⟨_, rfl⟩
  rw [← ek0] at nbh ek v1
  have qe := rsF_eqv (fl := A 0 8) (k0 := k0) (r := cbW A w) (by omega) nbh m3 m2
  have roA := rsF_ok (fl := A 0 8) (m := bs (A 5 (A (209 + 3 * w) 9))) (k0 := k0) (r := cbW A w) (v := A (18 + 3 * cbR A w)) s.1.2 (by omega) nbh rng rr.2.1
  have roB := rsF_ok (fl := A 0 8) (m := nbm B (A (209 + 3 * w) 9)) (k0 := k0) (r := cbW A w) (v := getv B 254 (8 * cbR A w)) s.1.2 (by omega) (by rw [← m3 k0 (by omega) (by omega)]; exact nbh) rng m1
  -- the memories after the raise
  have eA2 : cb2 A w p' w' = putv (putv (putv (ntC A (cbR A w) (cbT A w)) 9 0 p') 11 0 w') (18 + 3 * cbR A w) 0 (rsF (A 0 8) (bs (A 5 (A (209 + 3 * w) 9))) k0 (cbW A w) (A (18 + 3 * cbR A w))) := by
    unfold cb2; rw [rr.1, ← ek0]
  have eB2 : db2 B w p2 w2 = putv (putv (putv (db1 B w) 255 0 p2) 256 0 w2) 254 (8 * cbR A w) (rsF (A 0 8) (nbm B (A (209 + 3 * w) 9)) k0 (cbW A w) (getv B 254 (8 * cbR A w))) := by
    unfold db2; rw [← eR, ← e1.1, ← ek, ← eW, s.1.1]
  obtain ⟨A2, hA2⟩ : ∃ A2, A2 = cb2 A w p' w' := ⟨_, rfl⟩
  obtain ⟨B2, hB2⟩ : ∃ B2, B2 = db2 B w p2 w2 := ⟨_, rfl⟩
  have oA : ∀ c z, ¬ c = 9 → ¬ c = 11 → ¬ c = 18 + 3 * cbR A w → ¬ c = 19 + 3 * cbR A w → ¬ (c = 17 + 3 * cbR A w ∧ (z = 3 ∨ z = 4)) → A2 c z = A c z := fun c z y1 y2 y3 y4 y5 => by rw [hA2]; exact cb2_ot ⟨y1, y2, y3, y4, y5⟩
  have oB : ∀ c z, ¬ (c = 270 ∧ z = w) → ¬ (c = 271 ∧ z = cbR A w) → ¬ (c = 272 ∧ 8 * cbR A w ≤ z ∧ z < 8 * cbR A w + 8) → ¬ c = 255 → ¬ c = 256 → ¬ (c = 254 ∧ 8 * cbR A w ≤ z ∧ z < 8 * cbR A w + 8) → B2 c z = B c z := fun c z y1 y2 y3 y4 y5 y6 => by rw [hB2]; rw [eR] at y2 y3 y6; exact db2_ot ⟨y1, y2, y3, y4, y5, y6⟩
  have a18 : ∀ k, 0 ≤ k → k < 8 → A2 (18 + 3 * cbR A w) k = rsF (A 0 8) (bs (A 5 (A (209 + 3 * w) 9))) k0 (cbW A w) (A (18 + 3 * cbR A w)) k := fun k a b => by rw [hA2, eA2, putv_at0 a b]
  have b54 : ∀ k, 0 ≤ k → k < 8 → B2 254 (8 * cbR A w + k) = rsF (A 0 8) (nbm B (A (209 + 3 * w) 9)) k0 (cbW A w) (getv B 254 (8 * cbR A w)) k := fun k a b => by rw [hB2, eB2, putv_at a b]
  have aN : ∀ c z, ¬ c = 9 → ¬ c = 11 → ¬ c = 18 + 3 * cbR A w → A2 c z = ntC A (cbR A w) (cbT A w) c z := fun c z y1 y2 y3 => by rw [hA2, eA2, putv_ne y3, putv_ne y2, putv_ne y1]
  have a173 : A2 (17 + 3 * cbR A w) 3 = min (A (17 + 3 * cbR A w) 3 + 1) 8 := by rw [aN _ _ (by omega) (by omega) (by omega)]; unfold ntC; rw [up2_same]
  have a174 : A2 (17 + 3 * cbR A w) 4 = (A (17 + 3 * cbR A w) 4 + 1) % 8 := by rw [aN _ _ (by omega) (by omega) (by omega)]; unfold ntC; rw [up2_other (by omega), up2_same]
  have a19 : A2 (19 + 3 * cbR A w) = upv (A (19 + 3 * cbR A w)) (A (17 + 3 * cbR A w) 4) (cbT A w) := funext fun j => by
    rw [aN _ _ (by omega) (by omega) (by omega)]
    unfold ntC upv
    rw [up2_other (by omega), up2_other (by omega)]
    by_cases c : j = A (17 + 3 * cbR A w) 4
    · rw [if_pos c, c, up2_same]
    · rw [if_neg c, up2_other (by omega)]
  have bD : ∀ c z, ¬ c = 255 → ¬ c = 256 → ¬ c = 254 → B2 c z = db1 B w c z := fun c z y1 y2 y3 => by rw [hB2, eB2, putv_ne y3, putv_ne y2, putv_ne y1]
  have b271 : B2 271 (cbR A w) = min (A (17 + 3 * cbR A w) 3 + 1) 8 := by
    rw [bD _ _ (by omega) (by omega) (by omega), eR]; unfold db1 ntD; rw [up2_same, up2_other (by omega), ← eR, o.2.1]
  have b272 : ∀ j, 0 ≤ j → j < 8 → B2 272 (8 * cbR A w + j) = ntF (getv B 272 (8 * cbR A w)) (A (17 + 3 * cbR A w) 3) (cbT A w) j := fun j a b => by
    rw [bD _ _ (by omega) (by omega) (by omega), eR, eT]; unfold db1 ntD
    rw [up2_other (by omega), putv_at a b, up2_other (by omega), ← eR, o.2.1, show getv (up2 B 270 w (B 270 w - 1)) 272 (8 * cbR A w) = getv B 272 (8 * cbR A w) from funext fun k => by unfold getv; exact up2_other (by omega)]
  have b270 : B2 270 w = B 270 w - 1 := by
    rw [bD _ _ (by omega) (by omega) (by omega)]; unfold db1 ntD; rw [up2_other (by omega), putv_ne (by omega), up2_same]
  have f5 : A2 5 = A 5 := funext fun z => oA _ _ (by omega) (by omega) (by omega) (by omega) (by omega)
  have hRR : RR A2 B2 := by
    intro r a b
    rw [f5, oA _ 2 (by omega) (by omega) (by omega) (by omega) (by omega)]
    by_cases q : r = cbR A w
    · rw [q, er8]
      refine ⟨rr.1, RV_congr (fun _ _ _ => rfl) (fun k a b _ => (a18 k a b).symm) roA.1, fun k k1 k2 => ?_⟩
      rw [a18 k k1 k2, b54 k k1 k2]
      refine ⟨?_, ?_, fun d => qe k k1 k2 d⟩
      · by_cases d : bs (A 5 (A (209 + 3 * w) 9)) k = true
        · exact roA.1.1 k k1 k2 d
        · rw [roA.2 k k1 k2 (by simpa using d)]; exact (rr.2.2 k k1 k2).1
      · by_cases d : nbm B (A (209 + 3 * w) 9) k = true
        · exact roB.1.1 k k1 k2 d
        · rw [roB.2 k k1 k2 (by simpa using d)]; exact (rr.2.2 k k1 k2).2.1
    · have h1 := h.2.1 r a b
      rw [show A2 (18 + 3 * r) = A (18 + 3 * r) from funext fun z => oA _ _ (by omega) (by omega) (by omega) (by omega) (by omega)]
      refine ⟨h1.1, h1.2.1, fun k k1 k2 => ?_⟩
      rw [oB 254 _ (by omega) (by omega) (by omega) (by omega) (by omega) (by omega)]
      exact h1.2.2 k k1 k2
  have hRO : RO A2 B2 := by
    intro r a b
    by_cases q : r = cbR A w
    · rw [q, a173, a174, a19, b271]
      have rn := ringed_note (x := cbT A w) o.1
      refine ⟨⟨rn.1, rn.2.1, fun j j1 j2 => ?_⟩, rfl, fun j j1 j2 => ⟨?_, ?_⟩⟩
      · have : getv B2 272 (8 * cbR A w) j = ntF (getv B 272 (8 * cbR A w)) (A (17 + 3 * cbR A w) 3) (cbT A w) j := b272 j j1 (by omega)
        rw [this]; exact rn.2.2 j j1 j2
      · unfold upv
        split
        · omega
        · exact (o.2.2 j j1 j2).1
      · rw [b272 j j1 j2]
        unfold ntF
        split
        · split
          · exact (o.2.2 (j + 1) (by omega) (by omega)).2
          · omega
        · split
          · omega
          · exact (o.2.2 j j1 j2).2
    · have h1 := h.2.2.1 r a b
      rw [oA _ 3 (by omega) (by omega) (by omega) (by omega) (by omega), oA _ 4 (by omega) (by omega) (by omega) (by omega) (by omega), show A2 (19 + 3 * r) = A (19 + 3 * r) from funext fun z => oA _ _ (by omega) (by omega) (by omega) (by omega) (by omega), oB 271 r (by omega) (by omega) (by omega) (by omega) (by omega) (by omega)]
      refine ⟨⟨h1.1.1, h1.1.2.1, fun j j1 j2 => ?_⟩, h1.2.1, fun j j1 j2 => ?_⟩
      · have : getv B2 272 (8 * r) j = getv B 272 (8 * r) j := by
          unfold getv; exact oB 272 _ (by omega) (by omega) (by have := h1.1.1; omega) (by omega) (by omega) (by omega)
        rw [this]; exact h1.1.2.2 j j1 j2
      · rw [oB 272 _ (by omega) (by omega) (by omega) (by omega) (by omega) (by omega)]; exact h1.2.2 j j1 j2
  have hRX : RX T A2 B2 w := RX_rows (Rel_w (w := w) h) hw (fun c z _ y1 _ y2 y3 => oA c z y1 y2 (by omega) (by omega) (by omega)) (fun c z _ y1 y2 y3 _ y4 y5 y6 => oB c z y6 (by omega) (by omega) y2 y3 (by omega)) hRR hRO
  have f9 : A2 (209 + 3 * w) = A (209 + 3 * w) := funext fun z => oA _ _ (by omega) (by omega) (by omega) (by omega) (by omega)
  have f10 : A2 (210 + 3 * w) = A (210 + 3 * w) := funext fun z => oA _ _ (by omega) (by omega) (by omega) (by omega) (by omega)
  have f11 : A2 (211 + 3 * w) = A (211 + 3 * w) := funext fun z => oA _ _ (by omega) (by omega) (by omega) (by omega) (by omega)
  have f0 : A2 0 = A 0 := funext fun z => oA _ _ (by omega) (by omega) (by omega) (by omega) (by omega)
  have wo : ∀ c z, 258 ≤ c → c ≤ 269 → B2 c z = B c z := fun c z y1 y2 => oB c z (by omega) (by omega) (by omega) (by omega) (by omega) (by omega)
  have f248 : B2 248 = B 248 := funext fun z => oB _ _ (by omega) (by omega) (by omega) (by omega) (by omega) (by omega)
  have hWC : WC A2 w := by unfold WC; rw [f9, f10]; exact hc
  have hWD : WD B2 w := by
    unfold WD
    rw [wo 258 w (by omega) (by omega), wo 262 w (by omega) (by omega), wo 263 w (by omega) (by omega), wo 267 w (by omega) (by omega), wo 259 w (by omega) (by omega), wo 261 w (by omega) (by omega)]
    exact ⟨hd.1, hd.2.1, hd.2.2.1, hd.2.2.2.1, fun j a b => by rw [wo 268 _ (by omega) (by omega)]; exact hd.2.2.2.2.1 j a b, hd.2.2.2.2.2.1, hd.2.2.2.2.2.2⟩
  unfold cbM dbM
  rw [← hA2, ← hB2, q3, show A (209 + 3 * w) 12 + 1 - 1 = A (209 + 3 * w) 12 by omega, ← eT]
  by_cases c : A (209 + 3 * w) 12 = 0
  · rw [if_pos c, if_pos c]
    obtain ⟨t, et⟩ : ∃ t, t = cbT A w := ⟨_, rfl⟩
    rw [← et]
    have pA : ∀ c z, ¬ (c = 209 + 3 * w ∧ (z = 3 ∨ z = 8)) → ¬ (c = 0 ∧ (z = 11 ∨ z = 13)) → fiM A2 w t c z = A2 c z := fun c z y1 y2 => by
      unfold fiM; rw [up2_other (by omega), up2_other (by omega), up2_other (by omega), up2_other (by omega)]
    have pB : ∀ c z, ¬ (c = 258 ∧ z = w) → ¬ (c = 248 ∧ (z = 14 ∨ z = 16)) → fiN B2 w t c z = B2 c z := fun c z y1 y2 => by
      unfold fiN; rw [up2_other (by omega), up2_other (by omega), up2_other (by omega)]
    have z3 : fiM A2 w t (209 + 3 * w) 3 = 0 := by unfold fiM; rw [up2_other (by omega), up2_other (by omega), up2_other (by omega), up2_same]
    have z8 : fiM A2 w t (209 + 3 * w) 8 = -9 := by unfold fiM; rw [up2_other (by omega), up2_other (by omega), up2_same]
    have z11 : fiM A2 w t 0 11 = A2 0 11 + 1 := by unfold fiM; rw [up2_other (by omega), up2_same]
    have z13 : fiM A2 w t 0 13 = A2 0 13 + t := by unfold fiM; rw [up2_same]
    have x8 : fiN B2 w t 258 w = 0 := by unfold fiN; rw [up2_other (by omega), up2_other (by omega), up2_same]
    have x14 : fiN B2 w t 248 14 = B2 248 14 + 1 := by unfold fiN; rw [up2_other (by omega), up2_same]
    have x16 : fiN B2 w t 248 16 = B2 248 16 + t := by unfold fiN; rw [up2_same]
    refine ⟨Rel_of (w := w) (RX_step hRX (by omega) (fun c z _ _ _ _ _ _ _ _ _ _ => pA c z (by omega) (by omega)) (pA _ _ (by omega) (by omega)) (fun c z _ _ _ _ _ _ _ _ _ => pB c z (by omega) (by omega)) ?_) ?_, ?_⟩
    · unfold RS
      rw [pA 0 8 (by omega) (by omega), pA 0 9 (by omega) (by omega), pA 0 10 (by omega) (by omega), z11, pA 0 12 (by omega) (by omega), z13, pA 14 0 (by omega) (by omega), pA 14 1 (by omega) (by omega), pB 248 6 (by omega) (by omega), pB 248 7 (by omega) (by omega), pB 248 12 (by omega) (by omega), x14, pB 248 15 (by omega) (by omega), x16, pB 248 11 (by omega) (by omega), pB 248 13 (by omega) (by omega)]
      obtain ⟨s1, s2, s3, s4, s5, s6, s7, s8⟩ := hRX.2.2.2.1
      exact ⟨s1, s2, s3, by omega, s5, by omega, s7, s8⟩
    · refine ⟨⟨Or.inl z3, by rw [pA _ 4 (by omega) (by omega)]; exact hWC.2.1, by rw [z8]; exact ⟨by omega, by omega⟩, by rw [pA _ 2 (by omega) (by omega)]; exact hWC.2.2.2.1, fun j a b => by rw [pA _ j (by omega) (by omega)]; exact hWC.2.2.2.2.1 j a b, by rw [pA _ 5 (by omega) (by omega)]; exact hWC.2.2.2.2.2.1, by rw [pA _ 7 (by omega) (by omega)]; exact hWC.2.2.2.2.2.2⟩, ⟨Or.inl x8, by rw [pB 262 w (by omega) (by omega)]; exact hWD.2.1, by rw [pB 263 w (by omega) (by omega)]; exact hWD.2.2.1, by rw [pB 267 w (by omega) (by omega)]; exact hWD.2.2.2.1, fun j a b => by rw [pB 268 _ (by omega) (by omega)]; exact hWD.2.2.2.2.1 j a b, by rw [pB 259 w (by omega) (by omega)]; exact hWD.2.2.2.2.2.1, by rw [pB 261 w (by omega) (by omega)]; exact hWD.2.2.2.2.2.2⟩, by rw [x8, z3], fun _ => z8, fun f => by omega⟩
    · rw [z11, f0]; simp [b2, c]
  · rw [if_neg c, if_neg c]
    refine ⟨back_rel hRX hw hWC hWD (by rw [f9]; exact h3) (by rw [wo 258 w (by omega) (by omega), g1]; exact h3) ?_ (by rw [f9]; exact h4) (by rw [b270, f9, q3]; omega) (by rw [f9]; omega), ?_⟩
    · unfold WB
      rw [f9, f10, f11, f0, wo 259 w (by omega) (by omega), wo 260 w (by omega) (by omega), wo 261 w (by omega) (by omega), wo 262 w (by omega) (by omega), wo 263 w (by omega) (by omega), wo 266 w (by omega) (by omega), wo 267 w (by omega) (by omega)]
      refine ⟨b1, bb, b3, fun j a b => ?_, b5⟩
      rw [wo 268 _ (by omega) (by omega), wo 269 _ (by omega) (by omega)]
      exact b4 j a b
    · rw [show b2 (A (209 + 3 * w) 12 = 0) = 0 by simp [b2, c], Int.add_zero]
      unfold sbM loM trM
      split
      · rw [up2_other (by omega), up2_other (by omega), up2_other (by omega), f0]
      · rw [up2_other (by omega), up2_other (by omega), up2_other (by omega), up2_other (by omega), f0]
end
