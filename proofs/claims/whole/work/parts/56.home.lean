/-! ===== coming back ===== -/
def ntC (M : Mem) (r x : Int) : Mem := up2 (up2 (up2 M (19 + 3 * r) (M (17 + 3 * r) 4) x) (17 + 3 * r) 4 ((M (17 + 3 * r) 4 + 1) % 8)) (17 + 3 * r) 3 (min (M (17 + 3 * r) 3 + 1) 8)
def ntD (M : Mem) (r x : Int) : Mem := up2 (putv M 272 (8 * r) (ntF (getv M 272 (8 * r)) (M 271 r) x)) 271 r (min (M 271 r + 1) 8)
/-- the row that a walker comes back to, its trip -/
def cbR (M : Mem) (w : Int) : Int := M (209 + 3 * w) 9 * 8 + M (209 + 3 * w) 7
def cbT (M : Mem) (w : Int) : Int := M (211 + 3 * w) (M (209 + 3 * w) 2 - 1) - M (211 + 3 * w) (M (209 + 3 * w) 12)
/-- the reward by kind, gain, best note and trip -/
def rwF (kd gn b t : Int) : Int := if kd = 2 then gn * b / t + (1000 - gn * b / t) / 4 else gn * b / t
def cbB (M : Mem) (w : Int) : Int := bnF (ntC M (cbR M w) (cbT M w) (19 + 3 * cbR M w)) (min (M (17 + 3 * cbR M w) 3 + 1) 8).toNat
def cbW (M : Mem) (w : Int) : Int := rwF (M (209 + 3 * w) 5) (M 0 9) (cbB M w) (cbT M w)
def cb2 (M : Mem) (w : Int) (p' w' : Vec) : Mem := putv (putv (putv (ntC M (cbR M w) (cbT M w)) 9 0 p') 11 0 w') (18 + 3 * cbR M w) 0 (rsF (M 0 8) (bs (M (17 + 3 * cbR M w) 2)) (M (210 + 3 * w) (M (209 + 3 * w) 12 + 1)) (cbW M w) (M (18 + 3 * cbR M w)))
def cbM (M : Mem) (w : Int) (p' w' : Vec) : Mem := if M (209 + 3 * w) 12 = 0 then fiM (cb2 M w p' w') w (cbT M w) else sbM (cb2 M w p' w') w
theorem rwF_rng {kd gn b t : Int} (hg : 0 ≤ gn ∧ gn ≤ 1000) (hb : 0 ≤ b ∧ b ≤ t) (ht : 0 < t ∧ t ≤ 2000000) : 0 ≤ rwF kd gn b t ∧ rwF kd gn b t ≤ 1000 := by
  have := rw_rng hg hb ht
  unfold rwF
  split <;> omega
section
variable {E : ET} {S : SCR} {M : Mem}
theorem c_reward {kd gn b t : Int} (hk : 0 ≤ kd ∧ kd ≤ 2) (hg : 0 ≤ gn ∧ gn ≤ 1000) (hb : 0 ≤ b ∧ b ≤ t) (ht : 0 < t ∧ t ≤ 2000000) : Ctr E 3 (if kd = 2 then 3 else 18) [vr (245 + kd), vi gn, vi b, vi t] (toAH S M) (some (vi (rwF kd gn b t))) (toAH S M) := by
  unfold rwF
  by_cases h : kd = 2
  · rw [if_pos h, if_pos h, h]; exact c_rewardE hg hb ht
  · rw [if_neg h, if_neg h]; exact c_rewardP (by omega) hg hb ht
theorem cb2_ot {w c z : Int} {p' w' : Vec} (h : ¬ c = 9 ∧ ¬ c = 11 ∧ ¬ c = 18 + 3 * cbR M w ∧ ¬ c = 19 + 3 * cbR M w ∧ ¬ (c = 17 + 3 * cbR M w ∧ (z = 3 ∨ z = 4))) : cb2 M w p' w' c z = M c z := by
  unfold cb2 ntC
  rw [putv_ne (by omega), putv_ne (by omega), putv_ne (by omega), up2_other (by omega), up2_other (by omega), up2_other (by omega)]
theorem cbB_ok {w : Int} (hnt : (0 ≤ M (17 + 3 * cbR M w) 3 ∧ M (17 + 3 * cbR M w) 3 ≤ 8) ∧ (0 ≤ M (17 + 3 * cbR M w) 4 ∧ M (17 + 3 * cbR M w) 4 < 8)) (hx : M (17 + 3 * cbR M w) 3 < 8 → M (17 + 3 * cbR M w) 4 = M (17 + 3 * cbR M w) 3) (hv : ∀ j, 0 ≤ j → j < 8 → 0 ≤ M (19 + 3 * cbR M w) j ∧ M (19 + 3 * cbR M w) j ≤ 2000000) (ht : 0 < cbT M w ∧ cbT M w ≤ 2000000) : (0 ≤ cbB M w ∧ cbB M w ≤ cbT M w) ∧ (∀ j, 0 ≤ j → j < 8 → 0 ≤ ntC M (cbR M w) (cbT M w) (19 + 3 * cbR M w) j ∧ ntC M (cbR M w) (cbT M w) (19 + 3 * cbR M w) j ≤ 2000000) := by
  have e : ∀ j, ntC M (cbR M w) (cbT M w) (19 + 3 * cbR M w) j = if j = M (17 + 3 * cbR M w) 4 then cbT M w else M (19 + 3 * cbR M w) j := fun j => by
    unfold ntC
    rw [up2_other (by omega), up2_other (by omega)]
    by_cases c : j = M (17 + 3 * cbR M w) 4
    · rw [if_pos c, c, up2_same]
    · rw [if_neg c, up2_other (by omega)]
  have hr : ∀ j, 0 ≤ j → j < 8 → 0 ≤ ntC M (cbR M w) (cbT M w) (19 + 3 * cbR M w) j ∧ ntC M (cbR M w) (cbT M w) (19 + 3 * cbR M w) j ≤ 2000000 := fun j a b => by
    rw [e]
    split
    · omega
    · exact hv j a b
  refine ⟨?_, hr⟩
  have hm := (bnF_min (v := ntC M (cbR M w) (cbT M w) (19 + 3 * cbR M w)) (min (M (17 + 3 * cbR M w) 3 + 1) 8).toNat (fun k a b => (hr k a (by omega)).1)).2 (by omega)
  have h1 := hm.2 (M (17 + 3 * cbR M w) 4) (by omega) (by omega)
  rw [e, if_pos rfl] at h1
  obtain ⟨k, k1, k2, k3⟩ := hm.1
  have h2 := (hr k k1 (by omega)).1
  unfold cbB
  omega
theorem CW_cb {w : Int} {p' w' : Vec} (hW : CW M) (hr : 0 ≤ cbR M w ∧ cbR M w < 64) (hR : ∀ k, 0 ≤ k → k < 8 → 0 ≤ rsF (M 0 8) (bs (M (17 + 3 * cbR M w) 2)) (M (210 + 3 * w) (M (209 + 3 * w) 12 + 1)) (cbW M w) (M (18 + 3 * cbR M w)) k ∧ rsF (M 0 8) (bs (M (17 + 3 * cbR M w) 2)) (M (210 + 3 * w) (M (209 + 3 * w) 12 + 1)) (cbW M w) (M (18 + 3 * cbR M w)) k ≤ 1000) : CW (cb2 M w p' w') := by
  obtain ⟨h3, h4, h8, hd, hlo, hhi, hN, hS, hn, hv, hkd, ha⟩ := hW
  refine ⟨fun k a b => ?_, fun k a b => ?_, fun k a b => ?_, fun k a b => ?_, fun k a b => ?_, fun k a b => ?_, fun k a b => ?_, fun r k a b a1 b1 => ?_, fun k a b => ?_, fun k j a b a1 b1 => ?_, fun k a b => ?_, fun k a b => ?_⟩
  · rw [cb2_ot (by omega)]; exact h3 k a b
  · rw [cb2_ot (by omega)]; exact h4 k a b
  · rw [cb2_ot (by omega)]; exact h8 k a b
  · rw [cb2_ot (by omega)]; exact hd k a b
  · rw [cb2_ot (by omega)]; exact hlo k a b
  · rw [cb2_ot (by omega)]; exact hhi k a b
  · rw [cb2_ot (by omega)]; exact hN k a b
  · by_cases c : r = cbR M w
    · rw [c]; unfold cb2; rw [putv_at0 a1 b1]; exact hR k a1 b1
    · rw [cb2_ot (by omega)]; exact hS r k a b a1 b1
  · rw [cb2_ot (by omega)]; exact hn k a b
  · rw [cb2_ot (by omega)]; exact hv k j a b a1 b1
  · rw [cb2_ot (by omega)]; exact hkd k a b
  · rw [cb2_ot (by omega)]; exact ha k a b
theorem c_comeBack {w : Int} (hW : CW M) (hw : 0 ≤ w ∧ w < 12) (hto : 0 ≤ M (209 + 3 * w) 9 ∧ M (209 + 3 * w) 9 ≤ 7) (hp : 0 ≤ M (209 + 3 * w) 12 ∧ M (209 + 3 * w) 12 + 1 < M (209 + 3 * w) 2)
    (hs : 0 ≤ M (17 + 3 * cbR M w) 2 ∧ M (17 + 3 * cbR M w) 2 < 256) (hm : bs (M (17 + 3 * cbR M w) 2) (M (210 + 3 * w) (M (209 + 3 * w) 12 + 1)) = true) (hf : 0 ≤ M 0 8 ∧ M 0 8 ≤ 100) (hg : 0 ≤ M 0 9 ∧ M 0 9 ≤ 1000) (hRV : RV (bs (M (17 + 3 * cbR M w) 2)) (M (18 + 3 * cbR M w)))
    (hnt : (0 ≤ M (17 + 3 * cbR M w) 3 ∧ M (17 + 3 * cbR M w) 3 ≤ 8) ∧ (0 ≤ M (17 + 3 * cbR M w) 4 ∧ M (17 + 3 * cbR M w) 4 < 8)) (hx : M (17 + 3 * cbR M w) 3 < 8 → M (17 + 3 * cbR M w) 4 = M (17 + 3 * cbR M w) 3) (hnv : ∀ j, 0 ≤ j → j < 8 → 0 ≤ M (19 + 3 * cbR M w) j ∧ M (19 + 3 * cbR M w) j ≤ 2000000) (ht : 0 < cbT M w ∧ cbT M w ≤ 2000000) :
    ∃ p' w' : Vec, Ctr E 5 84 [vr 0, vr (209 + 3 * w)] (toAH S M) none (toAH S (cbM M w p' w')) := by
  have hW' := hW
  obtain ⟨h3, h4, h8, hd, hlo, hhi, hN, hS, hn, hv, hkd, ha⟩ := hW'
  have n2 := hn w hw.1 hw.2
  have aw := ha w hw.1 hw.2
  have kw := hkd w hw.1 hw.2
  have v1 := hv w (M (209 + 3 * w) 12 + 1) hw.1 hw.2 (by omega) (by omega)
  have eR : cbR M w = M (209 + 3 * w) 9 * 8 + M (209 + 3 * w) 7 := rfl
  have hr : 0 ≤ cbR M w ∧ cbR M w < 64 := by omega
  have bk := cbB_ok hnt hx hnv ht
  have cN := c_note5 (E := E) (S := S) (M := M) (r := cbR M w) (x := cbT M w) hr hnt.1 hnt.2
  rw [show up2 (up2 (up2 M (19 + 3 * cbR M w) (M (17 + 3 * cbR M w) 4) (cbT M w)) (17 + 3 * cbR M w) 4 ((M (17 + 3 * cbR M w) 4 + 1) % 8)) (17 + 3 * cbR M w) 3 (min (M (17 + 3 * cbR M w) 3 + 1) 8) = ntC M (cbR M w) (cbT M w) from rfl] at cN
  have nO : ∀ c z, ¬ c = 19 + 3 * cbR M w → ¬ (c = 17 + 3 * cbR M w ∧ (z = 3 ∨ z = 4)) → ntC M (cbR M w) (cbT M w) c z = M c z := fun c z a b => by
    unfold ntC; rw [up2_other (by omega), up2_other (by omega), up2_other (by omega)]
  have n3 : ntC M (cbR M w) (cbT M w) (17 + 3 * cbR M w) 3 = (((min (M (17 + 3 * cbR M w) 3 + 1) 8).toNat : Nat) : Int) := by
    unfold ntC; rw [up2_same]; omega
  have cB := c_bestNote5 (E := E) (S := S) (M := ntC M (cbR M w) (cbT M w)) (r := cbR M w) (n := (min (M (17 + 3 * cbR M w) 3 + 1) 8).toNat) hr n3 (by omega) (fun j a b => by have := bk.2 j a b; exact ⟨by omega, by omega⟩)
  rw [show bnF (ntC M (cbR M w) (cbT M w) (19 + 3 * cbR M w)) (min (M (17 + 3 * cbR M w) 3 + 1) 8).toNat = cbB M w from rfl] at cB
  have cW := c_reward (E := E) (S := S) (M := ntC M (cbR M w) (cbT M w)) (kd := M (209 + 3 * w) 5) (gn := M 0 9) (b := cbB M w) (t := cbT M w) kw hg bk.1 ht
  rw [show rwF (M (209 + 3 * w) 5) (M 0 9) (cbB M w) (cbT M w) = cbW M w from rfl] at cW
  have rr : 0 ≤ cbW M w ∧ cbW M w ≤ 1000 := rwF_rng hg bk.1 ht
  have q2 := nO (17 + 3 * cbR M w) 2 (by omega) (by omega)
  have q18 : ntC M (cbR M w) (cbT M w) (18 + 3 * cbR M w) = M (18 + 3 * cbR M w) := by funext z; exact nO _ z (by omega) (by omega)
  obtain ⟨p', w', cA⟩ := c_raiseC (E := E) (S := S) (M := ntC M (cbR M w) (cbT M w)) (r := cbR M w) (k0 := M (210 + 3 * w) (M (209 + 3 * w) 12 + 1)) (rr := cbW M w) (fl := M 0 8) (m := bs (M (17 + 3 * cbR M w) 2)) (v := M (18 + 3 * cbR M w)) (by rw [q2]) (by rw [q18]) hr (by rw [q2]; exact hs) (by omega) hm rr hf (fun j a b => hS (cbR M w) j hr.1 hr.2 a b) hRV
  rw [show putv (putv (putv (ntC M (cbR M w) (cbT M w)) 9 0 p') 11 0 w') (18 + 3 * cbR M w) 0 (rsF (M 0 8) (bs (M (17 + 3 * cbR M w) 2)) (M (210 + 3 * w) (M (209 + 3 * w) 12 + 1)) (cbW M w) (M (18 + 3 * cbR M w))) = cb2 M w p' w' from rfl] at cA
  refine ⟨p', w', ?_⟩
  have eC : cbM M w p' w' = if M (209 + 3 * w) 12 = 0 then fiM (cb2 M w p' w') w (cbT M w) else sbM (cb2 M w p' w') w := rfl
  have eT : cbT M w = M (211 + 3 * w) (M (209 + 3 * w) 2 - 1) - M (211 + 3 * w) (M (209 + 3 * w) 12) := rfl
  have cF := c_finish (E := E) (S := S) (M := cb2 M w p' w') (t := cbT M w) hw
  have ro := rsF_ok (fl := M 0 8) (m := bs (M (17 + 3 * cbR M w) 2)) (k0 := M (210 + 3 * w) (M (209 + 3 * w) 12 + 1)) (r := cbW M w) (v := M (18 + 3 * cbR M w)) hf (by omega) hm rr hRV
  have hC2 : CW (cb2 M w p' w') := CW_cb hW hr (fun k a b => by
    by_cases c : bs (M (17 + 3 * cbR M w) 2) k = true
    · exact ro.1.1 k a b c
    · rw [ro.2 k a b (by simpa using c)]; exact hS (cbR M w) k hr.1 hr.2 a b)
  have z12 : cb2 M w p' w' (209 + 3 * w) 12 = M (209 + 3 * w) 12 := cb2_ot (by omega)
  have o5 : ntC M (cbR M w) (cbT M w) (209 + 3 * w) 5 = M (209 + 3 * w) 5 := nO _ _ (by omega) (by omega)
  have o09 : ntC M (cbR M w) (cbT M w) 0 9 = M 0 9 := nO _ _ (by omega) (by omega)
  have o08 : ntC M (cbR M w) (cbT M w) 0 8 = M 0 8 := nO _ _ (by omega) (by omega)
  have ov : ntC M (cbR M w) (cbT M w) (210 + 3 * w) (M (209 + 3 * w) 12 + 1) = M (210 + 3 * w) (M (209 + 3 * w) 12 + 1) := nO _ _ (by omega) (by omega)
  obtain ⟨Z, hZ⟩ : ∃ Z, Z = cbM M w p' w' := ⟨_, rfl⟩
  rw [← hZ] at eC ⊢
  obtain ⟨r, er⟩ : ∃ r, r = cbR M w := ⟨_, rfl⟩
  obtain ⟨t, et⟩ : ∃ t, t = cbT M w := ⟨_, rfl⟩
  obtain ⟨bb, eb⟩ : ∃ bb, bb = cbB M w := ⟨_, rfl⟩
  obtain ⟨ww, eww⟩ : ∃ ww, ww = cbW M w := ⟨_, rfl⟩
  obtain ⟨N1, e1⟩ : ∃ N1, N1 = ntC M (cbR M w) (cbT M w) := ⟨_, rfl⟩
  obtain ⟨N2, e2⟩ : ∃ N2, N2 = cb2 M w p' w' := ⟨_, rfl⟩
  rw [← e1] at cN cB cW cA o5 o09 o08 ov
  rw [← e2] at cA cF hC2 z12 eC
  rw [← er] at cN cB cA eR hr
  rw [← et] at cN cW cF eC eT
  rw [← eb] at cB cW
  rw [← eww] at cW cA
  refine Ctr_f mi_X8_comeBack mo_X8_comeBack (Nat.le_of_ble_eq_true rfl) ⟨Nat.le_refl _, Nat.le_refl _⟩ (fun g lm => ?_)
  rw [show entL mi_X8_comeBack.2.2.1 [vr 0, vr (209 + 3 * w)] = [some (vr 0), some (vr (209 + 3 * w)), none, none, none, none] from rfl]
  refine e_X8_comeBack 400 (lfok E (by omega)) ?_
  simp +contextual (disch := first | omega | exact Nat.le_of_ble_eq_true rfl | assumption) only [↓r_X8_comeBack_0, ↓r_X8_comeBack_1, ↓r_X8_comeBack_4, ↓r_X8_comeBack_5, ↓r_X8_comeBack_6, ↓r_X8_comeBack_7, ↓r_X8_comeBack_8, ↓r_X8_comeBack_9, ↓r_X8_comeBack_12, ↓r_X8_comeBack_15, ↓r_X8_comeBack_16, ↓r_X8_comeBack_17, ↓r_X8_comeBack_20, ↓r_X8_comeBack_21, ↓r_X8_comeBack_24, ↓r_X8_comeBack_25, ↓r_X8_comeBack_26, ↓r_X8_comeBack_27, ↓r_X8_comeBack_28, ↓r_X8_comeBack_31, ↓r_X8_comeBack_32, ↓r_X8_comeBack_35, ↓r_X8_comeBack_36, ↓r_X8_comeBack_37, ↓r_X8_comeBack_38, ↓r_X8_comeBack_39, ↓r_X8_comeBack_40, ↓r_X8_comeBack_43, ↓r_X8_comeBack_44, ↓r_X8_comeBack_47, ↓r_X8_comeBack_50, ↓r_X8_comeBack_52, ↓r_X8_comeBack_54, ↓r_X8_comeBack_55, ↓r_X8_comeBack_58, ↓r_X8_comeBack_59, ↓r_X8_comeBack_62, ↓r_X8_comeBack_63, ↓r_X8_comeBack_66, ↓r_X8_comeBack_67, ↓r_X8_comeBack_68, ↓r_X8_comeBack_71, ↓r_X8_comeBack_73, ↓r_X8_comeBack_76, ↓r_X8_comeBack_77, ↓r_X8_comeBack_80, ↓r_X8_comeBack_82, ↓r_X8_comeBack_84, ↓r_X8_comeBack_85, ↓r_X8_comeBack_88, ↓r_X8_comeBack_89, ↓r_X8_comeBack_90, ↓r_X8_comeBack_92, ↓r_X8_comeBack_93, ↓r_X8_comeBack_96, ↓r_X8_comeBack_97, ↓r_X8_comeBack_100, ↓r_X8_comeBack_103, ↓r_X8_comeBack_104, ↓r_X8_comeBack_107, ↓r_X8_comeBack_110, ↓r_X8_comeBack_111, ↓r_X8_comeBack_112, ↓r_X8_comeBack_113, ↓r_X8_comeBack_116, ↓r_X8_comeBack_119, ↓r_X8_comeBack_120, ↓r_X8_comeBack_121, ↓r_X8_comeBack_124, ↓x2_1, ↓f7_12, ↓x0, ↓x8, ↓x4_2n, ↓x4_2i, ↓x4_2r, ↓x1_2, ↓f7_2, ↓x32_2, ↓x48_4, ↓f7_1, ↓x9, ↓x4_3n, ↓x4_3i, ↓x4_3r, ↓x2_0, ↓f7_9, ↓f7_7, ↓lf_X8_rowOf, ↓x5_4n, ↓x5_4i, ↓x5_4r, ↓x2_4, ↓x1_3, ↓v5_2, ↓f8_4, ↓f7_5, ↓f8_9, ↓v5_1, ↓x4_5n, ↓x4_5i, ↓x4_5r, ↓f7_0, ↓x1_5, ↓f8_8, ↓f8_2, ↓v5_5, ↓x31_1, ↓x31b1, ↓v8_3, ↓x33, ↓v8_2, ↓l_2, ↓l_3, ↓l_4, ↓l_5, ↓l_6, ↓l_7, ↓l_9, ↓l_10, ↓l_11, ↓l_12, ↓l_13, ↓l_15, ↓l_16, ↓l_r1, ↓l_r2, ↓l_w1, ↓l_w2, and_self, and_true, true_and, implies_true, true_implies, Int.reduceEq, Int.reduceLE, Int.reduceLT, not_true_eq_false, not_false_eq_true, false_implies, RTf_eq, ← eT, ← eR]
  refine ⟨fun _ => ?_, fun f => absurd hp.2 f⟩
  refine ck_v cN (by omega) (by simp) ?_
  simp +contextual (disch := first | omega | exact Nat.le_of_ble_eq_true rfl | assumption) only [↓r_X8_comeBack_0, ↓r_X8_comeBack_1, ↓r_X8_comeBack_4, ↓r_X8_comeBack_5, ↓r_X8_comeBack_6, ↓r_X8_comeBack_7, ↓r_X8_comeBack_8, ↓r_X8_comeBack_9, ↓r_X8_comeBack_12, ↓r_X8_comeBack_15, ↓r_X8_comeBack_16, ↓r_X8_comeBack_17, ↓r_X8_comeBack_20, ↓r_X8_comeBack_21, ↓r_X8_comeBack_24, ↓r_X8_comeBack_25, ↓r_X8_comeBack_26, ↓r_X8_comeBack_27, ↓r_X8_comeBack_28, ↓r_X8_comeBack_31, ↓r_X8_comeBack_32, ↓r_X8_comeBack_35, ↓r_X8_comeBack_36, ↓r_X8_comeBack_37, ↓r_X8_comeBack_38, ↓r_X8_comeBack_39, ↓r_X8_comeBack_40, ↓r_X8_comeBack_43, ↓r_X8_comeBack_44, ↓r_X8_comeBack_47, ↓r_X8_comeBack_50, ↓r_X8_comeBack_52, ↓r_X8_comeBack_54, ↓r_X8_comeBack_55, ↓r_X8_comeBack_58, ↓r_X8_comeBack_59, ↓r_X8_comeBack_62, ↓r_X8_comeBack_63, ↓r_X8_comeBack_66, ↓r_X8_comeBack_67, ↓r_X8_comeBack_68, ↓r_X8_comeBack_71, ↓r_X8_comeBack_73, ↓r_X8_comeBack_76, ↓r_X8_comeBack_77, ↓r_X8_comeBack_80, ↓r_X8_comeBack_82, ↓r_X8_comeBack_84, ↓r_X8_comeBack_85, ↓r_X8_comeBack_88, ↓r_X8_comeBack_89, ↓r_X8_comeBack_90, ↓r_X8_comeBack_92, ↓r_X8_comeBack_93, ↓r_X8_comeBack_96, ↓r_X8_comeBack_97, ↓r_X8_comeBack_100, ↓r_X8_comeBack_103, ↓r_X8_comeBack_104, ↓r_X8_comeBack_107, ↓r_X8_comeBack_110, ↓r_X8_comeBack_111, ↓r_X8_comeBack_112, ↓r_X8_comeBack_113, ↓r_X8_comeBack_116, ↓r_X8_comeBack_119, ↓r_X8_comeBack_120, ↓r_X8_comeBack_121, ↓r_X8_comeBack_124, ↓x2_1, ↓f7_12, ↓x0, ↓x8, ↓x4_2n, ↓x4_2i, ↓x4_2r, ↓x1_2, ↓f7_2, ↓x32_2, ↓x48_4, ↓f7_1, ↓x9, ↓x4_3n, ↓x4_3i, ↓x4_3r, ↓x2_0, ↓f7_9, ↓f7_7, ↓lf_X8_rowOf, ↓x5_4n, ↓x5_4i, ↓x5_4r, ↓x2_4, ↓x1_3, ↓v5_2, ↓f8_4, ↓f7_5, ↓f8_9, ↓v5_1, ↓x4_5n, ↓x4_5i, ↓x4_5r, ↓f7_0, ↓x1_5, ↓f8_8, ↓f8_2, ↓v5_5, ↓x31_1, ↓x31b1, ↓v8_3, ↓x33, ↓v8_2, ↓l_2, ↓l_3, ↓l_4, ↓l_5, ↓l_6, ↓l_7, ↓l_9, ↓l_10, ↓l_11, ↓l_12, ↓l_13, ↓l_15, ↓l_16, ↓l_r1, ↓l_r2, ↓l_w1, ↓l_w2, and_self, and_true, true_and, implies_true, true_implies, Int.reduceEq, Int.reduceLE, Int.reduceLT, not_true_eq_false, not_false_eq_true, false_implies, RTf_eq, o5, o09]
  refine ck_r cB (by omega) (by simp) ?_
  simp +contextual (disch := first | omega | exact Nat.le_of_ble_eq_true rfl | assumption) only [↓r_X8_comeBack_0, ↓r_X8_comeBack_1, ↓r_X8_comeBack_4, ↓r_X8_comeBack_5, ↓r_X8_comeBack_6, ↓r_X8_comeBack_7, ↓r_X8_comeBack_8, ↓r_X8_comeBack_9, ↓r_X8_comeBack_12, ↓r_X8_comeBack_15, ↓r_X8_comeBack_16, ↓r_X8_comeBack_17, ↓r_X8_comeBack_20, ↓r_X8_comeBack_21, ↓r_X8_comeBack_24, ↓r_X8_comeBack_25, ↓r_X8_comeBack_26, ↓r_X8_comeBack_27, ↓r_X8_comeBack_28, ↓r_X8_comeBack_31, ↓r_X8_comeBack_32, ↓r_X8_comeBack_35, ↓r_X8_comeBack_36, ↓r_X8_comeBack_37, ↓r_X8_comeBack_38, ↓r_X8_comeBack_39, ↓r_X8_comeBack_40, ↓r_X8_comeBack_43, ↓r_X8_comeBack_44, ↓r_X8_comeBack_47, ↓r_X8_comeBack_50, ↓r_X8_comeBack_52, ↓r_X8_comeBack_54, ↓r_X8_comeBack_55, ↓r_X8_comeBack_58, ↓r_X8_comeBack_59, ↓r_X8_comeBack_62, ↓r_X8_comeBack_63, ↓r_X8_comeBack_66, ↓r_X8_comeBack_67, ↓r_X8_comeBack_68, ↓r_X8_comeBack_71, ↓r_X8_comeBack_73, ↓r_X8_comeBack_76, ↓r_X8_comeBack_77, ↓r_X8_comeBack_80, ↓r_X8_comeBack_82, ↓r_X8_comeBack_84, ↓r_X8_comeBack_85, ↓r_X8_comeBack_88, ↓r_X8_comeBack_89, ↓r_X8_comeBack_90, ↓r_X8_comeBack_92, ↓r_X8_comeBack_93, ↓r_X8_comeBack_96, ↓r_X8_comeBack_97, ↓r_X8_comeBack_100, ↓r_X8_comeBack_103, ↓r_X8_comeBack_104, ↓r_X8_comeBack_107, ↓r_X8_comeBack_110, ↓r_X8_comeBack_111, ↓r_X8_comeBack_112, ↓r_X8_comeBack_113, ↓r_X8_comeBack_116, ↓r_X8_comeBack_119, ↓r_X8_comeBack_120, ↓r_X8_comeBack_121, ↓r_X8_comeBack_124, ↓x2_1, ↓f7_12, ↓x0, ↓x8, ↓x4_2n, ↓x4_2i, ↓x4_2r, ↓x1_2, ↓f7_2, ↓x32_2, ↓x48_4, ↓f7_1, ↓x9, ↓x4_3n, ↓x4_3i, ↓x4_3r, ↓x2_0, ↓f7_9, ↓f7_7, ↓lf_X8_rowOf, ↓x5_4n, ↓x5_4i, ↓x5_4r, ↓x2_4, ↓x1_3, ↓v5_2, ↓f8_4, ↓f7_5, ↓f8_9, ↓v5_1, ↓x4_5n, ↓x4_5i, ↓x4_5r, ↓f7_0, ↓x1_5, ↓f8_8, ↓f8_2, ↓v5_5, ↓x31_1, ↓x31b1, ↓v8_3, ↓x33, ↓v8_2, ↓l_2, ↓l_3, ↓l_4, ↓l_5, ↓l_6, ↓l_7, ↓l_9, ↓l_10, ↓l_11, ↓l_12, ↓l_13, ↓l_15, ↓l_16, ↓l_r1, ↓l_r2, ↓l_w1, ↓l_w2, and_self, and_true, true_and, implies_true, true_implies, Int.reduceEq, Int.reduceLE, Int.reduceLT, not_true_eq_false, not_false_eq_true, false_implies, RTf_eq, ↓y46r]
  refine ck_r cW (by omega) (by simp) ?_
  simp +contextual (disch := first | omega | exact Nat.le_of_ble_eq_true rfl | assumption) only [↓r_X8_comeBack_0, ↓r_X8_comeBack_1, ↓r_X8_comeBack_4, ↓r_X8_comeBack_5, ↓r_X8_comeBack_6, ↓r_X8_comeBack_7, ↓r_X8_comeBack_8, ↓r_X8_comeBack_9, ↓r_X8_comeBack_12, ↓r_X8_comeBack_15, ↓r_X8_comeBack_16, ↓r_X8_comeBack_17, ↓r_X8_comeBack_20, ↓r_X8_comeBack_21, ↓r_X8_comeBack_24, ↓r_X8_comeBack_25, ↓r_X8_comeBack_26, ↓r_X8_comeBack_27, ↓r_X8_comeBack_28, ↓r_X8_comeBack_31, ↓r_X8_comeBack_32, ↓r_X8_comeBack_35, ↓r_X8_comeBack_36, ↓r_X8_comeBack_37, ↓r_X8_comeBack_38, ↓r_X8_comeBack_39, ↓r_X8_comeBack_40, ↓r_X8_comeBack_43, ↓r_X8_comeBack_44, ↓r_X8_comeBack_47, ↓r_X8_comeBack_50, ↓r_X8_comeBack_52, ↓r_X8_comeBack_54, ↓r_X8_comeBack_55, ↓r_X8_comeBack_58, ↓r_X8_comeBack_59, ↓r_X8_comeBack_62, ↓r_X8_comeBack_63, ↓r_X8_comeBack_66, ↓r_X8_comeBack_67, ↓r_X8_comeBack_68, ↓r_X8_comeBack_71, ↓r_X8_comeBack_73, ↓r_X8_comeBack_76, ↓r_X8_comeBack_77, ↓r_X8_comeBack_80, ↓r_X8_comeBack_82, ↓r_X8_comeBack_84, ↓r_X8_comeBack_85, ↓r_X8_comeBack_88, ↓r_X8_comeBack_89, ↓r_X8_comeBack_90, ↓r_X8_comeBack_92, ↓r_X8_comeBack_93, ↓r_X8_comeBack_96, ↓r_X8_comeBack_97, ↓r_X8_comeBack_100, ↓r_X8_comeBack_103, ↓r_X8_comeBack_104, ↓r_X8_comeBack_107, ↓r_X8_comeBack_110, ↓r_X8_comeBack_111, ↓r_X8_comeBack_112, ↓r_X8_comeBack_113, ↓r_X8_comeBack_116, ↓r_X8_comeBack_119, ↓r_X8_comeBack_120, ↓r_X8_comeBack_121, ↓r_X8_comeBack_124, ↓x2_1, ↓f7_12, ↓x0, ↓x8, ↓x4_2n, ↓x4_2i, ↓x4_2r, ↓x1_2, ↓f7_2, ↓x32_2, ↓x48_4, ↓f7_1, ↓x9, ↓x4_3n, ↓x4_3i, ↓x4_3r, ↓x2_0, ↓f7_9, ↓f7_7, ↓lf_X8_rowOf, ↓x5_4n, ↓x5_4i, ↓x5_4r, ↓x2_4, ↓x1_3, ↓v5_2, ↓f8_4, ↓f7_5, ↓f8_9, ↓v5_1, ↓x4_5n, ↓x4_5i, ↓x4_5r, ↓f7_0, ↓x1_5, ↓f8_8, ↓f8_2, ↓v5_5, ↓x31_1, ↓x31b1, ↓v8_3, ↓x33, ↓v8_2, ↓l_2, ↓l_3, ↓l_4, ↓l_5, ↓l_6, ↓l_7, ↓l_9, ↓l_10, ↓l_11, ↓l_12, ↓l_13, ↓l_15, ↓l_16, ↓l_r1, ↓l_r2, ↓l_w1, ↓l_w2, and_self, and_true, true_and, implies_true, true_implies, Int.reduceEq, Int.reduceLE, Int.reduceLT, not_true_eq_false, not_false_eq_true, false_implies, RTf_eq, o08, ov]
  refine ck_v cA (by omega) (by simp) ?_
  by_cases c : M (209 + 3 * w) 12 = 0
  · rw [if_pos c] at eC
    simp +contextual (disch := first | omega | exact Nat.le_of_ble_eq_true rfl | assumption) only [↓r_X8_comeBack_0, ↓r_X8_comeBack_1, ↓r_X8_comeBack_4, ↓r_X8_comeBack_5, ↓r_X8_comeBack_6, ↓r_X8_comeBack_7, ↓r_X8_comeBack_8, ↓r_X8_comeBack_9, ↓r_X8_comeBack_12, ↓r_X8_comeBack_15, ↓r_X8_comeBack_16, ↓r_X8_comeBack_17, ↓r_X8_comeBack_20, ↓r_X8_comeBack_21, ↓r_X8_comeBack_24, ↓r_X8_comeBack_25, ↓r_X8_comeBack_26, ↓r_X8_comeBack_27, ↓r_X8_comeBack_28, ↓r_X8_comeBack_31, ↓r_X8_comeBack_32, ↓r_X8_comeBack_35, ↓r_X8_comeBack_36, ↓r_X8_comeBack_37, ↓r_X8_comeBack_38, ↓r_X8_comeBack_39, ↓r_X8_comeBack_40, ↓r_X8_comeBack_43, ↓r_X8_comeBack_44, ↓r_X8_comeBack_47, ↓r_X8_comeBack_50, ↓r_X8_comeBack_52, ↓r_X8_comeBack_54, ↓r_X8_comeBack_55, ↓r_X8_comeBack_58, ↓r_X8_comeBack_59, ↓r_X8_comeBack_62, ↓r_X8_comeBack_63, ↓r_X8_comeBack_66, ↓r_X8_comeBack_67, ↓r_X8_comeBack_68, ↓r_X8_comeBack_71, ↓r_X8_comeBack_73, ↓r_X8_comeBack_76, ↓r_X8_comeBack_77, ↓r_X8_comeBack_80, ↓r_X8_comeBack_82, ↓r_X8_comeBack_84, ↓r_X8_comeBack_85, ↓r_X8_comeBack_88, ↓r_X8_comeBack_89, ↓r_X8_comeBack_90, ↓r_X8_comeBack_92, ↓r_X8_comeBack_93, ↓r_X8_comeBack_96, ↓r_X8_comeBack_97, ↓r_X8_comeBack_100, ↓r_X8_comeBack_103, ↓r_X8_comeBack_104, ↓r_X8_comeBack_107, ↓r_X8_comeBack_110, ↓r_X8_comeBack_111, ↓r_X8_comeBack_112, ↓r_X8_comeBack_113, ↓r_X8_comeBack_116, ↓r_X8_comeBack_119, ↓r_X8_comeBack_120, ↓r_X8_comeBack_121, ↓r_X8_comeBack_124, ↓x2_1, ↓f7_12, ↓x0, ↓x8, ↓x4_2n, ↓x4_2i, ↓x4_2r, ↓x1_2, ↓f7_2, ↓x32_2, ↓x48_4, ↓f7_1, ↓x9, ↓x4_3n, ↓x4_3i, ↓x4_3r, ↓x2_0, ↓f7_9, ↓f7_7, ↓lf_X8_rowOf, ↓x5_4n, ↓x5_4i, ↓x5_4r, ↓x2_4, ↓x1_3, ↓v5_2, ↓f8_4, ↓f7_5, ↓f8_9, ↓v5_1, ↓x4_5n, ↓x4_5i, ↓x4_5r, ↓f7_0, ↓x1_5, ↓f8_8, ↓f8_2, ↓v5_5, ↓x31_1, ↓x31b1, ↓v8_3, ↓x33, ↓v8_2, ↓l_2, ↓l_3, ↓l_4, ↓l_5, ↓l_6, ↓l_7, ↓l_9, ↓l_10, ↓l_11, ↓l_12, ↓l_13, ↓l_15, ↓l_16, ↓l_r1, ↓l_r2, ↓l_w1, ↓l_w2, and_self, and_true, true_and, implies_true, true_implies, Int.reduceEq, Int.reduceLE, Int.reduceLT, not_true_eq_false, not_false_eq_true, false_implies, RTf_eq, z12]
    refine ⟨fun f => absurd c f, fun _ => ?_⟩
    refine ck_v cF (by omega) (by simp) ?_
    simp +contextual (disch := first | omega | exact Nat.le_of_ble_eq_true rfl | assumption) only [↓r_X8_comeBack_0, ↓r_X8_comeBack_1, ↓r_X8_comeBack_4, ↓r_X8_comeBack_5, ↓r_X8_comeBack_6, ↓r_X8_comeBack_7, ↓r_X8_comeBack_8, ↓r_X8_comeBack_9, ↓r_X8_comeBack_12, ↓r_X8_comeBack_15, ↓r_X8_comeBack_16, ↓r_X8_comeBack_17, ↓r_X8_comeBack_20, ↓r_X8_comeBack_21, ↓r_X8_comeBack_24, ↓r_X8_comeBack_25, ↓r_X8_comeBack_26, ↓r_X8_comeBack_27, ↓r_X8_comeBack_28, ↓r_X8_comeBack_31, ↓r_X8_comeBack_32, ↓r_X8_comeBack_35, ↓r_X8_comeBack_36, ↓r_X8_comeBack_37, ↓r_X8_comeBack_38, ↓r_X8_comeBack_39, ↓r_X8_comeBack_40, ↓r_X8_comeBack_43, ↓r_X8_comeBack_44, ↓r_X8_comeBack_47, ↓r_X8_comeBack_50, ↓r_X8_comeBack_52, ↓r_X8_comeBack_54, ↓r_X8_comeBack_55, ↓r_X8_comeBack_58, ↓r_X8_comeBack_59, ↓r_X8_comeBack_62, ↓r_X8_comeBack_63, ↓r_X8_comeBack_66, ↓r_X8_comeBack_67, ↓r_X8_comeBack_68, ↓r_X8_comeBack_71, ↓r_X8_comeBack_73, ↓r_X8_comeBack_76, ↓r_X8_comeBack_77, ↓r_X8_comeBack_80, ↓r_X8_comeBack_82, ↓r_X8_comeBack_84, ↓r_X8_comeBack_85, ↓r_X8_comeBack_88, ↓r_X8_comeBack_89, ↓r_X8_comeBack_90, ↓r_X8_comeBack_92, ↓r_X8_comeBack_93, ↓r_X8_comeBack_96, ↓r_X8_comeBack_97, ↓r_X8_comeBack_100, ↓r_X8_comeBack_103, ↓r_X8_comeBack_104, ↓r_X8_comeBack_107, ↓r_X8_comeBack_110, ↓r_X8_comeBack_111, ↓r_X8_comeBack_112, ↓r_X8_comeBack_113, ↓r_X8_comeBack_116, ↓r_X8_comeBack_119, ↓r_X8_comeBack_120, ↓r_X8_comeBack_121, ↓r_X8_comeBack_124, ↓x2_1, ↓f7_12, ↓x0, ↓x8, ↓x4_2n, ↓x4_2i, ↓x4_2r, ↓x1_2, ↓f7_2, ↓x32_2, ↓x48_4, ↓f7_1, ↓x9, ↓x4_3n, ↓x4_3i, ↓x4_3r, ↓x2_0, ↓f7_9, ↓f7_7, ↓lf_X8_rowOf, ↓x5_4n, ↓x5_4i, ↓x5_4r, ↓x2_4, ↓x1_3, ↓v5_2, ↓f8_4, ↓f7_5, ↓f8_9, ↓v5_1, ↓x4_5n, ↓x4_5i, ↓x4_5r, ↓f7_0, ↓x1_5, ↓f8_8, ↓f8_2, ↓v5_5, ↓x31_1, ↓x31b1, ↓v8_3, ↓x33, ↓v8_2, ↓l_2, ↓l_3, ↓l_4, ↓l_5, ↓l_6, ↓l_7, ↓l_9, ↓l_10, ↓l_11, ↓l_12, ↓l_13, ↓l_15, ↓l_16, ↓l_r1, ↓l_r2, ↓l_w1, ↓l_w2, and_self, and_true, true_and, implies_true, true_implies, Int.reduceEq, Int.reduceLE, Int.reduceLT, not_true_eq_false, not_false_eq_true, false_implies, RTf_eq]
    rw [eC]
  · rw [if_neg c] at eC
    have cS := c_stepBack (E := E) (S := S) (M := N2) hC2 hw (by rw [z12]; omega)
    simp +contextual (disch := first | omega | exact Nat.le_of_ble_eq_true rfl | assumption) only [↓r_X8_comeBack_0, ↓r_X8_comeBack_1, ↓r_X8_comeBack_4, ↓r_X8_comeBack_5, ↓r_X8_comeBack_6, ↓r_X8_comeBack_7, ↓r_X8_comeBack_8, ↓r_X8_comeBack_9, ↓r_X8_comeBack_12, ↓r_X8_comeBack_15, ↓r_X8_comeBack_16, ↓r_X8_comeBack_17, ↓r_X8_comeBack_20, ↓r_X8_comeBack_21, ↓r_X8_comeBack_24, ↓r_X8_comeBack_25, ↓r_X8_comeBack_26, ↓r_X8_comeBack_27, ↓r_X8_comeBack_28, ↓r_X8_comeBack_31, ↓r_X8_comeBack_32, ↓r_X8_comeBack_35, ↓r_X8_comeBack_36, ↓r_X8_comeBack_37, ↓r_X8_comeBack_38, ↓r_X8_comeBack_39, ↓r_X8_comeBack_40, ↓r_X8_comeBack_43, ↓r_X8_comeBack_44, ↓r_X8_comeBack_47, ↓r_X8_comeBack_50, ↓r_X8_comeBack_52, ↓r_X8_comeBack_54, ↓r_X8_comeBack_55, ↓r_X8_comeBack_58, ↓r_X8_comeBack_59, ↓r_X8_comeBack_62, ↓r_X8_comeBack_63, ↓r_X8_comeBack_66, ↓r_X8_comeBack_67, ↓r_X8_comeBack_68, ↓r_X8_comeBack_71, ↓r_X8_comeBack_73, ↓r_X8_comeBack_76, ↓r_X8_comeBack_77, ↓r_X8_comeBack_80, ↓r_X8_comeBack_82, ↓r_X8_comeBack_84, ↓r_X8_comeBack_85, ↓r_X8_comeBack_88, ↓r_X8_comeBack_89, ↓r_X8_comeBack_90, ↓r_X8_comeBack_92, ↓r_X8_comeBack_93, ↓r_X8_comeBack_96, ↓r_X8_comeBack_97, ↓r_X8_comeBack_100, ↓r_X8_comeBack_103, ↓r_X8_comeBack_104, ↓r_X8_comeBack_107, ↓r_X8_comeBack_110, ↓r_X8_comeBack_111, ↓r_X8_comeBack_112, ↓r_X8_comeBack_113, ↓r_X8_comeBack_116, ↓r_X8_comeBack_119, ↓r_X8_comeBack_120, ↓r_X8_comeBack_121, ↓r_X8_comeBack_124, ↓x2_1, ↓f7_12, ↓x0, ↓x8, ↓x4_2n, ↓x4_2i, ↓x4_2r, ↓x1_2, ↓f7_2, ↓x32_2, ↓x48_4, ↓f7_1, ↓x9, ↓x4_3n, ↓x4_3i, ↓x4_3r, ↓x2_0, ↓f7_9, ↓f7_7, ↓lf_X8_rowOf, ↓x5_4n, ↓x5_4i, ↓x5_4r, ↓x2_4, ↓x1_3, ↓v5_2, ↓f8_4, ↓f7_5, ↓f8_9, ↓v5_1, ↓x4_5n, ↓x4_5i, ↓x4_5r, ↓f7_0, ↓x1_5, ↓f8_8, ↓f8_2, ↓v5_5, ↓x31_1, ↓x31b1, ↓v8_3, ↓x33, ↓v8_2, ↓l_2, ↓l_3, ↓l_4, ↓l_5, ↓l_6, ↓l_7, ↓l_9, ↓l_10, ↓l_11, ↓l_12, ↓l_13, ↓l_15, ↓l_16, ↓l_r1, ↓l_r2, ↓l_w1, ↓l_w2, and_self, and_true, true_and, implies_true, true_implies, Int.reduceEq, Int.reduceLE, Int.reduceLT, not_true_eq_false, not_false_eq_true, false_implies, RTf_eq, z12]
    refine ⟨fun _ => ?_, fun f => absurd c f⟩
    refine ck_v cS (by omega) (by simp) ?_
    simp +contextual (disch := first | omega | exact Nat.le_of_ble_eq_true rfl | assumption) only [↓r_X8_comeBack_0, ↓r_X8_comeBack_1, ↓r_X8_comeBack_4, ↓r_X8_comeBack_5, ↓r_X8_comeBack_6, ↓r_X8_comeBack_7, ↓r_X8_comeBack_8, ↓r_X8_comeBack_9, ↓r_X8_comeBack_12, ↓r_X8_comeBack_15, ↓r_X8_comeBack_16, ↓r_X8_comeBack_17, ↓r_X8_comeBack_20, ↓r_X8_comeBack_21, ↓r_X8_comeBack_24, ↓r_X8_comeBack_25, ↓r_X8_comeBack_26, ↓r_X8_comeBack_27, ↓r_X8_comeBack_28, ↓r_X8_comeBack_31, ↓r_X8_comeBack_32, ↓r_X8_comeBack_35, ↓r_X8_comeBack_36, ↓r_X8_comeBack_37, ↓r_X8_comeBack_38, ↓r_X8_comeBack_39, ↓r_X8_comeBack_40, ↓r_X8_comeBack_43, ↓r_X8_comeBack_44, ↓r_X8_comeBack_47, ↓r_X8_comeBack_50, ↓r_X8_comeBack_52, ↓r_X8_comeBack_54, ↓r_X8_comeBack_55, ↓r_X8_comeBack_58, ↓r_X8_comeBack_59, ↓r_X8_comeBack_62, ↓r_X8_comeBack_63, ↓r_X8_comeBack_66, ↓r_X8_comeBack_67, ↓r_X8_comeBack_68, ↓r_X8_comeBack_71, ↓r_X8_comeBack_73, ↓r_X8_comeBack_76, ↓r_X8_comeBack_77, ↓r_X8_comeBack_80, ↓r_X8_comeBack_82, ↓r_X8_comeBack_84, ↓r_X8_comeBack_85, ↓r_X8_comeBack_88, ↓r_X8_comeBack_89, ↓r_X8_comeBack_90, ↓r_X8_comeBack_92, ↓r_X8_comeBack_93, ↓r_X8_comeBack_96, ↓r_X8_comeBack_97, ↓r_X8_comeBack_100, ↓r_X8_comeBack_103, ↓r_X8_comeBack_104, ↓r_X8_comeBack_107, ↓r_X8_comeBack_110, ↓r_X8_comeBack_111, ↓r_X8_comeBack_112, ↓r_X8_comeBack_113, ↓r_X8_comeBack_116, ↓r_X8_comeBack_119, ↓r_X8_comeBack_120, ↓r_X8_comeBack_121, ↓r_X8_comeBack_124, ↓x2_1, ↓f7_12, ↓x0, ↓x8, ↓x4_2n, ↓x4_2i, ↓x4_2r, ↓x1_2, ↓f7_2, ↓x32_2, ↓x48_4, ↓f7_1, ↓x9, ↓x4_3n, ↓x4_3i, ↓x4_3r, ↓x2_0, ↓f7_9, ↓f7_7, ↓lf_X8_rowOf, ↓x5_4n, ↓x5_4i, ↓x5_4r, ↓x2_4, ↓x1_3, ↓v5_2, ↓f8_4, ↓f7_5, ↓f8_9, ↓v5_1, ↓x4_5n, ↓x4_5i, ↓x4_5r, ↓f7_0, ↓x1_5, ↓f8_8, ↓f8_2, ↓v5_5, ↓x31_1, ↓x31b1, ↓v8_3, ↓x33, ↓v8_2, ↓l_2, ↓l_3, ↓l_4, ↓l_5, ↓l_6, ↓l_7, ↓l_9, ↓l_10, ↓l_11, ↓l_12, ↓l_13, ↓l_15, ↓l_16, ↓l_r1, ↓l_r2, ↓l_w1, ↓l_w2, and_self, and_true, true_and, implies_true, true_implies, Int.reduceEq, Int.reduceLE, Int.reduceLT, not_true_eq_false, not_false_eq_true, false_implies, RTf_eq]
    rw [eC]
end
