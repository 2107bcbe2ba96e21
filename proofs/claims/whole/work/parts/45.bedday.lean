/-! ===== level 2: a day of one bed, both sides ===== -/
section BD
variable {S S2 : Sg} {nC nR nT nK nL nM nP td N : Nat} {lh : Nat → Nat} {o : Option Nat} {c : Nat}
theorem m_nowo {w : Nat} {Q : Int32 → Prop} (h : IV S S2 nC nR nT nK nL nM nP td N lh) (ho : inF S2 (Int32.ofNat td) nL = o) (hw : w < 21) (k : Q (lawV S2 o w)) : P_X11_now 1000 (Int32.ofNat w) S2 Q := by
  obtain ⟨hk, hM, hS, hU, hA, hW, hB, hC, hR, hT, hK, hL, hZ, hP, hN⟩ := h
  refine m_now hM hL hw ?_
  rw [hZ.2.2.2.2.1, ho]
  exact k
theorem cntK_tell {k d c : Int32} : cntK S2 ≤ cntK (tellM S2 c k d) := by
  unfold tellM
  split
  · exact Nat.le_refl _
  · split
    · rename_i h2
      rw [cntK_new (by omega)]; omega
    · exact Nat.le_refl _
theorem cntK_pI {a k : Nat} {v : Int32} (h : ¬ (1000 = a ∧ 6 = k)) : cntK (pI S2 a k v) = cntK S2 := by
  unfold cntK; rw [sI_pI, if_neg h]
theorem cntK_pL {a k : Nat} {v : Int64} : cntK (pL S2 a k v) = cntK S2 := rfl
theorem cntK_aW {y : Nat} : cntK (aW S2 o y c) = cntK S2 := by
  unfold aW
  split
  · rw [cntK_pI (by omega)]
    split
    · rfl
    · rw [cntK_pI (by omega)]
  · rfl
theorem cntK_aB {td : Nat} : cntK (aB S2 o td c) = cntK S2 := by
  unfold aB aS aH
  rw [cntK_pI (by omega), cntK_pL, cntK_pI (by omega)]
  unfold aL
  split
  · rw [cntK_pI (by omega)]; exact cntK_pI (by omega)
  · exact cntK_pI (by omega)
theorem cntK_ages {td : Nat} : cntK S2 ≤ cntK (agesM S2 o td c) := by
  unfold agesM
  rw [cntK_aW]
  have e : cntK (aB S2 o td c) = cntK S2 := cntK_aB
  unfold aT
  split
  · have := cntK_tell (S2 := aB S2 o td c) (c := Int32.ofNat c) (k := 2) (d := Int32.ofNat td)
    omega
  · omega
/-- the four steps ahead of the complaint, for the object's store too -/
theorem iv_clog (h : IV S S2 nC nR nT nK nL nM nP td N lh) (hc : c < nC) (hb : ¬ sI S2 1112 c = 0) (hr : ∀ j, o = some j → j < nL) : IV (pI S (3000 + c) 4 (clogN S2 o c)) (aC S2 o c) nC nR nT nK nL nM nP td N lh := by
  have h0 := h
  obtain ⟨hk, hM, hS, hU, hA, hW, hB, hC, hR, hT, hK, hL, hZ, hP, hN⟩ := h
  have b0 := (hB c (by have := hC.2.1; omega)).2.1
  exact iv_bed h0 hc hb (by omega) ⟨fun _ => rg_clog b0.1 (lawV_rg hL hr (by omega)), fun z => absurd z (by decide), fun z => absurd z (by decide), fun z => absurd z (by decide)⟩
theorem iv_leaf (h : IV S S2 nC nR nT nK nL nM nP td N lh) (hc : c < nC) (hb : ¬ sI S2 1112 c = 0) : IV (pI S (3000 + c) 5 (leafN S2 c)) (pI S2 1119 c (leafN S2 c)) nC nR nT nK nL nM nP td N lh := by
  have h0 := h
  obtain ⟨hk, hM, hS, hU, hA, hW, hB, hC, hR, hT, hK, hL, hZ, hP, hN⟩ := h
  have b0 := (hB c (by have := hC.2.1; omega)).2.1
  exact iv_bed h0 hc hb (by omega) ⟨fun z => absurd z (by decide), fun _ => rg_leaf b0.2.1, fun z => absurd z (by decide), fun z => absurd z (by decide)⟩
def sipS (S S2 : Sg) (c : Nat) : Sg := pL (pI (pI S (3000 + c) 8 (sI S2 1121 c - sipN S2 c)) (3000 + c) 9 (if sI S2 1121 c - sipN S2 c ≤ 0 then 0 else sI S2 1122 c + 1)) 1054 1 (sL S 1054 1 + (sipN S2 c).toInt64)
theorem iv_sip (h : IV S S2 nC nR nT nK nL nM nP td N lh) (hc : c < nC) (hb : ¬ sI S2 1112 c = 0) : IV (sipS S S2 c) (aS (aH S2 c) c) nC nR nT nK nL nM nP td N lh := by
  have h0 := h
  obtain ⟨hk, hM, hS, hU, hA, hW, hB, hC, hR, hT, hK, hL, hZ, hP, hN⟩ := h
  obtain ⟨-, b0, -, bb⟩ := hB c (by have := hC.2.1; omega)
  have h1 := iv_bed (f := 8) (a := 1121) (v := sI S2 1121 c - sipN S2 c) h0 hc hb (by omega) ⟨fun z => absurd z (by decide), fun z => absurd z (by decide), fun _ => rg_sip (rg_drk (rg_full hA (bb hb).2.1) b0.1) b0.2.2, fun z => absurd z (by decide)⟩
  have h2 := iv_drunk (d := (sipN S2 c).toInt64) h1
  have h3 := iv_bed (f := 9) (a := 1122) (v := if sI S2 1121 c - sipN S2 c ≤ 0 then 0 else sI S2 1122 c + 1) h2 hc (by simp (disch := first | omega | decide) only [Option.some.injEq, exists_eq_left', exists_eq_left, forall_eq, forall_eq', true_and, and_true, true_implies, implies_true, false_implies, not_true_eq_false, not_false_eq_true, reduceCtorEq, and_self, forall_const, i10, i01, if_true, if_false, and_false, false_and, Nat.not_lt_zero, sK_pI, sN_pI, sR_pI, sL_pI, sK_pL, sN_pL, sR_pL, sI_pL, sK_pR, sN_pR, sI_pR, sL_pR, sI_pI_eq, sI_pI_ne, sL_pL_eq, sL_pL_ne, sR_pR_eq, sR_pR_ne, nn_le, nat32_lt, nn_eq, ln_le, nl_le, ln_lt, nl_lt, ln_eq, nl_eq, n_m1, n_lt0, vp_n, vp_l, lc_n, nat32c, n_s, nI_n, hb]) (by omega) ⟨fun z => absurd z (by decide), fun z => absurd z (by decide), fun z => absurd z (by decide), fun z => absurd z (by decide)⟩
  have e : aS (aH S2 c) c = pI (pL (pI S2 1121 c (sI S2 1121 c - sipN S2 c)) 1000 36 (sL (pI S2 1121 c (sI S2 1121 c - sipN S2 c)) 1000 36 + (sipN S2 c).toInt64)) 1122 c (if sI S2 1121 c - sipN S2 c ≤ 0 then 0 else sI S2 1122 c + 1) := by
    unfold aS aH
    simp (disch := first | omega | decide) only [Option.some.injEq, exists_eq_left', exists_eq_left, forall_eq, forall_eq', true_and, and_true, true_implies, implies_true, false_implies, not_true_eq_false, not_false_eq_true, reduceCtorEq, and_self, forall_const, i10, i01, if_true, if_false, and_false, false_and, Nat.not_lt_zero, sK_pI, sN_pI, sR_pI, sL_pI, sK_pL, sN_pL, sR_pL, sI_pL, sK_pR, sN_pR, sI_pR, sL_pR, sI_pI_eq, sI_pI_ne, sL_pL_eq, sL_pL_ne, sR_pR_eq, sR_pR_ne, nn_le, nat32_lt, nn_eq, ln_le, nl_le, ln_lt, nl_lt, ln_eq, nl_eq, n_m1, n_lt0, vp_n, vp_l, lc_n, nat32c, n_s, nI_n, true_and]
  rw [e]
  exact h3
theorem hb_aC : sI (aC S2 o c) 1112 c = sI S2 1112 c := by unfold aC; simp (disch := first | omega | decide) only [Option.some.injEq, exists_eq_left', exists_eq_left, forall_eq, forall_eq', true_and, and_true, true_implies, implies_true, false_implies, not_true_eq_false, not_false_eq_true, reduceCtorEq, and_self, forall_const, i10, i01, if_true, if_false, and_false, false_and, Nat.not_lt_zero, sK_pI, sN_pI, sR_pI, sL_pI, sK_pL, sN_pL, sR_pL, sI_pL, sK_pR, sN_pR, sI_pR, sL_pR, sI_pI_eq, sI_pI_ne, sL_pL_eq, sL_pL_ne, sR_pR_eq, sR_pR_ne, nn_le, nat32_lt, nn_eq, ln_le, nl_le, ln_lt, nl_lt, ln_eq, nl_eq, n_m1, n_lt0, vp_n, vp_l, lc_n, nat32c, n_s, nI_n, true_and]
theorem hb_aL {y : Nat} : sI (aL S2 o y c) 1112 c = sI S2 1112 c := by
  unfold aL
  split
  · simp (disch := first | omega | decide) only [Option.some.injEq, exists_eq_left', exists_eq_left, forall_eq, forall_eq', true_and, and_true, true_implies, implies_true, false_implies, not_true_eq_false, not_false_eq_true, reduceCtorEq, and_self, forall_const, i10, i01, if_true, if_false, and_false, false_and, Nat.not_lt_zero, sK_pI, sN_pI, sR_pI, sL_pI, sK_pL, sN_pL, sR_pL, sI_pL, sK_pR, sN_pR, sI_pR, sL_pR, sI_pI_eq, sI_pI_ne, sL_pL_eq, sL_pL_ne, sR_pR_eq, sR_pR_ne, nn_le, nat32_lt, nn_eq, ln_le, nl_le, ln_lt, nl_lt, ln_eq, nl_eq, n_m1, n_lt0, vp_n, vp_l, lc_n, nat32c, n_s, nI_n, true_and]
  · rfl
theorem hb_aSH : sI (aS (aH S2 c) c) 1112 c = sI S2 1112 c := by unfold aS aH; simp (disch := first | omega | decide) only [Option.some.injEq, exists_eq_left', exists_eq_left, forall_eq, forall_eq', true_and, and_true, true_implies, implies_true, false_implies, not_true_eq_false, not_false_eq_true, reduceCtorEq, and_self, forall_const, i10, i01, if_true, if_false, and_false, false_and, Nat.not_lt_zero, sK_pI, sN_pI, sR_pI, sL_pI, sK_pL, sN_pL, sR_pL, sI_pL, sK_pR, sN_pR, sI_pR, sL_pR, sI_pI_eq, sI_pI_ne, sL_pL_eq, sL_pL_ne, sR_pR_eq, sR_pR_ne, nn_le, nat32_lt, nn_eq, ln_le, nl_le, ln_lt, nl_lt, ln_eq, nl_eq, n_m1, n_lt0, vp_n, vp_l, lc_n, nat32c, n_s, nI_n, true_and]
theorem x_bedDay {b : Nat × Nat} {Q : Unit → Sg → Prop} {K : Int32 → Sg → Nat × Nat → Prop} (h : IV S S2 nC nR nT nK nL nM nP td N lh) (hc : c < nC) (hr : ∀ j, o = some j → j < nL) (hbb : ¬ sI S2 1112 c = 0 → 2 * (cntK (agesM S2 o td c) - nK) ≤ b.1 ∧ 136 * (cntK (agesM S2 o td c) - nK) ≤ b.2) (k0 : sI S2 1112 c = 0 → K (Int32.ofNat (c + 1)) S (b.1, b.2)) (k1 : ¬ sI S2 1112 c = 0 → ∀ S' nK' N' b', IV S' (agesM S2 o td c) nC nR nT nK' nL nM nP td N' lh → b.1 - 2 * (nK' - nK) ≤ b'.1 → b.2 - 136 * (nK' - nK) ≤ b'.2 → K (Int32.ofNat (c + 1)) S' b') : P_X10_goBy_L11b 1000 (some (lawH lh o)) (Int32.ofNat (td % 365)) (Int32.ofNat c) S b Q K := by
  have h0 := h
  obtain ⟨hk, hM, hS, hU, hA, hW, hB, hC, hR, hT, hK, hL, hZ, hP, hN⟩ := h
  have hn := hC.2.1
  have hcE := hC.2.2.2.1 c hc
  unfold P_X10_goBy_L11b
  refine ⟨hS.1.1, 1001, hS.1.2.1, hC.1.1, p_size hC.1 ⟨fun e => absurd ((nn_le (by omega) (by omega)).mp e) (by omega), fun _ => ⟨1001, hS.1.2.1, hC.1.1, p_get hC.1 hc ⟨_, rfl, hcE.1, fun r17 hr17 => ?_⟩⟩⟩⟩
  rw [hcE.2.2.2.2.2.2.2.2.2] at hr17
  by_cases hb : sI S2 1112 c = 0
  · rw [if_pos hb] at hr17
    subst hr17
    refine ⟨fun _ x hx => ?_, fun c19 h19 => by cases h19⟩
    rw [hx, n_s]; exact k0 hb
  rw [if_neg hb] at hr17
  subst hr17
  refine And.intro (fun z => absurd z (by simp)) (fun c19 h19 => ?_)
  cases h19
  obtain ⟨be, bb⟩ := (hB c (by omega)).2.2.2 hb
  obtain ⟨hb1, hb2⟩ := hbb hb
  refine ⟨be.1, x_clogUp h0 hc hb hr ?_⟩
  have h1 := iv_clog h0 hc hb hr
  have hb1' : ¬ sI (aC S2 o c) 1112 c = 0 := by rw [hb_aC]; exact hb
  -- from the leaves on
  have rest : ∀ T, IV T (aL (aC S2 o c) o (td % 365) c) nC nR nT nK nL nM nP td N lh → ∃ c33 : Nat, sR T 1000 13 = some c33 ∧ sK T c33 % 32 = 17 ∧ vp_in 1 (sN T c33) ∧ P_X0_drinkForADay (3000 + c) (sR T 1000 8) T (fun x37 σ38 => vp_in 1 (sN σ38 c33) ∧ ∀ σ44 : Sg, σ44 = pL σ38 c33 (1 : Int32).toNatClampNeg ((sL T c33 (1 : Int32).toNatClampNeg) + x37.toInt64) → P_X0_standsTooLong (3000 + c) (some (lawH lh o)) σ44 (fun x47 => (x47 = 0 → P_X10_goBy_B91 1000 (some (lawH lh o)) (Int32.ofNat (td % 365)) (Int32.ofNat c) (some (3000 + c)) σ44 (b.1, b.2) Q K) ∧ (¬ (x47 = 0) → ∃ bc51 : Nat × Nat, bc51.1 ≤ b.1 ∧ bc51.2 ≤ b.2 ∧ (∀ z, some (lawH lh o) = some z → ¬ sK σ44 z = 0) ∧ P_X10_tellComplaint 1000 (Int32.ofNat c) 2 σ44 bc51 (fun x49 σ50 => P_X10_goBy_B91 1000 (some (lawH lh o)) (Int32.ofNat (td % 365)) (Int32.ofNat c) (some (3000 + c)) σ50 (b.1 - bc51.1, b.2 - bc51.2) Q K)))) := fun T hT => by
    have hT0 := hT
    obtain ⟨tk, tM, tS, tU, tA, tW, tB, tC, tR, tT, tK, tL, tZ, tP, tN⟩ := hT
    have o1 := tS.1
    have o2 := tS.2.1
    have hbT : ¬ sI (aL (aC S2 o c) o (td % 365) c) 1112 c = 0 := by rw [hb_aL]; exact hb1'
    have l1 : (1 : Int32).toNatClampNeg = 1 := by decide
    rw [l1]
    have v1 : vp_in 1 (sN T 1054) := by
      simp (disch := first | omega | decide) only [Option.some.injEq, exists_eq_left', exists_eq_left, forall_eq, forall_eq', true_and, and_true, true_implies, implies_true, false_implies, not_true_eq_false, not_false_eq_true, reduceCtorEq, and_self, forall_const, i10, i01, if_true, if_false, and_false, false_and, Nat.not_lt_zero, sK_pI, sN_pI, sR_pI, sL_pI, sK_pL, sN_pL, sR_pL, sI_pL, sK_pR, sN_pR, sI_pR, sL_pR, sI_pI_eq, sI_pI_ne, sL_pL_eq, sL_pL_ne, sR_pR_eq, sR_pR_ne, nn_le, nat32_lt, nn_eq, ln_le, nl_le, ln_lt, nl_lt, ln_eq, nl_eq, n_m1, n_lt0, vp_n, vp_l, lc_n, nat32c, n_s, nI_n, o2]
      omega
    refine ⟨1054, o1.2.2.2.2.2.2.2.2.2.2.2.2.2.2, o2.2.2.2.2.2.2.2.2.2.2.2.2.2.2.2.2.2.2.2.2.2.2.2.1, v1, ?_⟩
    rw [o1.2.2.2.2.2.2.2.2.2.1]
    refine x_drinkDay hT0 hc hbT ⟨v1, fun σ44 e44 => ?_⟩
    have h4 := iv_sip hT0 hc hbT
    have e4 : σ44 = sipS T (aL (aC S2 o c) o (td % 365) c) c := e44
    rw [← e4] at h4
    have h4 : IV σ44 (aB S2 o td c) nC nR nT nK nL nM nP td N lh := h4
    have hb4 : ¬ sI (aB S2 o td c) 1112 c = 0 := by unfold aB; rw [hb_aSH]; exact hbT
    have h40 := h4
    obtain ⟨uk, uM, uS, uU, uA, uW, uB, uC, uR, uT, uK, uL, uZ, uP, uN⟩ := h4
    have cT : cntK (aT (aB S2 o td c) o td c) = cntK (agesM S2 o td c) := by unfold agesM; rw [cntK_aW]
    -- behind the complaint
    have fin : ∀ U nK' N' b', IV U (aT (aB S2 o td c) o td c) nC nR nT nK' nL nM nP td N' lh → b.1 - 2 * (nK' - nK) ≤ b'.1 → b.2 - 136 * (nK' - nK) ≤ b'.2 → P_X10_goBy_B91 1000 (some (lawH lh o)) (Int32.ofNat (td % 365)) (Int32.ofNat c) (some (3000 + c)) U b' Q K := fun U nK' N' b' hU' c1 c2 => by
      have hbU : ¬ sI (aT (aB S2 o td c) o td c) 1112 c = 0 := by
        unfold aT
        split
        · rw [vwI ((tellM_fr h40).2.1 1112 (by omega) (by omega))]; exact hb4
        · exact hb4
      have hBu := hU'.2.2.2.2.2.2.1
      unfold P_X10_goBy_B91 P_X10_goBy_B98
      refine ⟨_, rfl, ((hBu c (by omega)).2.2.2 hbU).1.1, x_thaw hU' hc hbU hr (by omega) (fun S' hS' x hx => ?_)⟩
      rw [hx, n_s]
      exact k1 hb S' nK' N' (b'.1, b'.2) hS' c1 c2
    refine x_stands h40 hc hb4 hr (fun hs => ⟨fun z => absurd z (by decide), fun _ => ?_⟩) (fun hs => ⟨fun _ => ?_, fun z => absurd rfl z⟩)
    · have eT : aT (aB S2 o td c) o td c = tellM (aB S2 o td c) (Int32.ofNat c) 2 (Int32.ofNat td) := by unfold aT; rw [if_pos hs]
      refine ⟨(2 * (cntK (agesM S2 o td c) - nK), 136 * (cntK (agesM S2 o td c) - nK)), hb1, hb2, fun z hz => ?_, x_tellIV h40 ?_ ?_ (fun r S' nK' N' hS' hle => ?_)⟩
      · cases hz
        have := lawH_k uS uL hr
        omega
      · rw [← cT, eT]; exact Nat.le_refl _
      · rw [← cT, eT]; exact Nat.le_refl _
      · rw [← eT] at hS'
        have ck := cntK_e hS'.2.2.2.2.2.2.2.2.2.2.1
        rw [cT] at ck
        rw [ck]
        exact fin S' nK' N' _ hS' (Nat.le_refl _) (Nat.le_refl _)
    · have eT : aT (aB S2 o td c) o td c = aB S2 o td c := by unfold aT; rw [if_neg hs]
      have h5 := h40
      rw [← eT] at h5
      exact fin σ44 nK N _ h5 (by omega) (by omega)
  refine x_shed h1 hc hb1' hr (fun hf => rest _ ?_) (fun hf => rest _ ?_)
  · have h2 := iv_leaf h1 hc hb1'
    have e : aL (aC S2 o c) o (td % 365) c = pI (aC S2 o c) 1119 c (leafN (aC S2 o c) c) := by unfold aL; rw [if_pos hf]
    rw [e]; exact h2
  · have e : aL (aC S2 o c) o (td % 365) c = aC S2 o c := by unfold aL; rw [if_neg hf]
    rw [e]; exact h1
/-! the reference's side -/
theorem m_aW {y : Nat} {Q : Unit → Sg → Prop} (hM : MW S2) (hc : c < 12) (hy : y < 365) (hn : ∀ {Q : Int32 → Prop}, Q (lawV S2 o 5) → P_X11_now 1000 5 S2 Q) (k : Q () (aW S2 o y c)) : P_X11_ages_B232 1000 (Int32.ofNat c) (Int32.ofNat y) S2 Q := by
  unfold aW at k
  unfold P_X11_ages_B232 P_X11_ages_B260
  by_cases y6 : y = 60
  · subst y6
    rw [if_pos rfl] at k
    refine ⟨fun _ => ⟨hM.o, 1120, hM.a20.1, hM.a20.2.1, by simp (disch := first | omega | decide) only [Option.some.injEq, exists_eq_left', exists_eq_left, forall_eq, forall_eq', true_and, and_true, true_implies, implies_true, false_implies, not_true_eq_false, not_false_eq_true, reduceCtorEq, and_self, forall_const, i10, i01, if_true, if_false, and_false, false_and, Nat.not_lt_zero, sK_pI, sN_pI, sR_pI, sL_pI, sK_pL, sN_pL, sR_pL, sI_pL, sK_pR, sN_pR, sI_pR, sL_pR, sI_pI_eq, sI_pI_ne, sL_pL_eq, sL_pL_ne, sR_pR_eq, sR_pR_ne, nn_le, nat32_lt, nn_eq, ln_le, nl_le, ln_lt, nl_lt, ln_eq, nl_eq, n_m1, n_lt0, vp_n, vp_l, lc_n, nat32c, n_s, nI_n, hM.a20, hc], hn ⟨fun z => ?_, fun z => ?_⟩⟩, fun z => absurd rfl z⟩
    · rw [nat32c (by omega)] at z
      rw [if_pos z] at k
      simp (disch := first | omega | decide) only [Option.some.injEq, exists_eq_left', exists_eq_left, forall_eq, forall_eq', true_and, and_true, true_implies, implies_true, false_implies, not_true_eq_false, not_false_eq_true, reduceCtorEq, and_self, forall_const, i10, i01, if_true, if_false, and_false, false_and, Nat.not_lt_zero, sK_pI, sN_pI, sR_pI, sL_pI, sK_pL, sN_pL, sR_pL, sI_pL, sK_pR, sN_pR, sI_pR, sL_pR, sI_pI_eq, sI_pI_ne, sL_pL_eq, sL_pL_ne, sR_pR_eq, sR_pR_ne, nn_le, nat32_lt, nn_eq, ln_le, nl_le, ln_lt, nl_lt, ln_eq, nl_eq, n_m1, n_lt0, vp_n, vp_l, lc_n, nat32c, n_s, nI_n, hM.o, hM.a20, hc]
      exact k
    · rw [nat32c (by omega)] at z
      rw [if_neg z] at k
      simp (disch := first | omega | decide) only [Option.some.injEq, exists_eq_left', exists_eq_left, forall_eq, forall_eq', true_and, and_true, true_implies, implies_true, false_implies, not_true_eq_false, not_false_eq_true, reduceCtorEq, and_self, forall_const, i10, i01, if_true, if_false, and_false, false_and, Nat.not_lt_zero, sK_pI, sN_pI, sR_pI, sL_pI, sK_pL, sN_pL, sR_pL, sI_pL, sK_pR, sN_pR, sI_pR, sL_pR, sI_pI_eq, sI_pI_ne, sL_pL_eq, sL_pL_ne, sR_pR_eq, sR_pR_ne, nn_le, nat32_lt, nn_eq, ln_le, nl_le, ln_lt, nl_lt, ln_eq, nl_eq, n_m1, n_lt0, vp_n, vp_l, lc_n, nat32c, n_s, nI_n, hM.o, hM.a14, hM.a20, hc]
      exact k
  · rw [if_neg y6] at k
    simp (disch := first | omega | decide) only [Option.some.injEq, exists_eq_left', exists_eq_left, forall_eq, forall_eq', true_and, and_true, true_implies, implies_true, false_implies, not_true_eq_false, not_false_eq_true, reduceCtorEq, and_self, forall_const, i10, i01, if_true, if_false, and_false, false_and, Nat.not_lt_zero, sK_pI, sN_pI, sR_pI, sL_pI, sK_pL, sN_pL, sR_pL, sI_pL, sK_pR, sN_pR, sI_pR, sL_pR, sI_pI_eq, sI_pI_ne, sL_pL_eq, sL_pL_ne, sR_pR_eq, sR_pR_ne, nn_le, nat32_lt, nn_eq, ln_le, nl_le, ln_lt, nl_lt, ln_eq, nl_eq, n_m1, n_lt0, vp_n, vp_l, lc_n, nat32c, n_s, nI_n, y6]
    exact k
theorem m_ages {Q : Unit → Sg → Prop} (h : IV S S2 nC nR nT nK nL nM nP td N lh) (ho : inF S2 (Int32.ofNat td) nL = o) (hc : c < nC) (hb : ¬ sI S2 1112 c = 0) (k : Q () (agesM S2 o td c)) : P_X11_ages 1000 (Int32.ofNat c) S2 Q := by
  have h0 := h
  have hr : ∀ j, o = some j → j < nL := fun j hj => by rw [← ho] at hj; exact inF_lt hj
  obtain ⟨hk, hM, hS, hU, hA, hW, hB, hC, hR, hT, hK, hL, hZ, hP, hN⟩ := h
  have hn := hC.2.1
  have h12 : c < 12 := by omega
  have htd : td < 4000 := by have := hZ.2.2.2.2.2.1; omega
  obtain ⟨be, bb⟩ := (hB c h12).2.2.2 hb
  have h1 := iv_clog h0 hc hb hr
  have hb1 : ¬ sI (aC S2 o c) 1112 c = 0 := by rw [hb_aC]; exact hb
  have ho1 : inF (aC S2 o c) (Int32.ofNat td) nL = o := by rw [inF_keep (S2 := S2) (by unfold aC; simp (disch := first | omega | decide) only [vw_pI])]; exact ho
  -- from the bowl on
  have rest : ∀ T, IV T (aL (aC S2 o c) o (td % 365) c) nC nR nT nK nL nM nP td N lh → inF (aL (aC S2 o c) o (td % 365) c) (Int32.ofNat td) nL = o → P_X11_ages_B139 1000 (Int32.ofNat c) (Int32.ofNat (td % 365)) (aL (aC S2 o c) o (td % 365) c) Q := fun T hT hoT => by
    have hT0 := hT
    obtain ⟨tk, tM, tS, tU, tA, tW, tB, tC, tR, tT, tK, tL, tZ, tP, tN⟩ := hT
    have hbT : ¬ sI (aL (aC S2 o c) o (td % 365) c) 1112 c = 0 := by rw [hb_aL]; exact hb1
    have lotT := ((tB c h12).2.2.2 hbT).2.1
    have h4 := iv_sip hT0 hc hbT
    have e5 : aS (aH (aL (aC S2 o c) o (td % 365) c) c) c = aB S2 o td c := rfl
    have b207 : P_X11_ages_B207 1000 (Int32.ofNat c) (Int32.ofNat (td % 365)) (some 1122) (Int32.ofNat c) (if sI (aH (aL (aC S2 o c) o (td % 365) c) c) 1121 c ≤ 0 then 0 else sI (aH (aL (aC S2 o c) o (td % 365) c) c) 1122 c + 1) (aH (aL (aC S2 o c) o (td % 365) c) c) Q := by
      have hMH : MW (aH (aL (aC S2 o c) o (td % 365) c) c) := mw_pL (mw_pI tM (by omega)) (by omega)
      unfold P_X11_ages_B207
      have h40 := h4
      obtain ⟨uk, uM, uS, uU, uA, uW, uB, uC, uR, uT, uK, uL, uZ, uP, uN⟩ := h4
      have hoS : inF (aS (aH (aL (aC S2 o c) o (td % 365) c) c) c) (Int32.ofNat td) nL = o := by rw [inF_keep (S2 := aL (aC S2 o c) o (td % 365) c) (by unfold aS aH; simp (disch := first | omega | decide) only [vw_pI, vw_pL])]; exact hoT
      refine ⟨1122, rfl, hMH.a22.2.1, by simp (disch := first | omega | decide) only [Option.some.injEq, exists_eq_left', exists_eq_left, forall_eq, forall_eq', true_and, and_true, true_implies, implies_true, false_implies, not_true_eq_false, not_false_eq_true, reduceCtorEq, and_self, forall_const, i10, i01, if_true, if_false, and_false, false_and, Nat.not_lt_zero, sK_pI, sN_pI, sR_pI, sL_pI, sK_pL, sN_pL, sR_pL, sI_pL, sK_pR, sN_pR, sI_pR, sL_pR, sI_pI_eq, sI_pI_ne, sL_pL_eq, sL_pL_ne, sR_pR_eq, sR_pR_ne, nn_le, nat32_lt, nn_eq, ln_le, nl_le, ln_lt, nl_lt, ln_eq, nl_eq, n_m1, n_lt0, vp_n, vp_l, lc_n, nat32c, n_s, nI_n, hMH.a22, h12], fun σ92 e92 => ?_⟩
      have e92 : σ92 = aS (aH (aL (aC S2 o c) o (td % 365) c) c) c := by rw [e92, nat32c (by omega)]; rfl
      rw [e92]
      refine ⟨uM.o, 1122, uM.a22.1, uM.a22.2.1, by simp (disch := first | omega | decide) only [Option.some.injEq, exists_eq_left', exists_eq_left, forall_eq, forall_eq', true_and, and_true, true_implies, implies_true, false_implies, not_true_eq_false, not_false_eq_true, reduceCtorEq, and_self, forall_const, i10, i01, if_true, if_false, and_false, false_and, Nat.not_lt_zero, sK_pI, sN_pI, sR_pI, sL_pI, sK_pL, sN_pL, sR_pL, sI_pL, sK_pR, sN_pR, sI_pR, sL_pR, sI_pI_eq, sI_pI_ne, sL_pL_eq, sL_pL_ne, sR_pR_eq, sR_pR_ne, nn_le, nat32_lt, nn_eq, ln_le, nl_le, ln_lt, nl_lt, ln_eq, nl_eq, n_m1, n_lt0, vp_n, vp_l, lc_n, nat32c, n_s, nI_n, uM.a22, h12], m_nowo (w := 6) h40 hoS (by omega) ⟨fun z => m_tellM h40 hc (fun r => ?_), fun z => ?_⟩⟩
      · rw [nat32c (by omega)] at z
        have z : sI (aB S2 o td c) 1122 c = lawV (aB S2 o td c) o 6 + 1 := z
        have eT : aT (aB S2 o td c) o td c = tellM (aB S2 o td c) (Int32.ofNat c) 2 (Int32.ofNat td) := by unfold aT; rw [if_pos z]
        unfold agesM at k
        rw [eT] at k
        obtain ⟨f1, f2, f3⟩ := tellM_fr (c := Int32.ofNat c) (k := 2) h40
        refine m_aW (o := o) f1 h12 (by omega) (fun {Q} kk => ?_) k
        refine m_now (w := 5) (nL := nL) (S := S) (lh := lh) f1 (hL.keep (fun x _ => rfl) (fun x h1 h2 => ?_) ?_) (by omega) ?_
        · rw [f2 x (by omega) (by omega)]
          unfold aS aH aL
          split
          · unfold aC; simp (disch := first | omega | decide) only [vw_pI, vw_pL]
          · unfold aC; simp (disch := first | omega | decide) only [vw_pI, vw_pL]
        · rw [f3 67 (by omega), uL.2.2.1, hL.2.2.1]
        · rw [f3 0 (by omega), uZ.2.2.2.2.1, inF_keep (f2 1169 (by omega) (by omega)), hoS]
          exact kk
      · rw [nat32c (by omega)] at z
        have z : ¬ sI (aB S2 o td c) 1122 c = lawV (aB S2 o td c) o 6 + 1 := z
        have eT : aT (aB S2 o td c) o td c = aB S2 o td c := by unfold aT; rw [if_neg z]
        unfold agesM at k
        rw [eT] at k
        exact m_aW uM h12 (by omega) (fun {Q} kk => m_nowo (w := 5) h40 hoS (by omega) kk) k
    unfold P_X11_ages_B139
    refine ⟨tM.o, 1121, tM.a21.1, tM.a21.2.1, by simp (disch := first | omega | decide) only [Option.some.injEq, exists_eq_left', exists_eq_left, forall_eq, forall_eq', true_and, and_true, true_implies, implies_true, false_implies, not_true_eq_false, not_false_eq_true, reduceCtorEq, and_self, forall_const, i10, i01, if_true, if_false, and_false, false_and, Nat.not_lt_zero, sK_pI, sN_pI, sR_pI, sL_pI, sK_pL, sN_pL, sR_pL, sI_pL, sK_pR, sN_pR, sI_pR, sL_pR, sI_pI_eq, sI_pI_ne, sL_pL_eq, sL_pL_ne, sR_pR_eq, sR_pR_ne, nn_le, nat32_lt, nn_eq, ln_le, nl_le, ln_lt, nl_lt, ln_eq, nl_eq, n_m1, n_lt0, vp_n, vp_l, lc_n, nat32c, n_s, nI_n, tM.a21, h12], (mdrink_e tM lotT h12).mpr (fun x57 hx57 => ?_)⟩
    rw [nat32c (by omega)] at hx57
    have hx57 : x57 = sipN (aL (aC S2 o c) o (td % 365) c) c := hx57
    subst hx57
    have hMH : MW (aH (aL (aC S2 o c) o (td % 365) c) c) := mw_pL (mw_pI tM (by omega)) (by omega)
    refine ⟨1121, tM.a21.1, tM.a21.2.1, by simp (disch := first | omega | decide) only [Option.some.injEq, exists_eq_left', exists_eq_left, forall_eq, forall_eq', true_and, and_true, true_implies, implies_true, false_implies, not_true_eq_false, not_false_eq_true, reduceCtorEq, and_self, forall_const, i10, i01, if_true, if_false, and_false, false_and, Nat.not_lt_zero, sK_pI, sN_pI, sR_pI, sL_pI, sK_pL, sN_pL, sR_pL, sI_pL, sK_pR, sN_pR, sI_pR, sL_pR, sI_pI_eq, sI_pI_ne, sL_pL_eq, sL_pL_ne, sR_pR_eq, sR_pR_ne, nn_le, nat32_lt, nn_eq, ln_le, nl_le, ln_lt, nl_lt, ln_eq, nl_eq, n_m1, n_lt0, vp_n, vp_l, lc_n, nat32c, n_s, nI_n, tM.a21, h12], by simp (disch := first | omega | decide) only [Option.some.injEq, exists_eq_left', exists_eq_left, forall_eq, forall_eq', true_and, and_true, true_implies, implies_true, false_implies, not_true_eq_false, not_false_eq_true, reduceCtorEq, and_self, forall_const, i10, i01, if_true, if_false, and_false, false_and, Nat.not_lt_zero, sK_pI, sN_pI, sR_pI, sL_pI, sK_pL, sN_pL, sR_pL, sI_pL, sK_pR, sN_pR, sI_pR, sL_pR, sI_pI_eq, sI_pI_ne, sL_pL_eq, sL_pL_ne, sR_pR_eq, sR_pR_ne, nn_le, nat32_lt, nn_eq, ln_le, nl_le, ln_lt, nl_lt, ln_eq, nl_eq, n_m1, n_lt0, vp_n, vp_l, lc_n, nat32c, n_s, nI_n, tM.a21, h12], fun σ64 e64 σ67 e67 => ?_⟩
    have e67 : σ67 = aH (aL (aC S2 o c) o (td % 365) c) c := by rw [e67, e64, nat32c (by omega)]; rfl
    rw [e67, hMH.a22.1]
    refine ⟨1121, hMH.a21.1, hMH.a21.2.1, by simp (disch := first | omega | decide) only [Option.some.injEq, exists_eq_left', exists_eq_left, forall_eq, forall_eq', true_and, and_true, true_implies, implies_true, false_implies, not_true_eq_false, not_false_eq_true, reduceCtorEq, and_self, forall_const, i10, i01, if_true, if_false, and_false, false_and, Nat.not_lt_zero, sK_pI, sN_pI, sR_pI, sL_pI, sK_pL, sN_pL, sR_pL, sI_pL, sK_pR, sN_pR, sI_pR, sL_pR, sI_pI_eq, sI_pI_ne, sL_pL_eq, sL_pL_ne, sR_pR_eq, sR_pR_ne, nn_le, nat32_lt, nn_eq, ln_le, nl_le, ln_lt, nl_lt, ln_eq, nl_eq, n_m1, n_lt0, vp_n, vp_l, lc_n, nat32c, n_s, nI_n, hMH.a21, h12], fun z => ?_, fun z => ⟨1122, rfl, hMH.a22.2.1, by simp (disch := first | omega | decide) only [Option.some.injEq, exists_eq_left', exists_eq_left, forall_eq, forall_eq', true_and, and_true, true_implies, implies_true, false_implies, not_true_eq_false, not_false_eq_true, reduceCtorEq, and_self, forall_const, i10, i01, if_true, if_false, and_false, false_and, Nat.not_lt_zero, sK_pI, sN_pI, sR_pI, sL_pI, sK_pL, sN_pL, sR_pL, sI_pL, sK_pR, sN_pR, sI_pR, sL_pR, sI_pI_eq, sI_pI_ne, sL_pL_eq, sL_pL_ne, sR_pR_eq, sR_pR_ne, nn_le, nat32_lt, nn_eq, ln_le, nl_le, ln_lt, nl_lt, ln_eq, nl_eq, n_m1, n_lt0, vp_n, vp_l, lc_n, nat32c, n_s, nI_n, hMH.a22, h12], ?_⟩⟩
    · rw [nat32c (by omega)] at z
      rw [if_pos z] at b207
      exact b207
    · rw [nat32c (by omega)] at z ⊢
      rw [if_neg z] at b207
      exact b207
  have b32 : P_X11_ages_B32 1000 (Int32.ofNat c) (clogM S2 o c) S2 Q := by
    have h10 := h1
    obtain ⟨tk, tM, tS, tU, tA, tW, tB, tC, tR, tT, tK, tL, tZ, tP, tN⟩ := h1
    unfold P_X11_ages_B32
    refine ⟨hM.o, 1118, hM.a18.1, hM.a18.2.1, by simp (disch := first | omega | decide) only [Option.some.injEq, exists_eq_left', exists_eq_left, forall_eq, forall_eq', true_and, and_true, true_implies, implies_true, false_implies, not_true_eq_false, not_false_eq_true, reduceCtorEq, and_self, forall_const, i10, i01, if_true, if_false, and_false, false_and, Nat.not_lt_zero, sK_pI, sN_pI, sR_pI, sL_pI, sK_pL, sN_pL, sR_pL, sI_pL, sK_pR, sN_pR, sI_pR, sL_pR, sI_pI_eq, sI_pI_ne, sL_pL_eq, sL_pL_ne, sR_pR_eq, sR_pR_ne, nn_le, nat32_lt, nn_eq, ln_le, nl_le, ln_lt, nl_lt, ln_eq, nl_eq, n_m1, n_lt0, vp_n, vp_l, lc_n, nat32c, n_s, nI_n, hM.a18, h12], fun x23 hx23 => ⟨1118, hM.a18.1, hM.a18.2.1, by simp (disch := first | omega | decide) only [Option.some.injEq, exists_eq_left', exists_eq_left, forall_eq, forall_eq', true_and, and_true, true_implies, implies_true, false_implies, not_true_eq_false, not_false_eq_true, reduceCtorEq, and_self, forall_const, i10, i01, if_true, if_false, and_false, false_and, Nat.not_lt_zero, sK_pI, sN_pI, sR_pI, sL_pI, sK_pL, sN_pL, sR_pL, sI_pL, sK_pR, sN_pR, sI_pR, sL_pR, sI_pI_eq, sI_pI_ne, sL_pL_eq, sL_pL_ne, sR_pR_eq, sR_pR_ne, nn_le, nat32_lt, nn_eq, ln_le, nl_le, ln_lt, nl_lt, ln_eq, nl_eq, n_m1, n_lt0, vp_n, vp_l, lc_n, nat32c, n_s, nI_n, hM.a18, h12], fun σ29 e29 => ?_⟩⟩
    have e29 : σ29 = aC S2 o c := by rw [e29, hx23, nat32c (by omega)]; rfl
    rw [e29, tZ.2.2.2.2.1, ymod htd]
    intro x32 hx32
    subst hx32
    refine m_nowo (w := 1) h10 ho1 (by omega) (m_nowo (w := 2) h10 ho1 (by omega) ?_)
    have yes : fallsP (aC S2 o c) o (Int32.ofNat (td % 365)) → P_X11_ages_B107 1000 (Int32.ofNat c) (Int32.ofNat (td % 365)) (aC S2 o c) Q := fun hf => by
      have e : aL (aC S2 o c) o (td % 365) c = pI (aC S2 o c) 1119 c (leafN (aC S2 o c) c) := by unfold aL; rw [if_pos hf]
      have r := rest _ (by rw [e]; exact iv_leaf h10 hc hb1) (by rw [e, inF_keep (S2 := aC S2 o c) (by simp (disch := first | omega | decide) only [vw_pI])]; exact ho1)
      rw [e] at r
      unfold leafN at r
      unfold P_X11_ages_B107 P_X11_ages_B134
      by_cases t : sI (aC S2 o c) 1113 c = 0
      · simp only [t, if_true] at r
        simp (disch := first | omega | decide) only [Option.some.injEq, exists_eq_left', exists_eq_left, forall_eq, forall_eq', true_and, and_true, true_implies, implies_true, false_implies, not_true_eq_false, not_false_eq_true, reduceCtorEq, and_self, forall_const, i10, i01, if_true, if_false, and_false, false_and, Nat.not_lt_zero, sK_pI, sN_pI, sR_pI, sL_pI, sK_pL, sN_pL, sR_pL, sI_pL, sK_pR, sN_pR, sI_pR, sL_pR, sI_pI_eq, sI_pI_ne, sL_pL_eq, sL_pL_ne, sR_pR_eq, sR_pR_ne, nn_le, nat32_lt, nn_eq, ln_le, nl_le, ln_lt, nl_lt, ln_eq, nl_eq, n_m1, n_lt0, vp_n, vp_l, lc_n, nat32c, n_s, nI_n, tM.o, tM.a19, tM.a13, h12, t]
        exact r
      · simp only [t, if_false] at r
        simp (disch := first | omega | decide) only [Option.some.injEq, exists_eq_left', exists_eq_left, forall_eq, forall_eq', true_and, and_true, true_implies, implies_true, false_implies, not_true_eq_false, not_false_eq_true, reduceCtorEq, and_self, forall_const, i10, i01, if_true, if_false, and_false, false_and, Nat.not_lt_zero, sK_pI, sN_pI, sR_pI, sL_pI, sK_pL, sN_pL, sR_pL, sI_pL, sK_pR, sN_pR, sI_pR, sL_pR, sI_pI_eq, sI_pI_ne, sL_pL_eq, sL_pL_ne, sR_pR_eq, sR_pR_ne, nn_le, nat32_lt, nn_eq, ln_le, nl_le, ln_lt, nl_lt, ln_eq, nl_eq, n_m1, n_lt0, vp_n, vp_l, lc_n, nat32c, n_s, nI_n, tM.o, tM.a19, tM.a13, h12, t]
        exact r
    have no : ¬ fallsP (aC S2 o c) o (Int32.ofNat (td % 365)) → P_X11_ages_B139 1000 (Int32.ofNat c) (Int32.ofNat (td % 365)) (aC S2 o c) Q := fun hf => by
      have e : aL (aC S2 o c) o (td % 365) c = aC S2 o c := by unfold aL; rw [if_neg hf]
      have r := rest (pI S (3000 + c) 4 (clogN S2 o c)) (by rw [e]; exact h10) (by rw [e]; exact ho1)
      rw [e] at r
      exact r
    unfold fallsP at yes no
    refine ⟨fun a => ⟨fun b => yes (Or.inr ⟨a, Or.inl (Int32.not_lt.mpr b)⟩), fun b => ⟨fun d => no (fun z => ?_), fun d => yes (Or.inr ⟨a, Or.inr d⟩)⟩⟩, fun a => isIn_e.mpr ⟨fun b => no (fun z => ?_), fun b => yes (Or.inl ⟨a, ?_⟩)⟩⟩
    · rcases z with z | z
      · exact z.1 a
      · rcases z.2 with w | w
        · exact b (Int32.not_lt.mp w)
        · exact w d
    · rcases z with z | z
      · rw [inn_y (Int32.not_lt.mp z.2.1) (Int32.not_lt.mp z.2.2)] at b
        exact absurd b (by decide)
      · exact a z.1
    · have := inn_1.mp b
      exact ⟨Int32.not_lt.mpr this.1, Int32.not_lt.mpr this.2⟩
  unfold P_X11_ages P_X11_ages_B19
  refine ⟨hM.o, m_nowo (w := 0) h0 ho (by omega) ?_⟩
  unfold clogM at b32
  by_cases t : sI S2 1113 c = 0
  · by_cases p : sI S2 1114 c = 0
    · simp only [t, p, if_true] at b32
      simp (disch := first | omega | decide) only [Option.some.injEq, exists_eq_left', exists_eq_left, forall_eq, forall_eq', true_and, and_true, true_implies, implies_true, false_implies, not_true_eq_false, not_false_eq_true, reduceCtorEq, and_self, forall_const, i10, i01, if_true, if_false, and_false, false_and, Nat.not_lt_zero, sK_pI, sN_pI, sR_pI, sL_pI, sK_pL, sN_pL, sR_pL, sI_pL, sK_pR, sN_pR, sI_pR, sL_pR, sI_pI_eq, sI_pI_ne, sL_pL_eq, sL_pL_ne, sR_pR_eq, sR_pR_ne, nn_le, nat32_lt, nn_eq, ln_le, nl_le, ln_lt, nl_lt, ln_eq, nl_eq, n_m1, n_lt0, vp_n, vp_l, lc_n, nat32c, n_s, nI_n, hM.o, hM.a13, hM.a14, h12, t, p]
      exact b32
    · simp only [t, p, if_true, if_false] at b32
      simp (disch := first | omega | decide) only [Option.some.injEq, exists_eq_left', exists_eq_left, forall_eq, forall_eq', true_and, and_true, true_implies, implies_true, false_implies, not_true_eq_false, not_false_eq_true, reduceCtorEq, and_self, forall_const, i10, i01, if_true, if_false, and_false, false_and, Nat.not_lt_zero, sK_pI, sN_pI, sR_pI, sL_pI, sK_pL, sN_pL, sR_pL, sI_pL, sK_pR, sN_pR, sI_pR, sL_pR, sI_pI_eq, sI_pI_ne, sL_pL_eq, sL_pL_ne, sR_pR_eq, sR_pR_ne, nn_le, nat32_lt, nn_eq, ln_le, nl_le, ln_lt, nl_lt, ln_eq, nl_eq, n_m1, n_lt0, vp_n, vp_l, lc_n, nat32c, n_s, nI_n, hM.o, hM.a13, hM.a14, h12, t, p]
      exact b32
  · by_cases p : sI S2 1114 c = 0
    · simp only [t, p, if_true, if_false] at b32
      simp (disch := first | omega | decide) only [Option.some.injEq, exists_eq_left', exists_eq_left, forall_eq, forall_eq', true_and, and_true, true_implies, implies_true, false_implies, not_true_eq_false, not_false_eq_true, reduceCtorEq, and_self, forall_const, i10, i01, if_true, if_false, and_false, false_and, Nat.not_lt_zero, sK_pI, sN_pI, sR_pI, sL_pI, sK_pL, sN_pL, sR_pL, sI_pL, sK_pR, sN_pR, sI_pR, sL_pR, sI_pI_eq, sI_pI_ne, sL_pL_eq, sL_pL_ne, sR_pR_eq, sR_pR_ne, nn_le, nat32_lt, nn_eq, ln_le, nl_le, ln_lt, nl_lt, ln_eq, nl_eq, n_m1, n_lt0, vp_n, vp_l, lc_n, nat32c, n_s, nI_n, hM.o, hM.a13, hM.a14, h12, t, p]
      exact b32
    · simp only [t, p, if_false] at b32
      simp (disch := first | omega | decide) only [Option.some.injEq, exists_eq_left', exists_eq_left, forall_eq, forall_eq', true_and, and_true, true_implies, implies_true, false_implies, not_true_eq_false, not_false_eq_true, reduceCtorEq, and_self, forall_const, i10, i01, if_true, if_false, and_false, false_and, Nat.not_lt_zero, sK_pI, sN_pI, sR_pI, sL_pI, sK_pL, sN_pL, sR_pL, sI_pL, sK_pR, sN_pR, sI_pR, sL_pR, sI_pI_eq, sI_pI_ne, sL_pL_eq, sL_pL_ne, sR_pR_eq, sR_pR_ne, nn_le, nat32_lt, nn_eq, ln_le, nl_le, ln_lt, nl_lt, ln_eq, nl_eq, n_m1, n_lt0, vp_n, vp_l, lc_n, nat32c, n_s, nI_n, hM.o, hM.a13, hM.a14, h12, t, p]
      exact b32
end BD
