/-! ===== level 2: a day of one bed ===== -/
def cntK (S2 : Sg) : Nat := (sI S2 1000 6).toNatClampNeg
noncomputable def tellM (S2 : Sg) (c k d : Int32) : Sg := @dite Sg (∃ i, i < cntK S2 ∧ joins S2 c k d i) (Classical.propDecidable _) (fun h => joinM S2 (Classical.choose h) d) (fun _ => if cntK S2 < 60 then newM S2 (cntK S2) c k d else S2)
section TM
variable {S S2 : Sg} {nC nR nT nK nL nM nP td N : Nat} {lh : Nat → Nat}
theorem cntK_e (hK : GK S S2 nK td) : cntK S2 = nK := by
  have := hK.2.1
  unfold cntK
  rw [hK.2.2.1, nat32c (by omega)]
theorem tellM_J {c k : Int32} {i : Nat} (hK : GK S S2 nK td) (hi : i < nK) (hj : joins S2 c k (Int32.ofNat td) i) : tellM S2 c k (Int32.ofNat td) = joinM S2 i (Int32.ofNat td) := by
  have h : ∃ i, i < cntK S2 ∧ joins S2 c k (Int32.ofNat td) i := ⟨i, by rw [cntK_e hK]; exact hi, hj⟩
  unfold tellM
  rw [dif_pos h]
  have q := Classical.choose_spec h
  have q1 := q.1
  have q3 := cntK_e hK
  rw [hK.2.2.2.2.2 c k _ i (by omega) hi q.2 hj]
theorem tellM_N {c k : Int32} (hK : GK S S2 nK td) (hno : ∀ i, i < nK → ¬ joins S2 c k (Int32.ofNat td) i) : tellM S2 c k (Int32.ofNat td) = if nK < 60 then newM S2 nK c k (Int32.ofNat td) else S2 := by
  have h : ¬ ∃ i, i < cntK S2 ∧ joins S2 c k (Int32.ofNat td) i := fun ⟨i, h1, h2⟩ => hno i (by rw [cntK_e hK] at h1; exact h1) h2
  unfold tellM
  rw [dif_neg h, cntK_e hK]
theorem iv_join {c k : Int32} {i : Nat} (h : IV S S2 nC nR nT nK nL nM nP td N lh) (hi : i < nK) (hj : joins S2 c k (Int32.ofNat td) i) : IV (joinT S i (Int32.ofNat td)) (joinM S2 i (Int32.ofNat td)) nC nR nT nK nL nM nP td N lh := by
  obtain ⟨hk, hM, hS, hU, hA, hW, hB, hC, hR, hT, hK, hL, hZ, hP, hN⟩ := h
  have hn := hK.2.1
  have gk := gk_join hK hi hj
  unfold joinT joinM at gk ⊢
  exact ⟨(okS_pI (okS_pI hk (by omega)) (by omega)), (mw_pI (mw_pI hM (by omega)) (by omega)), (hS.keep (fun x _ _ _ => rfl) (fun x hx => by simp (disch := first | omega | decide) only [vw_pI, vw_pL]) (fun x _ _ => rfl)), (hU.keep (by simp (disch := first | omega | decide) only [vw_pI, vw_pL]) (fun k h1 h2 => by simp (disch := first | omega | decide) only [sL_pL_ne, sL_pI])), (hA.keep (fun x h1 h2 => by simp (disch := first | omega | decide) only [vw_pI, vw_pL]) (fun x h1 h2 => by simp (disch := first | omega | decide) only [vw_pI, vw_pL])), (hW.keep (fun x hx => by simp (disch := first | omega | decide) only [vw_pI, vw_pL]) (fun x h1 h2 => by simp (disch := first | omega | decide) only [vw_pI, vw_pL])), (hB.keep (fun x h1 h2 => by simp (disch := first | omega | decide) only [vw_pI, vw_pL]) (fun x h1 h2 => by simp (disch := first | omega | decide) only [vw_pI, vw_pL])), (hC.keep (fun x hx => by simp (disch := first | omega | decide) only [vw_pI, vw_pL]) (fun x hx => by simp (disch := first | omega | decide) only [vw_pI, vw_pL]) (by simp (disch := first | omega | decide) only [sI_pI_ne, sI_pL])), (hR.keep (Nat.le_refl _) (Nat.le_refl _) (fun x hx => by simp (disch := first | omega | decide) only [vw_pI, vw_pL]) (fun x h1 h2 => by simp (disch := first | omega | decide) only [vw_pI, vw_pL]) (by simp (disch := first | omega | decide) only [sI_pI_ne, sI_pL])), (hT.keep (fun x hx => by simp (disch := first | omega | decide) only [vw_pI, vw_pL]) (fun x h1 h2 h3 => by simp (disch := first | omega | decide) only [vw_pI, vw_pL]) (by simp (disch := first | omega | decide) only [sI_pI_ne, sI_pL])), gk, (hL.keep (fun x hx => by unfold lawR at hx; simp (disch := first | omega | decide) only [vw_pI, vw_pL]) (fun x h1 h2 => by simp (disch := first | omega | decide) only [vw_pI, vw_pL]) (by simp (disch := first | omega | decide) only [sI_pI_ne, sI_pL])), (hZ.keep (fun k h1 h2 => by simp (disch := first | omega | decide) only [sI_pI_ne, sI_pL]) (fun k hk => by simp (disch := first | omega | decide) only [sI_pI_ne, sI_pL])), (hP.keep (fun x h1 h2 => by simp (disch := first | omega | decide) only [vw_pI, vw_pL]) (by simp (disch := first | omega | decide) only [vw_pI, vw_pL]) (by simp (disch := first | omega | decide) only [sI_pI_ne, sI_pL])), hN⟩
theorem iv_new {S' : Sg} {c k : Int32} (h : IV S S2 nC nR nT nK nL nM nP td N lh) (hno : ∀ i, i < nK → ¬ joins S2 c k (Int32.ofNat td) i) (hlt : nK < 60) (gL : Lst S' 1004 4 (fun i => 6000 + i) (nK + 1)) (hg : Grown S S' (6000 + nK) 1004 4) (gq : vw S' (6000 + nK) = vw (complT S (6000 + nK) c k (Int32.ofNat td)) (6000 + nK)) (hgN : GN S' (N + 1)) (hgo : okS S') : IV S' (newM S2 nK c k (Int32.ofNat td)) nC nR nT (nK + 1) nL nM nP td (N + 1) lh := by
  obtain ⟨hk, hM, hS, hU, hA, hW, hB, hC, hR, hT, hK, hL, hZ, hP, hN⟩ := h
  have gk := gk_new hK hlt hno gL hg gq
  unfold Grown at hg
  unfold newM at gk ⊢
  exact ⟨hgo, (mw_pI (mw_pI (mw_pI (mw_pI (mw_pI (mw_pI (mw_pI hM (by omega)) (by omega)) (by omega)) (by omega)) (by omega)) (by omega)) (by omega)), (hS.keep (fun x h1 h2 h3 => stru_vw (hg x (by omega) (by omega) (by omega) (by omega))) (fun x hx => hg x (by omega) (by omega) (by omega) (by omega)) (fun x h1 h2 => vwK (hg x (by omega) (by omega) (by omega) (by omega)))), (hU.keep (hg 1054 (by omega) (by omega) (by omega) (by omega)) (fun k h1 h2 => by simp (disch := first | omega | decide) only [sL_pL_ne, sL_pI])), (hA.keep (fun x h1 h2 => hg x (by omega) (by omega) (by omega) (by omega)) (fun x h1 h2 => by simp (disch := first | omega | decide) only [vw_pI, vw_pL])), (hW.keep (fun x hx => hg x (by omega) (by omega) (by omega) (by omega)) (fun x h1 h2 => by simp (disch := first | omega | decide) only [vw_pI, vw_pL])), (hB.keep (fun x h1 h2 => hg x (by omega) (by omega) (by omega) (by omega)) (fun x h1 h2 => by simp (disch := first | omega | decide) only [vw_pI, vw_pL])), (hC.keep (fun x hx => hg x (by omega) (by omega) (by omega) (by omega)) (fun x hx => by simp (disch := first | omega | decide) only [vw_pI, vw_pL]) (by simp (disch := first | omega | decide) only [sI_pI_ne, sI_pL])), (hR.keep (by omega) (Nat.le_refl _) (fun x hx => hg x (by omega) (by omega) (by omega) (by omega)) (fun x h1 h2 => by simp (disch := first | omega | decide) only [vw_pI, vw_pL]) (by simp (disch := first | omega | decide) only [sI_pI_ne, sI_pL])), (hT.keep (fun x hx => hg x (by omega) (by omega) (by omega) (by omega)) (fun x h1 h2 h3 => by simp (disch := first | omega | decide) only [vw_pI, vw_pL]) (by simp (disch := first | omega | decide) only [sI_pI_ne, sI_pL])), gk, (hL.keep (fun x hx => by unfold lawR at hx; exact hg x (by omega) (by omega) (by omega) (by omega)) (fun x h1 h2 => by simp (disch := first | omega | decide) only [vw_pI, vw_pL]) (by simp (disch := first | omega | decide) only [sI_pI_ne, sI_pL])), (hZ.keep (fun k h1 h2 => by rw [vwI (hg 1000 (by omega) (by omega) (by omega) (by omega))]) (fun k hk => by simp (disch := first | omega | decide) only [sI_pI_ne, sI_pL])), (hP.keep (fun x h1 h2 => hg x (by omega) (by omega) (by omega) (by omega)) (by simp (disch := first | omega | decide) only [vw_pI, vw_pL]) (by simp (disch := first | omega | decide) only [sI_pI_ne, sI_pL])), hgN⟩
theorem cntK_new {c k d : Int32} {n : Nat} (hn : n < 100) : cntK (newM S2 n c k d) = n + 1 := by
  unfold cntK newM
  simp (disch := first | omega | decide) only [Option.some.injEq, exists_eq_left', exists_eq_left, forall_eq, forall_eq', true_and, and_true, true_implies, implies_true, false_implies, not_true_eq_false, not_false_eq_true, reduceCtorEq, and_self, forall_const, i10, i01, if_true, if_false, and_false, false_and, Nat.not_lt_zero, sK_pI, sN_pI, sR_pI, sL_pI, sK_pL, sN_pL, sR_pL, sI_pL, sK_pR, sN_pR, sI_pR, sL_pR, sI_pI_eq, sI_pI_ne, sL_pL_eq, sL_pL_ne, sR_pR_eq, sR_pR_ne, nn_le, nat32_lt, nn_eq, ln_le, nl_le, ln_lt, nl_lt, ln_eq, nl_eq, n_m1, n_lt0, vp_n, vp_l, lc_n, nat32c, n_s, nI_n, true_and]
theorem x_tellIV {c k : Int32} {b : Nat × Nat} {Q : Int32 → Sg → Prop} (h : IV S S2 nC nR nT nK nL nM nP td N lh) (hb1 : 2 * (cntK (tellM S2 c k (Int32.ofNat td)) - nK) ≤ b.1) (hb2 : 136 * (cntK (tellM S2 c k (Int32.ofNat td)) - nK) ≤ b.2) (kk : ∀ r S' nK' N', IV S' (tellM S2 c k (Int32.ofNat td)) nC nR nT nK' nL nM nP td N' lh → nK ≤ nK' → Q r S') : P_X10_tellComplaint 1000 c k S b Q := by
  have h0 := h
  obtain ⟨hk, hM, hS, hU, hA, hW, hB, hC, hR, hT, hK, hL, hZ, hP, hN⟩ := h
  refine x_tell hk hS hK hN hZ.2.2.2.1 (fun hno hlt => ?_) (fun i hi hj => ?_) (fun hno hlt S' gL hg gq hgN hgo => ?_) (fun hno h60 => ?_)
  · have e := tellM_N hK hno
    rw [if_pos hlt] at e
    rw [e, cntK_new (by omega)] at hb1 hb2
    omega
  · have := iv_join h0 hi hj
    rw [← tellM_J hK hi hj] at this
    exact kk _ _ _ _ this (Nat.le_refl _)
  · have := iv_new h0 hno hlt gL hg gq hgN hgo
    have e := tellM_N hK hno
    rw [if_pos hlt] at e
    rw [← e] at this
    exact kk _ _ _ _ this (by omega)
  · have e := tellM_N hK hno
    rw [if_neg (by omega)] at e
    rw [e] at kk
    exact kk _ _ _ _ h0 (Nat.le_refl _)
theorem m_tellM {c : Nat} {Q : Int32 → Sg → Prop} (h : IV S S2 nC nR nT nK nL nM nP td N lh) (hc : c < nC) (kk : ∀ r, Q r (tellM S2 (Int32.ofNat c) 2 (Int32.ofNat td))) : P_X11_complain 1000 (Int32.ofNat c) 2 S2 Q := by
  obtain ⟨hk, hM, hS, hU, hA, hW, hB, hC, hR, hT, hK, hL, hZ, hP, hN⟩ := h
  have h3 : ¬ inn 2 0 3 = 0 := by decide
  unfold P_X11_complain
  refine ⟨hM.o, (isCorner_y hM hC.2.2.1 hC.2.1 hc).mpr ⟨fun z => absurd z (by decide), fun _ => isIn_e.mpr ⟨fun z => absurd z h3, fun _ x hx => ?_⟩⟩⟩
  rw [hx, hK.2.2.1]
  refine m_tell hM hK.2.2.1 hK.2.1 hZ.2.2.2.2.1 (fun i hi hj => ?_) (fun hno hlt => ?_) (fun hno h60 => ?_)
  · have := kk (Int32.ofNat i); rw [tellM_J hK hi hj] at this; exact this
  · have := kk (Int32.ofNat nK); rw [tellM_N hK hno, if_pos hlt] at this; exact this
  · have := kk (-1); rw [tellM_N hK hno, if_neg (by omega)] at this; exact this
/-- a told complaint leaves the rest as it is -/
theorem tellM_fr {c k : Int32} (h : IV S S2 nC nR nT nK nL nM nP td N lh) : MW (tellM S2 c k (Int32.ofNat td)) ∧ (∀ x, ¬ x = 1000 → ¬ (1161 ≤ x ∧ x ≤ 1166) → vw (tellM S2 c k (Int32.ofNat td)) x = vw S2 x) ∧ (∀ j, ¬ j = 6 → sI (tellM S2 c k (Int32.ofNat td)) 1000 j = sI S2 1000 j) := by
  obtain ⟨hk, hM, hS, hU, hA, hW, hB, hC, hR, hT, hK, hL, hZ, hP, hN⟩ := h
  by_cases hj : ∃ i, i < nK ∧ joins S2 c k (Int32.ofNat td) i
  · obtain ⟨i, hi, hj⟩ := hj
    rw [tellM_J hK hi hj]
    unfold joinM
    exact ⟨mw_pI (mw_pI hM (by omega)) (by omega), fun x h1 h2 => by simp (disch := first | omega | decide) only [vw_pI], fun j h1 => by simp (disch := first | omega | decide) only [sI_pI_ne]⟩
  · rw [tellM_N hK (fun i hi h => hj ⟨i, hi, h⟩)]
    by_cases c : nK < 60
    · rw [if_pos c]
      unfold newM
      exact ⟨(mw_pI (mw_pI (mw_pI (mw_pI (mw_pI (mw_pI (mw_pI hM (by omega)) (by omega)) (by omega)) (by omega)) (by omega)) (by omega)) (by omega)), fun x h1 h2 => by simp (disch := first | omega | decide) only [vw_pI], fun j h1 => by simp (disch := first | omega | decide) only [sI_pI_ne]⟩
    · rw [if_neg c]
      exact ⟨hM, fun x _ _ => rfl, fun j _ => rfl⟩
end TM
/-! laws' numbers where a day writes -/
theorem lawV_keep {S2 S2' : Sg} (e : ∀ x, 1168 ≤ x → x ≤ 1174 → vw S2' x = vw S2 x) (o : Option Nat) (w : Nat) : lawV S2' o w = lawV S2 o w := by
  cases o with
  | none => rfl
  | some r =>
    show lawF S2' r w (sI S2' 1168 r).toNatClampNeg = lawF S2 r w (sI S2 1168 r).toNatClampNeg
    rw [vwI (e 1168 (by omega) (by omega))]
    exact lawF_keep (fun x j h1 h2 _ => by rw [vwI (e x (by omega) h2)])
theorem inF_keep {S2 S2' : Sg} (e : vw S2' 1169 = vw S2 1169) (d : Int32) : ∀ n, inF S2' d n = inF S2 d n
  | 0 => rfl
  | n + 1 => by rw [inF_s, inF_s, vwI e, inF_keep e d n]
theorem lawV_rg {S S2 : Sg} {nL : Nat} {lh : Nat → Nat} {o : Option Nat} {w : Nat} (hL : GL S S2 nL lh) (hr : ∀ j, o = some j → j < nL) (hw : w < 21) : rg (lawV S2 o w) 0 9999 := by
  cases o with
  | none =>
    have : w = 0 ∨ w = 1 ∨ w = 2 ∨ w = 3 ∨ w = 4 ∨ w = 5 ∨ w = 6 ∨ w = 7 ∨ w = 8 ∨ w = 9 ∨ w = 10 ∨ w = 11 ∨ w = 12 ∨ w = 13 ∨ w = 14 ∨ w = 15 ∨ w = 16 ∨ w = 17 ∨ w = 18 ∨ w = 19 ∨ w = 20 := by omega
    show rg (bareV w) 0 9999
    refine rg_of (by omega) (by omega) ?_ ?_ <;> rcases this with rfl | rfl | rfl | rfl | rfl | rfl | rfl | rfl | rfl | rfl | rfl | rfl | rfl | rfl | rfl | rfl | rfl | rfl | rfl | rfl | rfl <;> decide
  | some r =>
    obtain ⟨-, st, s1, s2, hE⟩ := hL.2.2.2 r (hr r rfl)
    show rg (lawF S2 r w (sI S2 1168 r).toNatClampNeg) 0 9999
    rw [s2, nat32c (by omega)]
    exact hE.1.2 w hw
theorem ymod {td : Nat} (h : td < 4000) : Int32.ofNat td - Int32.ofNat td / 365 * 365 = Int32.ofNat (td % 365) := by
  rw [show Int32.ofNat td / 365 = Int32.ofNat (td / 365) from n_divl (k := 365) (by omega) (by omega), show Int32.ofNat (td / 365) * 365 = Int32.ofNat (td / 365 * 365) from n_mull (k := 365), ← Int32.ofNat_sub _ _ (by omega)]
  congr 1; omega
/-! the reference's day of a bed as one step after another -/
def clogM (S2 : Sg) (o : Option Nat) (c : Nat) : Int32 :=
  let m := if sI S2 1113 c = 0 then lawV S2 o 0 else lawV S2 o 0 / 2
  if sI S2 1114 c = 0 then m * 2 else m
def clogN (S2 : Sg) (o : Option Nat) (c : Nat) : Int32 := if sI S2 1118 c + clogM S2 o c < 100 then sI S2 1118 c + clogM S2 o c else 100
def aC (S2 : Sg) (o : Option Nat) (c : Nat) : Sg := pI S2 1118 c (clogN S2 o c)
def fallsP (S2 : Sg) (o : Option Nat) (y : Int32) : Prop := (¬ lawV S2 o 2 < lawV S2 o 1 ∧ ¬ y < lawV S2 o 1 ∧ ¬ lawV S2 o 2 < y) ∨ (lawV S2 o 2 < lawV S2 o 1 ∧ (¬ y < lawV S2 o 1 ∨ ¬ lawV S2 o 2 < y))
def leafN (S2 : Sg) (c : Nat) : Int32 := if sI S2 1119 c + (if sI S2 1113 c = 0 then 1 else 2) < 10 then sI S2 1119 c + (if sI S2 1113 c = 0 then 1 else 2) else 10
noncomputable def aL (S2 : Sg) (o : Option Nat) (y c : Nat) : Sg := @ite Sg (fallsP S2 o (Int32.ofNat y)) (Classical.propDecidable _) (pI S2 1119 c (leafN S2 c)) S2
def drkN (S2 : Sg) (c : Nat) : Int32 := full S2 c * (100 - sI S2 1118 c) / 100
def sipN (S2 : Sg) (c : Nat) : Int32 := if 20 * drkN S2 c < sI S2 1121 c then 20 * drkN S2 c else sI S2 1121 c
def aH (S2 : Sg) (c : Nat) : Sg := pL (pI S2 1121 c (sI S2 1121 c - sipN S2 c)) 1000 36 (sL S2 1000 36 + (sipN S2 c).toInt64)
def aS (S2 : Sg) (c : Nat) : Sg := pI S2 1122 c (if sI S2 1121 c ≤ 0 then 0 else sI S2 1122 c + 1)
noncomputable def aT (S2 : Sg) (o : Option Nat) (td c : Nat) : Sg := if sI S2 1122 c = lawV S2 o 6 + 1 then tellM S2 (Int32.ofNat c) 2 (Int32.ofNat td) else S2
def aW (S2 : Sg) (o : Option Nat) (y c : Nat) : Sg := if y = 60 then pI (if sI S2 1120 c ≤ lawV S2 o 5 then S2 else pI S2 1114 c 0) 1120 c 0 else S2
noncomputable def aB (S2 : Sg) (o : Option Nat) (td c : Nat) : Sg := aS (aH (aL (aC S2 o c) o (td % 365) c) c) c
noncomputable def agesM (S2 : Sg) (o : Option Nat) (td c : Nat) : Sg := aW (aT (aB S2 o td c) o td c) o (td % 365) c
section AG
variable {S S2 : Sg} {nC nR nT nK nL nM nP td N : Nat} {lh : Nat → Nat} {o : Option Nat} {c : Nat}
theorem rg_clog (hc : rg (sI S2 1118 c) 0 100) (hm : rg (lawV S2 o 0) 0 9999) : rg (clogN S2 o c) 0 100 := by
  obtain ⟨a, -, a2, ha⟩ := hc
  obtain ⟨m, -, m2, hm⟩ := hm
  have h : ∃ k, k ≤ 20000 ∧ clogM S2 o c = Int32.ofNat k := by
    unfold clogM
    rw [hm]
    by_cases t : sI S2 1113 c = 0
    · by_cases p : sI S2 1114 c = 0
      · simp only [t, p, if_true]; exact ⟨m * 2, by omega, n_mull⟩
      · simp only [t, p, if_true, if_false]; exact ⟨m, by omega, rfl⟩
    · by_cases p : sI S2 1114 c = 0
      · simp only [t, p, if_true, if_false]
        refine ⟨m / 2 * 2, by omega, ?_⟩
        rw [show Int32.ofNat m / 2 = Int32.ofNat (m / 2) from n_divl (k := 2) (by omega) (by omega)]
        exact n_mull
      · simp only [t, p, if_false]
        exact ⟨m / 2, by omega, n_divl (k := 2) (by omega) (by omega)⟩
  obtain ⟨k, k2, hk⟩ := h
  unfold clogN
  rw [ha, hk, n_add]
  by_cases l : Int32.ofNat (a + k) < 100
  · rw [if_pos l]
    have l2 : a + k < 100 := (nl_lt (k := 100) (by omega) (by omega)).mp l
    exact ⟨a + k, by omega, by omega, rfl⟩
  · rw [if_neg l]; exact ⟨100, by omega, by omega, rfl⟩
theorem rg_leaf (hc : rg (sI S2 1119 c) 0 10) : rg (leafN S2 c) 0 10 := by
  obtain ⟨a, -, a2, ha⟩ := hc
  have h : ∃ k, k ≤ 2 ∧ (if sI S2 1113 c = 0 then (1 : Int32) else 2) = Int32.ofNat k := by
    by_cases t : sI S2 1113 c = 0
    · rw [if_pos t]; exact ⟨1, by omega, rfl⟩
    · rw [if_neg t]; exact ⟨2, by omega, rfl⟩
  obtain ⟨k, k2, hk⟩ := h
  unfold leafN
  rw [ha, hk, n_add]
  by_cases l : Int32.ofNat (a + k) < 10
  · rw [if_pos l]
    have l2 : a + k < 10 := (nl_lt (k := 10) (by omega) (by omega)).mp l
    exact ⟨a + k, by omega, by omega, rfl⟩
  · rw [if_neg l]; exact ⟨10, by omega, by omega, rfl⟩
theorem rg_full {i : Nat} (hA : GA S S2) (hl : rg (sI S2 1115 i) 0 9) : rg (full S2 i) 0 100 := by
  obtain ⟨k, -, k2, k3⟩ := hl
  unfold full
  rw [k3, nat32c (by omega)]
  exact (hA.1 k (by omega)).2
theorem rg_drk {i : Nat} (hf : rg (full S2 i) 0 100) (hc : rg (sI S2 1118 i) 0 100) : rg (drkN S2 i) 0 100 := by
  obtain ⟨f, -, f2, hf⟩ := hf
  obtain ⟨a, -, a2, ha⟩ := hc
  unfold drkN
  have hm : f * (100 - a) ≤ 100 * 100 := Nat.mul_le_mul f2 (by omega)
  rw [hf, ha, show (100 : Int32) - Int32.ofNat a = Int32.ofNat (100 - a) from (Int32.ofNat_sub 100 a a2).symm, n_mul, show Int32.ofNat (f * (100 - a)) / 100 = Int32.ofNat (f * (100 - a) / 100) from n_divl (k := 100) (by omega) (by omega)]
  exact ⟨_, Nat.zero_le _, by omega, rfl⟩
theorem rg_sip {i : Nat} (hd : rg (drkN S2 i) 0 100) (hh : rg (sI S2 1121 i) 0 500) : rg (sI S2 1121 i - sipN S2 i) 0 500 := by
  obtain ⟨d, -, d2, hd⟩ := hd
  obtain ⟨a, -, a2, ha⟩ := hh
  unfold sipN
  rw [hd, ha, show (20 : Int32) * Int32.ofNat d = Int32.ofNat (20 * d) from l_mul (k := 20)]
  by_cases l : Int32.ofNat (20 * d) < Int32.ofNat a
  · rw [if_pos l]
    rw [nat32_lt (by omega) (by omega)] at l
    rw [← Int32.ofNat_sub _ _ (by omega)]
    exact ⟨_, Nat.zero_le _, by omega, rfl⟩
  · rw [if_neg l, ← Int32.ofNat_sub _ _ (Nat.le_refl _)]
    exact ⟨_, Nat.zero_le _, by omega, rfl⟩
/-! the object's side, step by step -/
theorem x_clogUp {Q : Unit → Sg → Prop} (h : IV S S2 nC nR nT nK nL nM nP td N lh) (hc : c < nC) (hb : ¬ sI S2 1112 c = 0) (hr : ∀ j, o = some j → j < nL) (k : Q () (pI S (3000 + c) 4 (clogN S2 o c))) : P_X0_clogUp (3000 + c) (some (lawH lh o)) S Q := by
  obtain ⟨hk, hM, hS, hU, hA, hW, hB, hC, hR, hT, hK, hL, hZ, hP, hN⟩ := h
  obtain ⟨be, bb⟩ := (hB c (by have := hC.2.1; omega)).2.2.2 hb
  unfold clogN clogM at k
  unfold P_X0_clogUp P_X0_clogUp_B22 P_X0_clogUp_B44
  by_cases t : sI S2 1113 c = 0
  · by_cases p : sI S2 1114 c = 0
    · simp only [t, p, if_true] at k
      rw [Int32.mul_comm] at k
      simp (disch := first | omega | decide) only [Option.some.injEq, exists_eq_left', exists_eq_left, forall_eq, forall_eq', true_and, and_true, true_implies, implies_true, false_implies, not_true_eq_false, not_false_eq_true, reduceCtorEq, and_self, forall_const, i10, i01, if_true, if_false, and_false, false_and, Nat.not_lt_zero, sK_pI, sN_pI, sR_pI, sL_pI, sK_pL, sN_pL, sR_pL, sI_pL, sK_pR, sN_pR, sI_pR, sL_pR, sI_pI_eq, sI_pI_ne, sL_pL_eq, sL_pL_ne, sR_pR_eq, sR_pR_ne, nn_le, nat32_lt, nn_eq, ln_le, nl_le, ln_lt, nl_lt, ln_eq, nl_eq, n_m1, n_lt0, vp_n, vp_l, lc_n, nat32c, n_s, nI_n, be, t, p, lawH_k hS hL hr, value_l (w := 0) hS hL hr (by omega)]
      exact k
    · simp only [t, p, if_true, if_false] at k
      simp (disch := first | omega | decide) only [Option.some.injEq, exists_eq_left', exists_eq_left, forall_eq, forall_eq', true_and, and_true, true_implies, implies_true, false_implies, not_true_eq_false, not_false_eq_true, reduceCtorEq, and_self, forall_const, i10, i01, if_true, if_false, and_false, false_and, Nat.not_lt_zero, sK_pI, sN_pI, sR_pI, sL_pI, sK_pL, sN_pL, sR_pL, sI_pL, sK_pR, sN_pR, sI_pR, sL_pR, sI_pI_eq, sI_pI_ne, sL_pL_eq, sL_pL_ne, sR_pR_eq, sR_pR_ne, nn_le, nat32_lt, nn_eq, ln_le, nl_le, ln_lt, nl_lt, ln_eq, nl_eq, n_m1, n_lt0, vp_n, vp_l, lc_n, nat32c, n_s, nI_n, be, t, p, lawH_k hS hL hr, value_l (w := 0) hS hL hr (by omega)]
      exact k
  · by_cases p : sI S2 1114 c = 0
    · simp only [t, p, if_true, if_false] at k
      rw [Int32.mul_comm] at k
      simp (disch := first | omega | decide) only [Option.some.injEq, exists_eq_left', exists_eq_left, forall_eq, forall_eq', true_and, and_true, true_implies, implies_true, false_implies, not_true_eq_false, not_false_eq_true, reduceCtorEq, and_self, forall_const, i10, i01, if_true, if_false, and_false, false_and, Nat.not_lt_zero, sK_pI, sN_pI, sR_pI, sL_pI, sK_pL, sN_pL, sR_pL, sI_pL, sK_pR, sN_pR, sI_pR, sL_pR, sI_pI_eq, sI_pI_ne, sL_pL_eq, sL_pL_ne, sR_pR_eq, sR_pR_ne, nn_le, nat32_lt, nn_eq, ln_le, nl_le, ln_lt, nl_lt, ln_eq, nl_eq, n_m1, n_lt0, vp_n, vp_l, lc_n, nat32c, n_s, nI_n, be, t, p, lawH_k hS hL hr, value_l (w := 0) hS hL hr (by omega)]
      exact k
    · simp only [t, p, if_false] at k
      simp (disch := first | omega | decide) only [Option.some.injEq, exists_eq_left', exists_eq_left, forall_eq, forall_eq', true_and, and_true, true_implies, implies_true, false_implies, not_true_eq_false, not_false_eq_true, reduceCtorEq, and_self, forall_const, i10, i01, if_true, if_false, and_false, false_and, Nat.not_lt_zero, sK_pI, sN_pI, sR_pI, sL_pI, sK_pL, sN_pL, sR_pL, sI_pL, sK_pR, sN_pR, sI_pR, sL_pR, sI_pI_eq, sI_pI_ne, sL_pL_eq, sL_pL_ne, sR_pR_eq, sR_pR_ne, nn_le, nat32_lt, nn_eq, ln_le, nl_le, ln_lt, nl_lt, ln_eq, nl_eq, n_m1, n_lt0, vp_n, vp_l, lc_n, nat32c, n_s, nI_n, be, t, p, lawH_k hS hL hr, value_l (w := 0) hS hL hr (by omega)]
      exact k
theorem x_falls {y : Int32} {Q : Int32 → Prop} (h : IV S S2 nC nR nT nK nL nM nP td N lh) (hr : ∀ j, o = some j → j < nL) (k1 : fallsP S2 o y → Q 1) (k0 : ¬ fallsP S2 o y → Q 0) : P_X4_leavesFallOn (lawH lh o) y S Q := by
  obtain ⟨hk, hM, hS, hU, hA, hW, hB, hC, hR, hT, hK, hL, hZ, hP, hN⟩ := h
  unfold fallsP at k1 k0
  unfold P_X4_leavesFallOn P_X4_leavesFallOn_B14 P_X4_leavesFallOn_B29 P_X4_leavesFallOn_B67 P_X4_leavesFallOn_B55
  by_cases a : lawV S2 o 2 < lawV S2 o 1 <;> by_cases b : y < lawV S2 o 1 <;> by_cases d : lawV S2 o 2 < y <;> simp only [a, b, d, not_true_eq_false, not_false_eq_true, and_true, and_false, true_and, false_and, or_true, or_false, or_self, true_implies, false_implies] at k1 k0 <;> simp (disch := first | omega | decide) only [Option.some.injEq, exists_eq_left', exists_eq_left, forall_eq, forall_eq', true_and, and_true, true_implies, implies_true, false_implies, not_true_eq_false, not_false_eq_true, reduceCtorEq, and_self, forall_const, i10, i01, if_true, if_false, and_false, false_and, Nat.not_lt_zero, sK_pI, sN_pI, sR_pI, sL_pI, sK_pL, sN_pL, sR_pL, sI_pL, sK_pR, sN_pR, sI_pR, sL_pR, sI_pI_eq, sI_pI_ne, sL_pL_eq, sL_pL_ne, sR_pR_eq, sR_pR_ne, nn_le, nat32_lt, nn_eq, ln_le, nl_le, ln_lt, nl_lt, ln_eq, nl_eq, n_m1, n_lt0, vp_n, vp_l, lc_n, nat32c, n_s, nI_n, a, b, d, lawH_k hS hL hr, value_l (w := 1) hS hL hr (by omega), value_l (w := 2) hS hL hr (by omega)] <;> first | exact k1 | exact k0
theorem x_shed {y : Nat} {Q : Unit → Sg → Prop} (h : IV S S2 nC nR nT nK nL nM nP td N lh) (hc : c < nC) (hb : ¬ sI S2 1112 c = 0) (hr : ∀ j, o = some j → j < nL) (k1 : fallsP S2 o (Int32.ofNat y) → Q () (pI S (3000 + c) 5 (leafN S2 c))) (k0 : ¬ fallsP S2 o (Int32.ofNat y) → Q () S) : P_X0_shedLeaves (3000 + c) (some (lawH lh o)) (Int32.ofNat y) S Q := by
  have h0 := h
  obtain ⟨hk, hM, hS, hU, hA, hW, hB, hC, hR, hT, hK, hL, hZ, hP, hN⟩ := h
  obtain ⟨be, bb⟩ := (hB c (by have := hC.2.1; omega)).2.2.2 hb
  unfold leafN at k1
  unfold P_X0_shedLeaves P_X0_shedLeaves_B27
  refine ⟨_, rfl, lawH_k hS hL hr, x_falls h0 hr (fun f => ?_) (fun f => ⟨fun _ => k0 f, fun z => absurd rfl z⟩)⟩
  have k := k1 f
  refine ⟨fun z => absurd z (by decide), fun _ => ?_⟩
  by_cases t : sI S2 1113 c = 0
  · simp only [t, if_true] at k
    simp (disch := first | omega | decide) only [Option.some.injEq, exists_eq_left', exists_eq_left, forall_eq, forall_eq', true_and, and_true, true_implies, implies_true, false_implies, not_true_eq_false, not_false_eq_true, reduceCtorEq, and_self, forall_const, i10, i01, if_true, if_false, and_false, false_and, Nat.not_lt_zero, sK_pI, sN_pI, sR_pI, sL_pI, sK_pL, sN_pL, sR_pL, sI_pL, sK_pR, sN_pR, sI_pR, sL_pR, sI_pI_eq, sI_pI_ne, sL_pL_eq, sL_pL_ne, sR_pR_eq, sR_pR_ne, nn_le, nat32_lt, nn_eq, ln_le, nl_le, ln_lt, nl_lt, ln_eq, nl_eq, n_m1, n_lt0, vp_n, vp_l, lc_n, nat32c, n_s, nI_n, be, t]
    exact k
  · simp only [t, if_false] at k
    simp (disch := first | omega | decide) only [Option.some.injEq, exists_eq_left', exists_eq_left, forall_eq, forall_eq', true_and, and_true, true_implies, implies_true, false_implies, not_true_eq_false, not_false_eq_true, reduceCtorEq, and_self, forall_const, i10, i01, if_true, if_false, and_false, false_and, Nat.not_lt_zero, sK_pI, sN_pI, sR_pI, sL_pI, sK_pL, sN_pL, sR_pL, sI_pL, sK_pR, sN_pR, sI_pR, sL_pR, sI_pI_eq, sI_pI_ne, sL_pL_eq, sL_pL_ne, sR_pR_eq, sR_pR_ne, nn_le, nat32_lt, nn_eq, ln_le, nl_le, ln_lt, nl_lt, ln_eq, nl_eq, n_m1, n_lt0, vp_n, vp_l, lc_n, nat32c, n_s, nI_n, be, t]
    exact k
theorem x_drinkDay {Q : Int32 → Sg → Prop} (h : IV S S2 nC nR nT nK nL nM nP td N lh) (hc : c < nC) (hb : ¬ sI S2 1112 c = 0) (k : Q (sipN S2 c) (pI (pI S (3000 + c) 8 (sI S2 1121 c - sipN S2 c)) (3000 + c) 9 (if sI S2 1121 c - sipN S2 c ≤ 0 then 0 else sI S2 1122 c + 1))) : P_X0_drinkForADay (3000 + c) (some 1050) S Q := by
  obtain ⟨hk, hM, hS, hU, hA, hW, hB, hC, hR, hT, hK, hL, hZ, hP, hN⟩ := h
  have h12 : c < 12 := by have := hC.2.1; omega
  obtain ⟨be, bb⟩ := (hB c h12).2.2.2 hb
  unfold sipN drkN at k
  unfold P_X0_drinkForADay P_X0_drinkForADay_B44
  refine ⟨be.1, (drink_e hS hA hB h12 hb).mpr ?_⟩
  rw [be.2.2.2.2.2.2.2.2.2.2.2.2.1]
  generalize hx : (if 20 * (full S2 c * (100 - sI S2 1118 c) / 100) < sI S2 1121 c then 20 * (full S2 c * (100 - sI S2 1118 c) / 100) else sI S2 1121 c) = x at k
  intro x3 hx3
  subst hx3
  by_cases t : sI S2 1121 c - x3 ≤ 0
  · rw [if_pos t] at k
    simp (disch := first | omega | decide) only [Option.some.injEq, exists_eq_left', exists_eq_left, forall_eq, forall_eq', true_and, and_true, true_implies, implies_true, false_implies, not_true_eq_false, not_false_eq_true, reduceCtorEq, and_self, forall_const, i10, i01, if_true, if_false, and_false, false_and, Nat.not_lt_zero, sK_pI, sN_pI, sR_pI, sL_pI, sK_pL, sN_pL, sR_pL, sI_pL, sK_pR, sN_pR, sI_pR, sL_pR, sI_pI_eq, sI_pI_ne, sL_pL_eq, sL_pL_ne, sR_pR_eq, sR_pR_ne, nn_le, nat32_lt, nn_eq, ln_le, nl_le, ln_lt, nl_lt, ln_eq, nl_eq, n_m1, n_lt0, vp_n, vp_l, lc_n, nat32c, n_s, nI_n, be, t]
    exact k
  · rw [if_neg t] at k
    simp (disch := first | omega | decide) only [Option.some.injEq, exists_eq_left', exists_eq_left, forall_eq, forall_eq', true_and, and_true, true_implies, implies_true, false_implies, not_true_eq_false, not_false_eq_true, reduceCtorEq, and_self, forall_const, i10, i01, if_true, if_false, and_false, false_and, Nat.not_lt_zero, sK_pI, sN_pI, sR_pI, sL_pI, sK_pL, sN_pL, sR_pL, sI_pL, sK_pR, sN_pR, sI_pR, sL_pR, sI_pI_eq, sI_pI_ne, sL_pL_eq, sL_pL_ne, sR_pR_eq, sR_pR_ne, nn_le, nat32_lt, nn_eq, ln_le, nl_le, ln_lt, nl_lt, ln_eq, nl_eq, n_m1, n_lt0, vp_n, vp_l, lc_n, nat32c, n_s, nI_n, be, t]
    exact k
theorem x_stands {Q : Int32 → Prop} (h : IV S S2 nC nR nT nK nL nM nP td N lh) (hc : c < nC) (hb : ¬ sI S2 1112 c = 0) (hr : ∀ j, o = some j → j < nL) (k1 : sI S2 1122 c = lawV S2 o 6 + 1 → Q 1) (k0 : ¬ sI S2 1122 c = lawV S2 o 6 + 1 → Q 0) : P_X0_standsTooLong (3000 + c) (some (lawH lh o)) S Q := by
  obtain ⟨hk, hM, hS, hU, hA, hW, hB, hC, hR, hT, hK, hL, hZ, hP, hN⟩ := h
  obtain ⟨be, bb⟩ := (hB c (by have := hC.2.1; omega)).2.2.2 hb
  unfold P_X0_standsTooLong
  simp (disch := first | omega | decide) only [Option.some.injEq, exists_eq_left', exists_eq_left, forall_eq, forall_eq', true_and, and_true, true_implies, implies_true, false_implies, not_true_eq_false, not_false_eq_true, reduceCtorEq, and_self, forall_const, i10, i01, if_true, if_false, and_false, false_and, Nat.not_lt_zero, sK_pI, sN_pI, sR_pI, sL_pI, sK_pL, sN_pL, sR_pL, sI_pL, sK_pR, sN_pR, sI_pR, sL_pR, sI_pI_eq, sI_pI_ne, sL_pL_eq, sL_pL_ne, sR_pR_eq, sR_pR_ne, nn_le, nat32_lt, nn_eq, ln_le, nl_le, ln_lt, nl_lt, ln_eq, nl_eq, n_m1, n_lt0, vp_n, vp_l, lc_n, nat32c, n_s, nI_n, be, lawH_k hS hL hr, value_l (w := 6) hS hL hr (by omega)]
  exact ⟨k1, k0⟩
theorem pI_same {a k : Nat} {v : Int32} (h : sI S a k = v) : pI S a k v = S := by
  have e : va_up S.2.2.1 a (va_up (S.2.2.1 a) k v) = S.2.2.1 := by
    funext x j
    have := sI_pI S a k v x j
    show sI (pI S a k v) x j = sI S x j
    rw [this]
    by_cases q : x = a ∧ j = k
    · rw [if_pos q, q.1, q.2, h]
    · rw [if_neg q]
  show (S.1, S.2.1, va_up S.2.2.1 a (va_up (S.2.2.1 a) k v), S.2.2.2) = S
  rw [e]
theorem iv_thaw (h : IV S S2 nC nR nT nK nL nM nP td N lh) (hc : c < nC) (hb : ¬ sI S2 1112 c = 0) : IV (pI S (3000 + c) 6 0) (pI S2 1120 c 0) nC nR nT nK nL nM nP td N lh := iv_bed h hc hb (by omega) ⟨fun z => absurd z (by decide), fun z => absurd z (by decide), fun z => absurd z (by decide), fun z => absurd z (by decide)⟩
theorem x_thaw {y : Nat} {Q : Unit → Sg → Prop} (h : IV S S2 nC nR nT nK nL nM nP td N lh) (hc : c < nC) (hb : ¬ sI S2 1112 c = 0) (hr : ∀ j, o = some j → j < nL) (hy : y < 365) (k : ∀ S', IV S' (aW S2 o y c) nC nR nT nK nL nM nP td N lh → Q () S') : P_X0_meetThaw (3000 + c) (some (lawH lh o)) (Int32.ofNat y) S Q := by
  have h0 := h
  obtain ⟨hk, hM, hS, hU, hA, hW, hB, hC, hR, hT, hK, hL, hZ, hP, hN⟩ := h
  obtain ⟨be, bb⟩ := (hB c (by have := hC.2.1; omega)).2.2.2 hb
  have bp := bb.2.2.2.1
  unfold aW at k
  unfold P_X0_meetThaw P_X0_meetThaw_B30 P_X0_meetThaw_B31
  by_cases y6 : y = 60
  · subst y6
    rw [if_pos rfl] at k
    have kz : ¬ sI S2 1120 c ≤ lawV S2 o 5 → Q () (pI (pI S (3000 + c) 7 0) (3000 + c) 6 0) := fun z => by
      rw [if_neg z] at k
      have h1 := iv_bed (f := 7) (a := 1114) (v := 0) h0 hc hb (by omega) ⟨fun z => absurd z (by decide), fun z => absurd z (by decide), fun z => absurd z (by decide), fun _ => Or.inl rfl⟩
      exact k _ (iv_thaw h1 hc (by simp (disch := first | omega | decide) only [Option.some.injEq, exists_eq_left', exists_eq_left, forall_eq, forall_eq', true_and, and_true, true_implies, implies_true, false_implies, not_true_eq_false, not_false_eq_true, reduceCtorEq, and_self, forall_const, i10, i01, if_true, if_false, and_false, false_and, Nat.not_lt_zero, sK_pI, sN_pI, sR_pI, sL_pI, sK_pL, sN_pL, sR_pL, sI_pL, sK_pR, sN_pR, sI_pR, sL_pR, sI_pI_eq, sI_pI_ne, sL_pL_eq, sL_pL_ne, sR_pR_eq, sR_pR_ne, nn_le, nat32_lt, nn_eq, ln_le, nl_le, ln_lt, nl_lt, ln_eq, nl_eq, n_m1, n_lt0, vp_n, vp_l, lc_n, nat32c, n_s, nI_n, hb]))
    have ks : sI S2 1120 c ≤ lawV S2 o 5 → Q () (pI S (3000 + c) 6 0) := fun z => by
      rw [if_pos z] at k
      exact k _ (iv_thaw h0 hc hb)
    by_cases p : sI S2 1114 c = 0
    · have e : pI S (3000 + c) 7 0 = S := pI_same (be.2.2.2.2.2.2.2.2.2.2.2.1.trans p)
      have e2 : pI S2 1114 c 0 = S2 := pI_same p
      simp (disch := first | omega | decide) only [Option.some.injEq, exists_eq_left', exists_eq_left, forall_eq, forall_eq', true_and, and_true, true_implies, implies_true, false_implies, not_true_eq_false, not_false_eq_true, reduceCtorEq, and_self, forall_const, i10, i01, if_true, if_false, and_false, false_and, Nat.not_lt_zero, sK_pI, sN_pI, sR_pI, sL_pI, sK_pL, sN_pL, sR_pL, sI_pL, sK_pR, sN_pR, sI_pR, sL_pR, sI_pI_eq, sI_pI_ne, sL_pL_eq, sL_pL_ne, sR_pR_eq, sR_pR_ne, nn_le, nat32_lt, nn_eq, ln_le, nl_le, ln_lt, nl_lt, ln_eq, nl_eq, n_m1, n_lt0, vp_n, vp_l, lc_n, nat32c, n_s, nI_n, be, p, show bz 0 from Or.inl rfl]
      by_cases z : sI S2 1120 c ≤ lawV S2 o 5
      · rw [e]; exact ks z
      · exact kz z
    · have p1 : sI S2 1114 c = 1 := by
        rcases bp with q | q
        · exact absurd q p
        · exact q
      have e : pI S (3000 + c) 7 1 = S := pI_same (be.2.2.2.2.2.2.2.2.2.2.2.1.trans p1)
      simp (disch := first | omega | decide) only [Option.some.injEq, exists_eq_left', exists_eq_left, forall_eq, forall_eq', true_and, and_true, true_implies, implies_true, false_implies, not_true_eq_false, not_false_eq_true, reduceCtorEq, and_self, forall_const, i10, i01, if_true, if_false, and_false, false_and, Nat.not_lt_zero, sK_pI, sN_pI, sR_pI, sL_pI, sK_pL, sN_pL, sR_pL, sI_pL, sK_pR, sN_pR, sI_pR, sL_pR, sI_pI_eq, sI_pI_ne, sL_pL_eq, sL_pL_ne, sR_pR_eq, sR_pR_ne, nn_le, nat32_lt, nn_eq, ln_le, nl_le, ln_lt, nl_lt, ln_eq, nl_eq, n_m1, n_lt0, vp_n, vp_l, lc_n, nat32c, n_s, nI_n, be, p1, lawH_k hS hL hr, value_l (w := 5) hS hL hr (by omega), show bz 0 from Or.inl rfl, show bz 1 from Or.inr rfl]
      refine ⟨fun z => kz (Int32.not_le.mpr z), fun z => ?_⟩
      rw [e]; exact ks (Int32.not_lt.mp z)
  · rw [if_neg y6] at k
    simp (disch := first | omega | decide) only [Option.some.injEq, exists_eq_left', exists_eq_left, forall_eq, forall_eq', true_and, and_true, true_implies, implies_true, false_implies, not_true_eq_false, not_false_eq_true, reduceCtorEq, and_self, forall_const, i10, i01, if_true, if_false, and_false, false_and, Nat.not_lt_zero, sK_pI, sN_pI, sR_pI, sL_pI, sK_pL, sN_pL, sR_pL, sI_pL, sK_pR, sN_pR, sI_pR, sL_pR, sI_pI_eq, sI_pI_ne, sL_pL_eq, sL_pL_ne, sR_pR_eq, sR_pR_ne, nn_le, nat32_lt, nn_eq, ln_le, nl_le, ln_lt, nl_lt, ln_eq, nl_eq, n_m1, n_lt0, vp_n, vp_l, lc_n, nat32c, n_s, nI_n, y6]
    exact k _ h0
end AG
