/-! ===== level 2: the reference's day, and pass ===== -/
section PA
variable {S S2 : Sg} {nC nR nT nK nL nM nP td N : Nat} {lh : Nat → Nat} {o : Option Nat} {c : Nat}
theorem tellM_vw {k d c : Int32} {x : Nat} (h1 : ¬ x = 1000) (h2 : ¬ (1161 ≤ x ∧ x ≤ 1166)) : vw (tellM S2 c k d) x = vw S2 x := by
  unfold tellM
  split
  · unfold joinM; simp (disch := first | omega | decide) only [vw_pI]
  · split
    · unfold newM; simp (disch := first | omega | decide) only [vw_pI]
    · rfl
theorem aB_law {td x : Nat} (h1 : 1168 ≤ x) (h2 : x ≤ 1174) : vw (aB S2 o td c) x = vw S2 x := by
  have e : vw (aL (aC S2 o c) o (td % 365) c) x = vw S2 x := by
    unfold aL
    split
    · unfold aC; simp (disch := first | omega | decide) only [vw_pI]
    · unfold aC; simp (disch := first | omega | decide) only [vw_pI]
  unfold aB aS aH
  rw [vw_pI (by omega), vw_pL (by omega), vw_pI (by omega)]
  exact e
theorem ages_law {td x : Nat} (h1 : 1168 ≤ x) (h2 : x ≤ 1174) : vw (agesM S2 o td c) x = vw S2 x := by
  have e : vw (aT (aB S2 o td c) o td c) x = vw S2 x := by
    unfold aT
    split
    · rw [tellM_vw (by omega) (by omega)]; exact aB_law h1 h2
    · exact aB_law h1 h2
  unfold agesM aW
  split
  · rw [vw_pI (by omega)]
    split
    · exact e
    · rw [vw_pI (by omega)]; exact e
  · exact e
theorem beds_law {td x : Nat} (h1 : 1168 ≤ x) (h2 : x ≤ 1174) : ∀ n, vw (bedsM S2 o td n) x = vw S2 x
  | 0 => rfl
  | n + 1 => by
    rw [bedsM_s]
    split
    · exact beds_law h1 h2 n
    · rw [ages_law h1 h2]; exact beds_law h1 h2 n
theorem roofs_law {x : Nat} (h1 : 1168 ≤ x) (h2 : x ≤ 1174) : ∀ n, vw (roofsM S2 n) x = vw S2 x
  | 0 => rfl
  | n + 1 => by
    show vw (roofM (roofsM S2 n) n) x = _
    unfold roofM
    rw [vw_pL (by omega), vw_pI (by omega)]
    exact roofs_law h1 h2 n
theorem cntK_tell60 {k d c : Int32} (h : cntK S2 ≤ 60) : cntK (tellM S2 c k d) ≤ 60 := by
  unfold tellM
  split
  · exact h
  · split
    · rename_i h2
      rw [cntK_new (by omega)]; omega
    · exact h
theorem cntK_ages60 {td : Nat} (h : cntK S2 ≤ 60) : cntK (agesM S2 o td c) ≤ 60 := by
  unfold agesM
  rw [cntK_aW]
  have e : cntK (aB S2 o td c) = cntK S2 := cntK_aB
  unfold aT
  split
  · exact cntK_tell60 (by omega)
  · omega
theorem cntK_beds60 {td : Nat} (h : cntK S2 ≤ 60) : ∀ n, cntK (bedsM S2 o td n) ≤ 60
  | 0 => h
  | n + 1 => by
    rw [bedsM_s]
    split
    · exact cntK_beds60 h n
    · exact cntK_ages60 (cntK_beds60 h n)
noncomputable def dayT (S2 : Sg) (nC nR td : Nat) (o : Option Nat) : Sg := turnsO (roofsM (bedsM S2 o td nC) nR) nC td o
noncomputable def dayM (S2 : Sg) (nC nR td : Nat) (o : Option Nat) : Sg := pI (dayT S2 nC nR td o) 1000 0 (Int32.ofNat (td + 1))
def GDay (M : Sg) (nC nR nT nL nM nP td : Nat) (lh : Nat → Nat) (o : Option Nat) : Prop := (∀ i, i ≤ nC → GD (bedsM M o td i) nC nR nT nL nM nP td lh) ∧ (∀ i, i ≤ nR → GD (roofsM (bedsM M o td nC) i) nC nR nT nL nM nP td lh) ∧ ∀ r, o = some r → ∀ s, s ≤ (sI (roofsM (bedsM M o td nC) nR) 1168 r).toNatClampNeg → GD (turnsM (roofsM (bedsM M o td nC) nR) (some r) nC td r s) nC nR nT nL nM nP td lh
theorem x_goBy {b : Nat × Nat} {Q : Unit → Sg → Prop} (h : IV S S2 nC nR nT nK nL nM nP td N lh) (hr : ∀ j, o = some j → j < nL) (hb1 : 2 * (cntK (bedsM S2 o td nC) - nK) ≤ b.1) (hb2 : 136 * (cntK (bedsM S2 o td nC) - nK) ≤ b.2) (k : ∀ S' nK' N', IV S' (dayT S2 nC nR td o) nC nR nT nK' nL nM nP td N' lh → nK' = cntK (bedsM S2 o td nC) → GDay S2 nC nR nT nL nM nP td lh o → Q () S') : P_X10_goBy 1000 (some (lawH lh o)) S b Q := by
  unfold P_X10_goBy
  have h0 := h
  obtain ⟨hk, hM, hS, hU, hA, hW, hB, hC, hR, hT, hK, hL, hZ, hP, hN⟩ := h
  have htd := hZ.2.2.2.2.2.1
  refine ⟨hS.1.1, fun x2 hx2 => ?_⟩
  rw [hZ.2.2.2.1, ymod (by omega)] at hx2
  subst hx2
  refine x_beds h0 hr hb1 hb2 (fun S1 nK1 N1 b1 h1 g1 => x_roofs h1 (fun S3 h2 g2 => x_turns h2 hr (fun S4 h3 g3 => k S4 nK1 N1 h3 ?_ ⟨g1, g2, g3⟩)))
  exact (cntK_e h1.2.2.2.2.2.2.2.2.2.2.1).symm
theorem m_turn1 {r s st : Nat} {Q : Unit → Sg → Prop} {K : Int32 → Sg → Prop} (h : IV S S2 nC nR nT nK nL nM nP td N lh) (ho : inF S2 (Int32.ofNat td) nL = some r) (hst : st ≤ 24) (e : sI S2 1168 r = Int32.ofNat st) (hs : s < st) (k : K (Int32.ofNat (24 * r + s + 1)) (turnM S2 (some r) nC td (24 * r + s))) : P_X11_turns_L14b 1000 (Int32.ofNat r) (Int32.ofNat (24 * r + s)) S2 Q K := by
  have h0 := h
  have hr : r < nL := inF_lt ho
  obtain ⟨hk, hM, hS, hU, hA, hW, hB, hC, hR, hT, hK, hL, hZ, hP, hN⟩ := h
  have hn := hC.2.1
  have hnL := hL.2.1
  have htd := hZ.2.2.2.2.2.1
  have h11 : r < 11 := by omega
  have h264 : 24 * r + s < 264 := by omega
  obtain ⟨-, st', st24, s2, hlw⟩ := hL.2.2.2 r hr
  rw [e, nn_eq (by omega) (by omega)] at s2
  subst s2
  obtain ⟨-, -, -, q1, q2, th, -, -, -, -, -, -, -, -, g9⟩ := hlw
  have tE := g9 s hs
  have b139 : ∀ σ, K (Int32.ofNat (24 * r + s + 1)) σ → P_X11_turns_B139 1000 (Int32.ofNat r) (Int32.ofNat (24 * r + s)) σ Q K := fun σ hσ => by
    unfold P_X11_turns_B139
    intro x hx
    rw [hx, n_s]; exact hσ
  have same : ¬ tWhen S2 nC td (24 * r + s) → P_X11_turns_B139 1000 (Int32.ofNat r) (Int32.ofNat (24 * r + s)) S2 Q K := fun z => by
    unfold turnM at k
    rw [if_neg z] at k
    exact b139 _ k
  unfold P_X11_turns_L14b
  refine ⟨fun q => absurd ((n_m1 (by omega)).mp q) id, fun _ => ⟨hM.o, 1168, hM.a68.1, hM.a68.2.1, by simp (disch := first | omega | decide) only [Option.some.injEq, exists_eq_left', exists_eq_left, forall_eq, forall_eq', true_and, and_true, true_implies, implies_true, false_implies, not_true_eq_false, not_false_eq_true, reduceCtorEq, and_self, forall_const, i10, i01, if_true, if_false, and_false, false_and, Nat.not_lt_zero, sK_pI, sN_pI, sR_pI, sL_pI, sK_pL, sN_pL, sR_pL, sI_pL, sK_pR, sN_pR, sI_pR, sL_pR, sI_pI_eq, sI_pI_ne, sL_pL_eq, sL_pL_ne, sR_pR_eq, sR_pR_ne, nn_le, nat32_lt, nn_eq, ln_le, nl_le, ln_lt, nl_lt, ln_eq, nl_eq, n_m1, n_lt0, vp_n, vp_l, lc_n, nat32c, n_s, nI_n, hM.a68, h11], fun c => ?_, fun _ => ?_⟩⟩
  · rw [nat32c (by omega), e, show (24 : Int32) * Int32.ofNat r = Int32.ofNat (24 * r) from l_mul, n_add, nn_le (by omega) (by omega)] at c
    omega
  · rw [hZ.2.2.2.2.1]
    refine isTurn_e hM hC.2.2.1 h264 (fun z => ?_) (fun z => ?_) (fun z => ⟨fun _ => same (fun w => z w.1), fun w => absurd rfl w⟩)
    · obtain ⟨-, -, -, -, -, -, -, -, ⟨ev, ev1, ev2, e3⟩, -⟩ := tE z
      rw [e3]
      intro q
      have q : Int32.ofNat ev = Int32.ofNat 0 := q
      rw [nn_eq (by omega) (by omega)] at q
      omega
    · refine ⟨fun w => absurd w (by decide), fun _ => ?_⟩
      obtain ⟨t1, t2, t3, t4, t5, t6, ⟨n, -, n2, e1⟩, ⟨c, -, c2, e2⟩, t9, t10⟩ := tE z.1
      have hc : c < nC := by
        have := z.2.2.1
        rw [e2, nn_le (by omega) (by omega)] at this
        omega
      have hn10 : n < 10 := by
        have := z.2.1
        rw [e1, show (10 : Int32) ≤ Int32.ofNat n ↔ 10 ≤ n from ln_le (k := 10) (by omega) (by omega)] at this
        omega
      refine ⟨1172, hM.a72.1, hM.a72.2.1, by simp (disch := first | omega | decide) only [Option.some.injEq, exists_eq_left', exists_eq_left, forall_eq, forall_eq', true_and, and_true, true_implies, implies_true, false_implies, not_true_eq_false, not_false_eq_true, reduceCtorEq, and_self, forall_const, i10, i01, if_true, if_false, and_false, false_and, Nat.not_lt_zero, sK_pI, sN_pI, sR_pI, sL_pI, sK_pL, sN_pL, sR_pL, sI_pL, sK_pR, sN_pR, sI_pR, sL_pR, sI_pI_eq, sI_pI_ne, sL_pL_eq, sL_pL_ne, sR_pR_eq, sR_pR_ne, nn_le, nat32_lt, nn_eq, ln_le, nl_le, ln_lt, nl_lt, ln_eq, nl_eq, n_m1, n_lt0, vp_n, vp_l, lc_n, nat32c, n_s, nI_n, hM.a72, h264], ?_⟩
      rw [nat32c (by omega), e2]
      by_cases hb : sI S2 1112 c = 0
      · rw [isBed_n hM hC.2.2.1 hC.2.1 hc hb]
        exact ⟨fun _ => same (fun w => w.2 (by rw [e2, nat32c (by omega)]; exact hb)), fun w => absurd rfl w⟩
      · rw [isBed_y hM hC.2.2.1 hC.2.1 hc hb]
        refine ⟨fun w => absurd w (by decide), fun _ => ?_⟩
        have yes : tWhen S2 nC td (24 * r + s) := ⟨z, by rw [e2, nat32c (by omega)]; exact hb⟩
        unfold turnM at k
        rw [if_pos yes] at k
        unfold tDo at k
        rw [e1, e2, nat32c (by omega), nat32c (by omega)] at k
        have hca : 11 * c + n < 132 := by omega
        have hkp : 10 * (td / 365) + n < 100 := by omega
        by_cases cr : sI S2 1124 (11 * c + n) = Int32.ofNat td
        · rw [if_pos cr] at k
          simp (disch := first | omega | decide) only [Option.some.injEq, exists_eq_left', exists_eq_left, forall_eq, forall_eq', true_and, and_true, true_implies, implies_true, false_implies, not_true_eq_false, not_false_eq_true, reduceCtorEq, and_self, forall_const, i10, i01, if_true, if_false, and_false, false_and, Nat.not_lt_zero, sK_pI, sN_pI, sR_pI, sL_pI, sK_pL, sN_pL, sR_pL, sI_pL, sK_pR, sN_pR, sI_pR, sL_pR, sI_pI_eq, sI_pI_ne, sL_pL_eq, sL_pL_ne, sR_pR_eq, sR_pR_ne, nn_le, nat32_lt, nn_eq, ln_le, nl_le, ln_lt, nl_lt, ln_eq, nl_eq, n_m1, n_lt0, vp_n, vp_l, lc_n, nat32c, n_s, nI_n, hM.o, l_mul, n_add, n_addl, n_ladd, hM.a72, hM.a71, hM.a24, hM.a34, h264, e1, e2, hZ.2.2.2.2.1, cr, hca, hkp, n_divl]
          exact b139 _ k
        · rw [if_neg cr] at k
          simp (disch := first | omega | decide) only [Option.some.injEq, exists_eq_left', exists_eq_left, forall_eq, forall_eq', true_and, and_true, true_implies, implies_true, false_implies, not_true_eq_false, not_false_eq_true, reduceCtorEq, and_self, forall_const, i10, i01, if_true, if_false, and_false, false_and, Nat.not_lt_zero, sK_pI, sN_pI, sR_pI, sL_pI, sK_pL, sN_pL, sR_pL, sI_pL, sK_pR, sN_pR, sI_pR, sL_pR, sI_pI_eq, sI_pI_ne, sL_pL_eq, sL_pL_ne, sR_pR_eq, sR_pR_ne, nn_le, nat32_lt, nn_eq, ln_le, nl_le, ln_lt, nl_lt, ln_eq, nl_eq, n_m1, n_lt0, vp_n, vp_l, lc_n, nat32c, n_s, nI_n, hM.o, l_mul, n_add, n_addl, n_ladd, hM.a72, hM.a71, hM.a24, hM.a33, h264, e1, e2, hZ.2.2.2.2.1, cr, hca, hn10, n_divl]
          exact m_nowo (w := 3) h0 ho (by omega) (b139 _ k)
theorem m_turns {Q : Unit → Sg → Prop} (h : IV S S2 nC nR nT nK nL nM nP td N lh) (ho : inF S2 (Int32.ofNat td) nL = o) (g : ∀ r, o = some r → ∀ s, s ≤ (sI S2 1168 r).toNatClampNeg → GD (turnsM S2 (some r) nC td r s) nC nR nT nL nM nP td lh) (k : Q () (turnsO S2 nC td o)) : P_X11_turns 1000 S2 Q := by
  obtain ⟨hk, hM, hS, hU, hA, hW, hB, hC, hR, hT, hK, hL, hZ, hP, hN⟩ := h
  have hnL := hL.2.1
  unfold P_X11_turns
  refine ⟨hM.o, ?_⟩
  rw [hZ.2.2.2.2.1]
  refine m_inForce hM hL.2.2.1 hL.2.1 ?_
  rw [ho]
  intro x3 hx3
  subst hx3
  unfold P_X11_turns_L14
  cases o with
  | none =>
    refine ⟨fun n x σ => σ = S2, ⟨0, rfl⟩, ?_⟩
    rintro n x σ rfl
    unfold P_X11_turns_L14b
    exact ⟨fun _ => k, fun z => absurd rfl z⟩
  | some r =>
    have hlt : r < nL := inF_lt ho
    obtain ⟨-, st, s1, s2, -⟩ := hL.2.2.2 r hlt
    have g := g r rfl
    have k : Q () (turnsM S2 (some r) nC td r (sI S2 1168 r).toNatClampNeg) := k
    rw [s2, nat32c (by omega)] at g k
    refine lpS (N := 24 * r + st) (s0 := 24 * r) (R := fun j σ => ∃ s, s ≤ st ∧ j = 24 * r + s ∧ σ = turnsM S2 (some r) nC td r s) (B := fun x σ K => P_X11_turns_L14b 1000 (Int32.ofNat r) x σ Q K) l_mul (by omega) ⟨0, by omega, rfl, rfl⟩ (fun j hj σ hR K hK => ?_)
    obtain ⟨s, hs, rfl, rfl⟩ := hR
    obtain ⟨T, nK', N', hI⟩ := g s hs
    have l68 : sI (turnsM S2 (some r) nC td r s) 1168 r = Int32.ofNat st := by rw [vwI (turnsM_law 1168 (by omega) (by omega) s)]; exact s2
    by_cases e : s = st
    · subst e
      obtain ⟨tk, tM, tS, tU, tA, tW2, tB, tC, tR, tT, tK, tL, tZ, tP, tN⟩ := hI
      have h11 : r < 11 := by omega
      unfold P_X11_turns_L14b
      refine ⟨fun q => absurd ((n_m1 (by omega)).mp q) id, fun _ => ⟨tM.o, 1168, tM.a68.1, tM.a68.2.1, by simp (disch := first | omega | decide) only [Option.some.injEq, exists_eq_left', exists_eq_left, forall_eq, forall_eq', true_and, and_true, true_implies, implies_true, false_implies, not_true_eq_false, not_false_eq_true, reduceCtorEq, and_self, forall_const, i10, i01, if_true, if_false, and_false, false_and, Nat.not_lt_zero, sK_pI, sN_pI, sR_pI, sL_pI, sK_pL, sN_pL, sR_pL, sI_pL, sK_pR, sN_pR, sI_pR, sL_pR, sI_pI_eq, sI_pI_ne, sL_pL_eq, sL_pL_ne, sR_pR_eq, sR_pR_ne, nn_le, nat32_lt, nn_eq, ln_le, nl_le, ln_lt, nl_lt, ln_eq, nl_eq, n_m1, n_lt0, vp_n, vp_l, lc_n, nat32c, n_s, nI_n, tM.a68, h11], fun _ => k, fun c => absurd ?_ c⟩⟩
      rw [nat32c (by omega), l68, show (24 : Int32) * Int32.ofNat r = Int32.ofNat (24 * r) from l_mul, n_add]
      exact Int32.le_refl _
    · exact m_turn1 hI (by rw [inF_keep (turnsM_law 1169 (by omega) (by omega) s)]; exact ho) s1 l68 (by omega) (hK (by omega) _ ⟨s + 1, by omega, rfl, rfl⟩)
theorem m_roofs {v1 v2 : Int32} {Q : Int32 → Sg → Prop} {K26 : Int32 → Sg → Prop} (g : ∀ i, i ≤ nR → GD (roofsM S2 i) nC nR nT nL nM nP td lh) (k : P_X11_turns 1000 (roofsM S2 nR) (fun _ σ25 => ∀ σ28 : Sg, σ28 = pI σ25 1000 0 ((sI σ25 1000 0) + 1) → ∀ x31 : Int32, x31 = v2 + 1 → K26 x31 σ28)) : P_X11_pass_L63 1000 v1 v2 0 S2 Q K26 := by
  unfold P_X11_pass_L63
  refine lpS (N := nR) (s0 := 0) (R := fun j σ => σ = roofsM S2 j) (B := fun x σ K => P_X11_pass_L63b 1000 v1 v2 x σ Q K26 K) rfl (Nat.zero_le _) rfl (fun j hj σ hR K hK => ?_)
  subst hR
  obtain ⟨T, nK', N', hI⟩ := g j hj
  obtain ⟨tk, tM, tS, tU, tA, tW2, tB, tC, tR, tT, tK, tL, tZ, tP, tN⟩ := hI
  have hn := tR.2.1
  unfold P_X11_pass_L63b
  refine ⟨tM.o, fun e => ?_, fun e => ?_⟩
  · rw [tR.2.2.1, nn_le (by omega) (by omega)] at e
    have e2 : j = nR := by omega
    subst e2; exact k
  · rw [tR.2.2.1, nn_le (by omega) (by omega)] at e
    have h30 : j < 30 := by omega
    have hlt : j < nR := by omega
    have z := hK hlt (roofM (roofsM S2 j) j) rfl
    unfold roofM fiveN at z
    simp (disch := first | omega | decide) only [Option.some.injEq, exists_eq_left', exists_eq_left, forall_eq, forall_eq', true_and, and_true, true_implies, implies_true, false_implies, not_true_eq_false, not_false_eq_true, reduceCtorEq, and_self, forall_const, i10, i01, if_true, if_false, and_false, false_and, Nat.not_lt_zero, sK_pI, sN_pI, sR_pI, sL_pI, sK_pL, sN_pL, sR_pL, sI_pL, sK_pR, sN_pR, sI_pR, sL_pR, sI_pI_eq, sI_pI_ne, sL_pL_eq, sL_pL_ne, sR_pR_eq, sR_pR_ne, nn_le, nat32_lt, nn_eq, ln_le, nl_le, ln_lt, nl_lt, ln_eq, nl_eq, n_m1, n_lt0, vp_n, vp_l, lc_n, nat32c, n_s, nI_n, tM.o, tM.a29, h30]
    exact z
theorem m_beds {v1 v2 : Int32} {Q : Int32 → Sg → Prop} {K26 : Int32 → Sg → Prop} (ho : inF S2 (Int32.ofNat td) nL = o) (g : ∀ i, i ≤ nC → GD (bedsM S2 o td i) nC nR nT nL nM nP td lh) (k : P_X11_pass_L63 1000 v1 v2 0 (bedsM S2 o td nC) Q K26) : P_X11_pass_L33 1000 v1 v2 0 S2 Q K26 := by
  unfold P_X11_pass_L33
  refine lpS (N := nC) (s0 := 0) (R := fun j σ => σ = bedsM S2 o td j) (B := fun x σ K => P_X11_pass_L33b 1000 v1 v2 x σ Q K26 K) rfl (Nat.zero_le _) rfl (fun j hj σ hR K hK => ?_)
  subst hR
  obtain ⟨T, nK', N', hI⟩ := g j hj
  have hI0 := hI
  obtain ⟨tk, tM, tS, tU, tA, tW2, tB, tC, tR, tT, tK, tL, tZ, tP, tN⟩ := hI
  have hn := tC.2.1
  unfold P_X11_pass_L33b P_X11_pass_B55
  refine ⟨tM.o, fun e => ?_, fun e => ?_⟩
  · rw [tC.2.2.1, nn_le (by omega) (by omega)] at e
    have e2 : j = nC := by omega
    subst e2; exact k
  · rw [tC.2.2.1, nn_le (by omega) (by omega)] at e
    have h12 : j < 12 := by omega
    have hlt : j < nC := by omega
    refine ⟨1112, tM.a12.1, tM.a12.2.1, by simp (disch := first | omega | decide) only [Option.some.injEq, exists_eq_left', exists_eq_left, forall_eq, forall_eq', true_and, and_true, true_implies, implies_true, false_implies, not_true_eq_false, not_false_eq_true, reduceCtorEq, and_self, forall_const, i10, i01, if_true, if_false, and_false, false_and, Nat.not_lt_zero, sK_pI, sN_pI, sR_pI, sL_pI, sK_pL, sN_pL, sR_pL, sI_pL, sK_pR, sN_pR, sI_pR, sL_pR, sI_pI_eq, sI_pI_ne, sL_pL_eq, sL_pL_ne, sR_pR_eq, sR_pR_ne, nn_le, nat32_lt, nn_eq, ln_le, nl_le, ln_lt, nl_lt, ln_eq, nl_eq, n_m1, n_lt0, vp_n, vp_l, lc_n, nat32c, n_s, nI_n, tM.a12, h12], fun hb => ?_, fun hb => ?_⟩
    · rw [nat32c (by omega)] at hb
      intro x hx
      rw [hx, n_s]
      exact hK hlt _ (by rw [bedsM_s, if_pos hb])
    · rw [nat32c (by omega)] at hb
      refine m_ages (o := o) hI0 (by rw [inF_keep (beds_law (by omega) (by omega) j)]; exact ho) hlt hb (fun x hx => ?_)
      rw [hx, n_s]
      exact hK hlt _ (by rw [bedsM_s, if_neg hb])
theorem m_day {v1 v2 : Int32} {Q : Int32 → Sg → Prop} {K26 : Int32 → Sg → Prop} (ho : inF S2 (Int32.ofNat td) nL = o) (g : GDay S2 nC nR nT nL nM nP td lh o) (k : K26 (v2 + 1) (dayM S2 nC nR td o)) : P_X11_pass_L33 1000 v1 v2 0 S2 Q K26 := by
  obtain ⟨g1, g2, g3⟩ := g
  obtain ⟨T, nK', N', hI⟩ := g2 nR (Nat.le_refl _)
  refine m_beds ho g1 (m_roofs g2 (m_turns hI (by rw [inF_keep (roofs_law (by omega) (by omega) nR), inF_keep (beds_law (by omega) (by omega) nC)]; exact ho) g3 ?_))
  intro σ28 e x31 hx
  have e0 : sI (turnsO (roofsM (bedsM S2 o td nC) nR) nC td o) 1000 0 = Int32.ofNat td := by
    cases o with
    | none => exact hI.2.2.2.2.2.2.2.2.2.2.2.2.1.2.2.2.2.1
    | some r =>
      obtain ⟨T', nK'', N'', hI'⟩ := g3 r rfl _ (Nat.le_refl _)
      exact hI'.2.2.2.2.2.2.2.2.2.2.2.2.1.2.2.2.2.1
  rw [hx, e, e0, n_s]
  exact k
noncomputable def daysM (S2 : Sg) (nC nR nL td : Nat) : Nat → Sg
  | 0 => S2
  | d + 1 => dayM (daysM S2 nC nR nL td d) nC nR (td + d) (inF (daysM S2 nC nR nL td d) (Int32.ofNat (td + d)) nL)
theorem x_days {n : Nat} {b : Nat × Nat} {Q : Int32 → Sg → Prop} (h : IV S S2 nC nR nT nK nL nM nP td N lh) (hn100 : n ≤ 100) (hn : td + n ≤ 3649) (hb1 : 2 * (60 - nK) ≤ b.1) (hb2 : 136 * (60 - nK) ≤ b.2) (k : ∀ S' nK' N', IV S' (daysM S2 nC nR nL td n) nC nR nT nK' nL nM nP (td + n) N' lh → (∀ i, i < n → GDay (daysM S2 nC nR nL td i) nC nR nT nL nM nP (td + i) lh (inF (daysM S2 nC nR nL td i) (Int32.ofNat (td + i)) nL)) → Q (Int32.ofNat (td + n)) S') : P_X10_pass_L26 1000 (Int32.ofNat n) 0 S b Q := by
  unfold P_X10_pass_L26
  refine lpSB (N := n) (s0 := 0) (R := fun j σ b => ∃ nKj Nj, IV σ (daysM S2 nC nR nL td j) nC nR nT nKj nL nM nP (td + j) Nj lh ∧ 2 * (60 - nKj) ≤ b.1 ∧ 136 * (60 - nKj) ≤ b.2 ∧ ∀ i, i < j → GDay (daysM S2 nC nR nL td i) nC nR nT nL nM nP (td + i) lh (inF (daysM S2 nC nR nL td i) (Int32.ofNat (td + i)) nL)) (B := fun x σ b K => P_X10_pass_L26b 1000 (Int32.ofNat n) x σ b Q K) rfl (Nat.zero_le _) ⟨nK, N, h, hb1, hb2, fun i hi => absurd hi (Nat.not_lt_zero _)⟩ (fun j hj σ b hR K hK => ?_)
  obtain ⟨nKj, Nj, hj0, c1, c2, c3⟩ := hR
  have hj1 := hj0
  obtain ⟨tk, tM, tS, tU, tA, tW2, tB, tC, tR, tT, tK, tL, tZ, tP, tN⟩ := hj0
  have hK60 := tK.2.1
  unfold P_X10_pass_L26b
  refine ⟨fun e => ?_, fun e => ?_⟩
  · rw [nn_le (by omega) (by omega)] at e
    have e2 : j = n := by omega
    subst e2
    rw [tZ.2.2.2.1]
    exact ⟨tS.1.1, k σ nKj Nj hj1 c3⟩
  · rw [nn_le (by omega) (by omega)] at e
    have hlt : j < n := by omega
    have ck := cntK_e tK
    have c60 := cntK_beds60 (S2 := daysM S2 nC nR nL td j) (o := inF (daysM S2 nC nR nL td j) (Int32.ofNat (td + j)) nL) (td := td + j) (by omega) nC
    have cm := cntK_beds (S2 := daysM S2 nC nR nL td j) (o := inF (daysM S2 nC nR nL td j) (Int32.ofNat (td + j)) nL) (td := td + j) (n := nC) 0 (Nat.zero_le _)
    have cm : cntK (daysM S2 nC nR nL td j) ≤ _ := cm
    refine ⟨tS.1.1, ?_⟩
    rw [tZ.2.2.2.1]
    refine x_lawOn tS tL ⟨(2 * (cntK (bedsM (daysM S2 nC nR nL td j) (inF (daysM S2 nC nR nL td j) (Int32.ofNat (td + j)) nL) (td + j) nC) - nKj), 136 * (cntK (bedsM (daysM S2 nC nR nL td j) (inF (daysM S2 nC nR nL td j) (Int32.ofNat (td + j)) nL) (td + j) nC) - nKj)), ?_, ?_, x_goBy hj1 (fun i hi => inF_lt hi) (Nat.le_refl _) (Nat.le_refl _) (fun S' nK' N' h' ck' g' σ16 e16 x hx => ?_)⟩
    · show 2 * _ ≤ _
      omega
    · show 136 * _ ≤ _
      omega
    · rw [h'.2.2.2.2.2.2.2.2.2.2.2.2.1.2.2.2.1, n_s] at e16
      rw [hx, n_s]
      have d := iv_day h' (by omega)
      rw [← e16] at d
      refine hK hlt _ _ ⟨nK', N', d, ?_, ?_, fun i hi => ?_⟩
      · show _ ≤ b.1 - 2 * _
        omega
      · show _ ≤ b.2 - 136 * _
        omega
      · rcases Nat.lt_or_ge i j with w | w
        · exact c3 i w
        · have : i = j := by omega
          subst this; exact g'
theorem m_days {n : Nat} {Q : Int32 → Sg → Prop} (h : IV S (daysM S2 nC nR nL td n) nC nR nT nK nL nM nP (td + n) N lh) (hn100 : n ≤ 100) (g : ∀ i, i < n → GDay (daysM S2 nC nR nL td i) nC nR nT nL nM nP (td + i) lh (inF (daysM S2 nC nR nL td i) (Int32.ofNat (td + i)) nL)) (k : Q (Int32.ofNat (td + n)) (daysM S2 nC nR nL td n)) : P_X11_pass_L26 1000 (Int32.ofNat n) 0 S2 Q := by
  unfold P_X11_pass_L26
  refine lpS (N := n) (s0 := 0) (R := fun j σ => σ = daysM S2 nC nR nL td j) (B := fun x σ K => P_X11_pass_L26b 1000 (Int32.ofNat n) x σ Q K) rfl (Nat.zero_le _) rfl (fun j hj σ hR K hK => ?_)
  subst hR
  unfold P_X11_pass_L26b
  refine ⟨fun e => ?_, fun e => ?_⟩
  · rw [nn_le (by omega) (by omega)] at e
    have e2 : j = n := by omega
    subst e2
    obtain ⟨tk, tM, tS, tU, tA, tW2, tB, tC, tR, tT, tK, tL, tZ, tP, tN⟩ := h
    rw [tZ.2.2.2.2.1]
    exact ⟨tM.o, k⟩
  · rw [nn_le (by omega) (by omega)] at e
    have hlt : j < n := by omega
    refine m_day rfl (g j hlt) ?_
    rw [n_s]
    exact hK hlt _ rfl
end PA
theorem pr_pass : Pr_pass Inv := by
  intro S S2 hI v1
  have hI0 := hI
  obtain ⟨hk, hM, hS, hU, hA, hW, hB, nC, nR, nT, nK, nL, nM, nP, td, N, lh, hC, hR, hT, hK, hL, hZ, hP, hN⟩ := hI
  have htd := hZ.2.2.2.2.2.1
  have hV : IV S S2 nC nR nT nK nL nM nP td N lh := ⟨hk, hM, hS, hU, hA, hW, hB, hC, hR, hT, hK, hL, hZ, hP, hN⟩
  unfold P_X10_pass P_X11_pass
  refine within_e.mpr ⟨fun w => ⟨hk, isIn_e.mpr ⟨fun _ => ⟨rfl, hI0⟩, fun z => absurd w z⟩⟩, fun w => ⟨hS.1.1, fun l => ?_, fun l => ?_⟩⟩
  · obtain ⟨n, n1, n2, rfl⟩ := inn_rg (lo := 1) (hi := 100) (by omega) (by omega) w
    rw [hZ.2.2.2.1, n_add, show Int32.ofNat (td + n) ≤ (3649 : Int32) ↔ td + n ≤ 3649 from nl_le (k := 3649) (by omega) (by omega)] at l
    refine x_days hV n2 l (by show _ ≤ 1000; omega) (by show _ ≤ 14000; omega) (fun S' nK' N' h' g' => ⟨h'.1, isIn_e.mpr ⟨fun z => absurd z w, fun _ => ⟨hM.o, fun _ => ?_, fun z => absurd ?_ z⟩⟩⟩)
    · exact m_days h' n2 g' ⟨rfl, iv_inv h'⟩
    · rw [hZ.2.2.2.2.1, show (3649 : Int32) = Int32.ofNat 3649 from rfl, ← Int32.ofNat_sub _ _ (by omega), nn_le (by omega) (by omega)]
      omega
  · obtain ⟨n, n1, n2, rfl⟩ := inn_rg (lo := 1) (hi := 100) (by omega) (by omega) w
    rw [hZ.2.2.2.1, n_add, show Int32.ofNat (td + n) ≤ (3649 : Int32) ↔ td + n ≤ 3649 from nl_le (k := 3649) (by omega) (by omega)] at l
    refine ⟨hk, isIn_e.mpr ⟨fun z => absurd z w, fun _ => ⟨hM.o, fun z => absurd z ?_, fun _ => ⟨rfl, hI0⟩⟩⟩⟩
    rw [hZ.2.2.2.2.1, show (3649 : Int32) = Int32.ofNat 3649 from rfl, ← Int32.ofNat_sub _ _ (by omega), nn_le (by omega) (by omega)]
    omega
