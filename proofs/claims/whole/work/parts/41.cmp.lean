/-! ===== level 2: the worst lot; storms compared ===== -/
section RW
variable {S S2 : Sg} {nC nR nT nK nL nM nP td N : Nat} {lh : Nat → Nat}
def lkf (S2 : Sg) (l : Int32) (i : Nat) : Int32 := if sI S2 1112 i = 0 then 0 else if sI S2 1115 i = l then (if sI S2 1123 i = -1 then 0 else 1) else 0
def grf (S2 : Sg) (l : Int32) (i : Nat) : Int32 := if sI S2 1112 i = 0 then 0 else if sI S2 1115 i = l then (if sI S2 1123 i = -1 then 0 else sI S2 1123 i) else 0
theorem x_looksOf {l : Int32} {Q : Int32 → Prop} (hS : GS S) (hC : GC S S2 nC) (hB : GB S S2) (k : Q (sm (lkf S2 l) nC)) : P_X10_looksOf 1000 l S Q := by
  have hn := hC.2.1
  unfold P_X10_looksOf P_X10_looksOf_L4
  refine lpA (N := nC) (s0 := 0) (R := fun j a => a = sm (lkf S2 l) j) (B := fun a x K => P_X10_looksOf_L4b 1000 l a x S Q K) rfl (by omega) rfl (fun j hj a ha K hK => ?_)
  subst ha
  unfold P_X10_looksOf_L4b P_X10_looksOf_B59 P_X10_looksOf_B60
  simp (disch := first | omega | decide) only [Option.some.injEq, exists_eq_left', exists_eq_left, forall_eq, forall_eq', true_and, and_true, true_implies, implies_true, false_implies, not_true_eq_false, not_false_eq_true, reduceCtorEq, and_self, forall_const, i10, i01, if_true, if_false, and_false, false_and, Nat.not_lt_zero, sK_pI, sN_pI, sR_pI, sL_pI, sK_pL, sN_pL, sR_pL, sI_pL, sK_pR, sN_pR, sI_pR, sL_pR, sI_pI_eq, sI_pI_ne, sL_pL_eq, sL_pL_ne, sR_pR_eq, sR_pR_ne, nn_le, nat32_lt, nn_eq, ln_le, nl_le, ln_lt, nl_lt, ln_eq, nl_eq, n_m1, n_lt0, vp_n, vp_l, lc_n, nat32c, n_s, nI_n, hS.1, hC.1.1, size_e hC.1]
  refine ⟨fun c => ?_, fun c => ?_⟩
  · have e : j = nC := by omega
    subst e; exact k
  · have hlt : j < nC := by omega
    have c0 := hC.2.2.2.1 j hlt
    have K2 : ∀ a', a' = sm (lkf S2 l) j + lkf S2 l j → K a' (Int32.ofNat (j + 1)) := fun a' h => hK hlt a' h
    unfold lkf at K2
    by_cases hb : sI S2 1112 j = 0
    · rw [if_pos hb] at K2
      simp (disch := first | omega | decide) only [Option.some.injEq, exists_eq_left', exists_eq_left, forall_eq, forall_eq', true_and, and_true, true_implies, implies_true, false_implies, not_true_eq_false, not_false_eq_true, reduceCtorEq, and_self, forall_const, i10, i01, if_true, if_false, and_false, false_and, Nat.not_lt_zero, sK_pI, sN_pI, sR_pI, sL_pI, sK_pL, sN_pL, sR_pL, sI_pL, sK_pR, sN_pR, sI_pR, sL_pR, sI_pI_eq, sI_pI_ne, sL_pL_eq, sL_pL_ne, sR_pR_eq, sR_pR_ne, nn_le, nat32_lt, nn_eq, ln_le, nl_le, ln_lt, nl_lt, ln_eq, nl_eq, n_m1, n_lt0, vp_n, vp_l, lc_n, nat32c, n_s, nI_n, get_e hC.1 hlt, c0, hb]
      exact K2 _ rfl
    · have be := ((hB j (by omega)).2.2.2 hb).1
      rw [if_neg hb] at K2
      by_cases hl : sI S2 1115 j = l
      · rw [if_pos hl] at K2
        by_cases hq : sI S2 1123 j = -1
        · rw [if_pos hq] at K2
          simp (disch := first | omega | decide) only [Option.some.injEq, exists_eq_left', exists_eq_left, forall_eq, forall_eq', true_and, and_true, true_implies, implies_true, false_implies, not_true_eq_false, not_false_eq_true, reduceCtorEq, and_self, forall_const, i10, i01, if_true, if_false, and_false, false_and, Nat.not_lt_zero, sK_pI, sN_pI, sR_pI, sL_pI, sK_pL, sN_pL, sR_pL, sI_pL, sK_pR, sN_pR, sI_pR, sL_pR, sI_pI_eq, sI_pI_ne, sL_pL_eq, sL_pL_ne, sR_pR_eq, sR_pR_ne, nn_le, nat32_lt, nn_eq, ln_le, nl_le, ln_lt, nl_lt, ln_eq, nl_eq, n_m1, n_lt0, vp_n, vp_l, lc_n, nat32c, n_s, nI_n, get_e hC.1 hlt, c0, hb, be, hl, hq]
          exact K2 _ rfl
        · rw [if_neg hq] at K2
          simp (disch := first | omega | decide) only [Option.some.injEq, exists_eq_left', exists_eq_left, forall_eq, forall_eq', true_and, and_true, true_implies, implies_true, false_implies, not_true_eq_false, not_false_eq_true, reduceCtorEq, and_self, forall_const, i10, i01, if_true, if_false, and_false, false_and, Nat.not_lt_zero, sK_pI, sN_pI, sR_pI, sL_pI, sK_pL, sN_pL, sR_pL, sI_pL, sK_pR, sN_pR, sI_pR, sL_pR, sI_pI_eq, sI_pI_ne, sL_pL_eq, sL_pL_ne, sR_pR_eq, sR_pR_ne, nn_le, nat32_lt, nn_eq, ln_le, nl_le, ln_lt, nl_lt, ln_eq, nl_eq, n_m1, n_lt0, vp_n, vp_l, lc_n, nat32c, n_s, nI_n, get_e hC.1 hlt, c0, hb, be, hl, hq]
          exact K2 _ rfl
      · rw [if_neg hl] at K2
        simp (disch := first | omega | decide) only [Option.some.injEq, exists_eq_left', exists_eq_left, forall_eq, forall_eq', true_and, and_true, true_implies, implies_true, false_implies, not_true_eq_false, not_false_eq_true, reduceCtorEq, and_self, forall_const, i10, i01, if_true, if_false, and_false, false_and, Nat.not_lt_zero, sK_pI, sN_pI, sR_pI, sL_pI, sK_pL, sN_pL, sR_pL, sI_pL, sK_pR, sN_pR, sI_pR, sL_pR, sI_pI_eq, sI_pI_ne, sL_pL_eq, sL_pL_ne, sR_pR_eq, sR_pR_ne, nn_le, nat32_lt, nn_eq, ln_le, nl_le, ln_lt, nl_lt, ln_eq, nl_eq, n_m1, n_lt0, vp_n, vp_l, lc_n, nat32c, n_s, nI_n, get_e hC.1 hlt, c0, hb, be, hl]
        exact K2 _ rfl
theorem x_gradesOf {l : Int32} {Q : Int32 → Prop} (hS : GS S) (hC : GC S S2 nC) (hB : GB S S2) (k : Q (sm (grf S2 l) nC)) : P_X10_gradesOf 1000 l S Q := by
  have hn := hC.2.1
  unfold P_X10_gradesOf P_X10_gradesOf_L4
  refine lpA (N := nC) (s0 := 0) (R := fun j a => a = sm (grf S2 l) j) (B := fun a x K => P_X10_gradesOf_L4b 1000 l a x S Q K) rfl (by omega) rfl (fun j hj a ha K hK => ?_)
  subst ha
  unfold P_X10_gradesOf_L4b P_X10_gradesOf_B63 P_X10_gradesOf_B64
  simp (disch := first | omega | decide) only [Option.some.injEq, exists_eq_left', exists_eq_left, forall_eq, forall_eq', true_and, and_true, true_implies, implies_true, false_implies, not_true_eq_false, not_false_eq_true, reduceCtorEq, and_self, forall_const, i10, i01, if_true, if_false, and_false, false_and, Nat.not_lt_zero, sK_pI, sN_pI, sR_pI, sL_pI, sK_pL, sN_pL, sR_pL, sI_pL, sK_pR, sN_pR, sI_pR, sL_pR, sI_pI_eq, sI_pI_ne, sL_pL_eq, sL_pL_ne, sR_pR_eq, sR_pR_ne, nn_le, nat32_lt, nn_eq, ln_le, nl_le, ln_lt, nl_lt, ln_eq, nl_eq, n_m1, n_lt0, vp_n, vp_l, lc_n, nat32c, n_s, nI_n, hS.1, hC.1.1, size_e hC.1]
  refine ⟨fun c => ?_, fun c => ?_⟩
  · have e : j = nC := by omega
    subst e; exact k
  · have hlt : j < nC := by omega
    have c0 := hC.2.2.2.1 j hlt
    have K2 : ∀ a', a' = sm (grf S2 l) j + grf S2 l j → K a' (Int32.ofNat (j + 1)) := fun a' h => hK hlt a' h
    unfold grf at K2
    by_cases hb : sI S2 1112 j = 0
    · rw [if_pos hb] at K2
      simp (disch := first | omega | decide) only [Option.some.injEq, exists_eq_left', exists_eq_left, forall_eq, forall_eq', true_and, and_true, true_implies, implies_true, false_implies, not_true_eq_false, not_false_eq_true, reduceCtorEq, and_self, forall_const, i10, i01, if_true, if_false, and_false, false_and, Nat.not_lt_zero, sK_pI, sN_pI, sR_pI, sL_pI, sK_pL, sN_pL, sR_pL, sI_pL, sK_pR, sN_pR, sI_pR, sL_pR, sI_pI_eq, sI_pI_ne, sL_pL_eq, sL_pL_ne, sR_pR_eq, sR_pR_ne, nn_le, nat32_lt, nn_eq, ln_le, nl_le, ln_lt, nl_lt, ln_eq, nl_eq, n_m1, n_lt0, vp_n, vp_l, lc_n, nat32c, n_s, nI_n, get_e hC.1 hlt, c0, hb]
      exact K2 _ rfl
    · have be := ((hB j (by omega)).2.2.2 hb).1
      rw [if_neg hb] at K2
      by_cases hl : sI S2 1115 j = l
      · rw [if_pos hl] at K2
        by_cases hq : sI S2 1123 j = -1
        · rw [if_pos hq] at K2
          simp (disch := first | omega | decide) only [Option.some.injEq, exists_eq_left', exists_eq_left, forall_eq, forall_eq', true_and, and_true, true_implies, implies_true, false_implies, not_true_eq_false, not_false_eq_true, reduceCtorEq, and_self, forall_const, i10, i01, if_true, if_false, and_false, false_and, Nat.not_lt_zero, sK_pI, sN_pI, sR_pI, sL_pI, sK_pL, sN_pL, sR_pL, sI_pL, sK_pR, sN_pR, sI_pR, sL_pR, sI_pI_eq, sI_pI_ne, sL_pL_eq, sL_pL_ne, sR_pR_eq, sR_pR_ne, nn_le, nat32_lt, nn_eq, ln_le, nl_le, ln_lt, nl_lt, ln_eq, nl_eq, n_m1, n_lt0, vp_n, vp_l, lc_n, nat32c, n_s, nI_n, get_e hC.1 hlt, c0, hb, be, hl, hq]
          exact K2 _ rfl
        · rw [if_neg hq] at K2
          simp (disch := first | omega | decide) only [Option.some.injEq, exists_eq_left', exists_eq_left, forall_eq, forall_eq', true_and, and_true, true_implies, implies_true, false_implies, not_true_eq_false, not_false_eq_true, reduceCtorEq, and_self, forall_const, i10, i01, if_true, if_false, and_false, false_and, Nat.not_lt_zero, sK_pI, sN_pI, sR_pI, sL_pI, sK_pL, sN_pL, sR_pL, sI_pL, sK_pR, sN_pR, sI_pR, sL_pR, sI_pI_eq, sI_pI_ne, sL_pL_eq, sL_pL_ne, sR_pR_eq, sR_pR_ne, nn_le, nat32_lt, nn_eq, ln_le, nl_le, ln_lt, nl_lt, ln_eq, nl_eq, n_m1, n_lt0, vp_n, vp_l, lc_n, nat32c, n_s, nI_n, get_e hC.1 hlt, c0, hb, be, hl, hq]
          exact K2 _ rfl
      · rw [if_neg hl] at K2
        simp (disch := first | omega | decide) only [Option.some.injEq, exists_eq_left', exists_eq_left, forall_eq, forall_eq', true_and, and_true, true_implies, implies_true, false_implies, not_true_eq_false, not_false_eq_true, reduceCtorEq, and_self, forall_const, i10, i01, if_true, if_false, and_false, false_and, Nat.not_lt_zero, sK_pI, sN_pI, sR_pI, sL_pI, sK_pL, sN_pL, sR_pL, sI_pL, sK_pR, sN_pR, sI_pR, sL_pR, sI_pI_eq, sI_pI_ne, sL_pL_eq, sL_pL_ne, sR_pR_eq, sR_pR_ne, nn_le, nat32_lt, nn_eq, ln_le, nl_le, ln_lt, nl_lt, ln_eq, nl_eq, n_m1, n_lt0, vp_n, vp_l, lc_n, nat32c, n_s, nI_n, get_e hC.1 hlt, c0, hb, be, hl]
        exact K2 _ rfl
def wstS (S2 : Sg) (nC : Nat) (w l : Int32) : Int32 := if sm (lkf S2 l) nC < 2 then w else if w = -1 then l else if sm (grf S2 l) nC * sm (lkf S2 w) nC ≤ sm (grf S2 w) nC * sm (lkf S2 l) nC then w else l
def wst (S2 : Sg) (nC : Nat) : Nat → Int32
  | 0 => -1
  | l + 1 => wstS S2 nC (wst S2 nC l) (Int32.ofNat l)
theorem wst_s {nC l : Nat} : wst S2 nC (l + 1) = wstS S2 nC (wst S2 nC l) (Int32.ofNat l) := rfl
theorem x_worstLot {Q : Int32 → Prop} (hS : GS S) (hC : GC S S2 nC) (hB : GB S S2) (k : Q (wst S2 nC 10)) : P_X10_worstLot 1000 S Q := by
  unfold P_X10_worstLot P_X10_worstLot_L4
  refine lpA (N := 10) (s0 := 0) (R := fun j a => a = wst S2 nC j) (B := fun a x K => P_X10_worstLot_L4b 1000 a x S Q K) rfl (by omega) rfl (fun j hj a ha K hK => ?_)
  subst ha
  unfold P_X10_worstLot_L4b P_X10_worstLot_B49 P_X10_worstLot_B51
  simp (disch := first | omega | decide) only [Option.some.injEq, exists_eq_left', exists_eq_left, forall_eq, forall_eq', true_and, and_true, true_implies, implies_true, false_implies, not_true_eq_false, not_false_eq_true, reduceCtorEq, and_self, forall_const, i10, i01, if_true, if_false, and_false, false_and, Nat.not_lt_zero, sK_pI, sN_pI, sR_pI, sL_pI, sK_pL, sN_pL, sR_pL, sI_pL, sK_pR, sN_pR, sI_pR, sL_pR, sI_pI_eq, sI_pI_ne, sL_pL_eq, sL_pL_ne, sR_pR_eq, sR_pR_ne, nn_le, nat32_lt, nn_eq, ln_le, nl_le, ln_lt, nl_lt, ln_eq, nl_eq, n_m1, n_lt0, vp_n, vp_l, lc_n, nat32c, n_s, nI_n, hS.1]
  refine ⟨fun c => ?_, fun c => ?_⟩
  · have e : j = 10 := by omega
    subst e; exact k
  · have K2 : ∀ a', a' = wstS S2 nC (wst S2 nC j) (Int32.ofNat j) → K a' (Int32.ofNat (j + 1)) := fun a' h => hK (by omega) a' h
    unfold wstS at K2
    refine x_looksOf hS hC hB ⟨fun d => ?_, fun d => ⟨fun e => ?_, fun e => ?_⟩⟩
    · rw [if_pos d] at K2; exact K2 _ rfl
    · rw [if_neg d, if_pos e] at K2; exact K2 _ rfl
    · rw [if_neg d, if_neg e] at K2
      refine x_gradesOf hS hC hB (x_looksOf hS hC hB (x_gradesOf hS hC hB (x_looksOf hS hC hB ⟨fun g => ?_, fun g => ?_⟩)))
      · rw [if_pos g] at K2; exact K2 _ rfl
      · rw [if_neg g] at K2; exact K2 _ rfl
theorem m_worstIn {v1 v2 v3 v4 l : Int32} {Q : Int32 → Prop} {K10 : Int32 → Int32 → Int32 → Int32 → Prop} (hM : MW S2) (hc : sI S2 1000 1 = Int32.ofNat nC) (hn : nC ≤ 12) (k : P_X11_worst_L26b 1000 v1 v2 v3 v4 l (sm (grf S2 l) nC) (sm (lkf S2 l) nC) (Int32.ofNat nC) S2 Q K10 (fun _ _ _ => False)) : P_X11_worst_L26 1000 v1 v2 v3 v4 l 0 0 0 S2 Q K10 := by
  unfold P_X11_worst_L26
  refine lpAA (N := nC) (s0 := 0) (R := fun j a b => a = sm (grf S2 l) j ∧ b = sm (lkf S2 l) j) (B := fun a b x K => P_X11_worst_L26b 1000 v1 v2 v3 v4 l a b x S2 Q K10 K) rfl (by omega) ⟨rfl, rfl⟩ (fun j hj a b hab K hK => ?_)
  obtain ⟨rfl, rfl⟩ := hab
  unfold P_X11_worst_L26b at k ⊢
  unfold P_X11_worst_B86
  simp (disch := first | omega | decide) only [Option.some.injEq, exists_eq_left', exists_eq_left, forall_eq, forall_eq', true_and, and_true, true_implies, implies_true, false_implies, not_true_eq_false, not_false_eq_true, reduceCtorEq, and_self, forall_const, i10, i01, if_true, if_false, and_false, false_and, Nat.not_lt_zero, sK_pI, sN_pI, sR_pI, sL_pI, sK_pL, sN_pL, sR_pL, sI_pL, sK_pR, sN_pR, sI_pR, sL_pR, sI_pI_eq, sI_pI_ne, sL_pL_eq, sL_pL_ne, sR_pR_eq, sR_pR_ne, nn_le, nat32_lt, nn_eq, ln_le, nl_le, ln_lt, nl_lt, ln_eq, nl_eq, n_m1, n_lt0, vp_n, vp_l, lc_n, nat32c, n_s, nI_n, hM.o, hc]
  simp (disch := first | omega | decide) only [Option.some.injEq, exists_eq_left', exists_eq_left, forall_eq, forall_eq', true_and, and_true, true_implies, implies_true, false_implies, not_true_eq_false, not_false_eq_true, reduceCtorEq, and_self, forall_const, i10, i01, if_true, if_false, and_false, false_and, Nat.not_lt_zero, sK_pI, sN_pI, sR_pI, sL_pI, sK_pL, sN_pL, sR_pL, sI_pL, sK_pR, sN_pR, sI_pR, sL_pR, sI_pI_eq, sI_pI_ne, sL_pL_eq, sL_pL_ne, sR_pR_eq, sR_pR_ne, nn_le, nat32_lt, nn_eq, ln_le, nl_le, ln_lt, nl_lt, ln_eq, nl_eq, n_m1, n_lt0, vp_n, vp_l, lc_n, nat32c, n_s, nI_n, hM.o, hc, Nat.le_refl] at k
  refine ⟨fun c => ?_, fun c => ?_⟩
  · have e : j = nC := by omega
    subst e; exact k
  · have hlt : j < nC := by omega
    have h12 : j < 12 := by omega
    have K2 : ∀ a' b', a' = sm (grf S2 l) j + grf S2 l j → b' = sm (lkf S2 l) j + lkf S2 l j → K a' b' (Int32.ofNat (j + 1)) := fun a' b' h h2 => hK hlt a' b' ⟨h, h2⟩
    by_cases hb : sI S2 1112 j = 0
    · have e1 : grf S2 l j = 0 := by unfold grf; rw [if_pos hb]
      have e2 : lkf S2 l j = 0 := by unfold lkf; rw [if_pos hb]
      simp (disch := first | omega | decide) only [Option.some.injEq, exists_eq_left', exists_eq_left, forall_eq, forall_eq', true_and, and_true, true_implies, implies_true, false_implies, not_true_eq_false, not_false_eq_true, reduceCtorEq, and_self, forall_const, i10, i01, if_true, if_false, and_false, false_and, Nat.not_lt_zero, sK_pI, sN_pI, sR_pI, sL_pI, sK_pL, sN_pL, sR_pL, sI_pL, sK_pR, sN_pR, sI_pR, sL_pR, sI_pI_eq, sI_pI_ne, sL_pL_eq, sL_pL_ne, sR_pR_eq, sR_pR_ne, nn_le, nat32_lt, nn_eq, ln_le, nl_le, ln_lt, nl_lt, ln_eq, nl_eq, n_m1, n_lt0, vp_n, vp_l, lc_n, nat32c, n_s, nI_n, hM.a12, h12, hb]
      exact K2 _ _ (by rw [e1]; simp) (by rw [e2]; simp)
    · by_cases hl : sI S2 1115 j = l
      · by_cases hq : sI S2 1123 j = -1
        · have e1 : grf S2 l j = 0 := by unfold grf; rw [if_neg hb, if_pos hl, if_pos hq]
          have e2 : lkf S2 l j = 0 := by unfold lkf; rw [if_neg hb, if_pos hl, if_pos hq]
          simp (disch := first | omega | decide) only [Option.some.injEq, exists_eq_left', exists_eq_left, forall_eq, forall_eq', true_and, and_true, true_implies, implies_true, false_implies, not_true_eq_false, not_false_eq_true, reduceCtorEq, and_self, forall_const, i10, i01, if_true, if_false, and_false, false_and, Nat.not_lt_zero, sK_pI, sN_pI, sR_pI, sL_pI, sK_pL, sN_pL, sR_pL, sI_pL, sK_pR, sN_pR, sI_pR, sL_pR, sI_pI_eq, sI_pI_ne, sL_pL_eq, sL_pL_ne, sR_pR_eq, sR_pR_ne, nn_le, nat32_lt, nn_eq, ln_le, nl_le, ln_lt, nl_lt, ln_eq, nl_eq, n_m1, n_lt0, vp_n, vp_l, lc_n, nat32c, n_s, nI_n, hM.a12, hM.a15, hM.a23, h12, hb, hl, hq]
          exact K2 _ _ (by rw [e1]; simp) (by rw [e2]; simp)
        · have e1 : grf S2 l j = sI S2 1123 j := by unfold grf; rw [if_neg hb, if_pos hl, if_neg hq]
          have e2 : lkf S2 l j = 1 := by unfold lkf; rw [if_neg hb, if_pos hl, if_neg hq]
          simp (disch := first | omega | decide) only [Option.some.injEq, exists_eq_left', exists_eq_left, forall_eq, forall_eq', true_and, and_true, true_implies, implies_true, false_implies, not_true_eq_false, not_false_eq_true, reduceCtorEq, and_self, forall_const, i10, i01, if_true, if_false, and_false, false_and, Nat.not_lt_zero, sK_pI, sN_pI, sR_pI, sL_pI, sK_pL, sN_pL, sR_pL, sI_pL, sK_pR, sN_pR, sI_pR, sL_pR, sI_pI_eq, sI_pI_ne, sL_pL_eq, sL_pL_ne, sR_pR_eq, sR_pR_ne, nn_le, nat32_lt, nn_eq, ln_le, nl_le, ln_lt, nl_lt, ln_eq, nl_eq, n_m1, n_lt0, vp_n, vp_l, lc_n, nat32c, n_s, nI_n, hM.a12, hM.a15, hM.a23, h12, hb, hl, hq]
          exact K2 _ _ (by rw [e1]) (by rw [e2])
      · have e1 : grf S2 l j = 0 := by unfold grf; rw [if_neg hb, if_neg hl]
        have e2 : lkf S2 l j = 0 := by unfold lkf; rw [if_neg hb, if_neg hl]
        simp (disch := first | omega | decide) only [Option.some.injEq, exists_eq_left', exists_eq_left, forall_eq, forall_eq', true_and, and_true, true_implies, implies_true, false_implies, not_true_eq_false, not_false_eq_true, reduceCtorEq, and_self, forall_const, i10, i01, if_true, if_false, and_false, false_and, Nat.not_lt_zero, sK_pI, sN_pI, sR_pI, sL_pI, sK_pL, sN_pL, sR_pL, sI_pL, sK_pR, sN_pR, sI_pR, sL_pR, sI_pI_eq, sI_pI_ne, sL_pL_eq, sL_pL_ne, sR_pR_eq, sR_pR_ne, nn_le, nat32_lt, nn_eq, ln_le, nl_le, ln_lt, nl_lt, ln_eq, nl_eq, n_m1, n_lt0, vp_n, vp_l, lc_n, nat32c, n_s, nI_n, hM.a12, hM.a15, h12, hb, hl]
        exact K2 _ _ (by rw [e1]; simp) (by rw [e2]; simp)
theorem m_worst {v : Int32} {Q : Int32 → Prop} (hM : MW S2) (hc : sI S2 1000 1 = Int32.ofNat nC) (hn : nC ≤ 12) (k0 : wst S2 nC 10 = -1 → Q (-1)) (k1 : ¬ wst S2 nC 10 = -1 → (v = 0 → Q (wst S2 nC 10)) ∧ (¬ v = 0 → (v = 1 → Q (sm (grf S2 (wst S2 nC 10)) nC)) ∧ (¬ v = 1 → (v = 2 → Q (sm (lkf S2 (wst S2 nC 10)) nC)) ∧ (¬ v = 2 → Q (-1))))) : P_X11_worst 1000 v S2 Q := by
  unfold P_X11_worst P_X11_worst_L10
  refine lpAAA (N := 10) (s0 := 0) (R := fun j a b c => a = wst S2 nC j ∧ (¬ a = -1 → b = sm (grf S2 a) nC ∧ c = sm (lkf S2 a) nC)) (B := fun a b c x K => P_X11_worst_L10b 1000 v a b c x S2 Q K) rfl (by omega) ⟨rfl, fun h => absurd rfl h⟩ (fun j hj a b c hab K hK => ?_)
  obtain ⟨rfl, hbc⟩ := hab
  unfold P_X11_worst_L10b
  simp (disch := first | omega | decide) only [Option.some.injEq, exists_eq_left', exists_eq_left, forall_eq, forall_eq', true_and, and_true, true_implies, implies_true, false_implies, not_true_eq_false, not_false_eq_true, reduceCtorEq, and_self, forall_const, i10, i01, if_true, if_false, and_false, false_and, Nat.not_lt_zero, sK_pI, sN_pI, sR_pI, sL_pI, sK_pL, sN_pL, sR_pL, sI_pL, sK_pR, sN_pR, sI_pR, sL_pR, sI_pI_eq, sI_pI_ne, sL_pL_eq, sL_pL_ne, sR_pR_eq, sR_pR_ne, nn_le, nat32_lt, nn_eq, ln_le, nl_le, ln_lt, nl_lt, ln_eq, nl_eq, n_m1, n_lt0, vp_n, vp_l, lc_n, nat32c, n_s, nI_n, hM.o]
  refine ⟨fun e => ?_, fun e => ?_⟩
  · have e : j = 10 := by omega
    subst e
    refine ⟨k0, fun h => ?_⟩
    obtain ⟨rfl, rfl⟩ := hbc h
    exact k1 h
  · have K2 : ∀ a', a' = wstS S2 nC (wst S2 nC j) (Int32.ofNat j) → ∀ b' c', (¬ a' = -1 → b' = sm (grf S2 a') nC ∧ c' = sm (lkf S2 a') nC) → K a' b' c' (Int32.ofNat (j + 1)) := fun a' h b' c' h2 => hK (by omega) a' b' c' ⟨h, h2⟩
    unfold wstS at K2
    refine m_worstIn hM hc hn ?_
    unfold P_X11_worst_L26b P_X11_worst_B118 P_X11_worst_B128
    refine ⟨hM.o, fun _ => ⟨fun d x hx => ?_, fun d => ⟨fun g x hx => ?_, fun g => ⟨fun q x hx => ?_, fun q x hx => ?_⟩⟩⟩, fun h => absurd (by rw [hc]; exact Int32.le_refl _) h⟩
    · rw [hx, n_s]; rw [if_pos d] at K2; exact K2 _ rfl _ _ hbc
    · rw [hx, n_s]; rw [if_neg d, if_pos g] at K2; exact K2 _ rfl _ _ (fun _ => ⟨rfl, rfl⟩)
    · rw [hx, n_s]
      obtain ⟨h1, h2⟩ := hbc g
      rw [h1, h2] at q
      rw [if_neg d, if_neg g, if_neg (Int32.not_le.mpr q)] at K2; exact K2 _ rfl _ _ (fun _ => ⟨rfl, rfl⟩)
    · rw [hx, n_s]
      obtain ⟨h1, h2⟩ := hbc g
      rw [h1, h2] at q
      rw [if_neg d, if_neg g, if_pos (Int32.not_lt.mp q)] at K2; exact K2 _ rfl _ _ hbc
/-! storms compared -/
def offL (a b : Int64) : Int64 := if 0 < a - b then a - b else -(a - b)
def lkS (S2 : Sg) (d : Int32) (D : Int64) (t : Nat) (p : Option Nat × Int64) (s : Nat) : Option Nat × Int64 :=
  if d ≤ sI S2 1158 s then p else if D * sL S2 1153 t < offL (sL S2 1153 s) (sL S2 1153 t) * 100 then p else if p.1 = none then (some s, offL (sL S2 1153 s) (sL S2 1153 t)) else if p.2 < offL (sL S2 1153 s) (sL S2 1153 t) then p else (some s, offL (sL S2 1153 s) (sL S2 1153 t))
def lkF (S2 : Sg) (d : Int32) (D : Int64) (t : Nat) : Nat → Option Nat × Int64
  | 0 => (none, 0)
  | s + 1 => lkS S2 d D t (lkF S2 d D t s) s
theorem lkF_lt {d : Int32} {D : Int64} {t : Nat} : ∀ {s b : Nat}, (lkF S2 d D t s).1 = some b → b < s
  | 0, b, h => by cases h
  | s + 1, b, h => by
    have ih : ∀ b, (lkF S2 d D t s).1 = some b → b < s := fun b h => lkF_lt h
    have h2 : (lkS S2 d D t (lkF S2 d D t s) s).1 = some b := h
    unfold lkS at h2
    by_cases c1 : d ≤ sI S2 1158 s
    · rw [if_pos c1] at h2; have := ih _ h2; omega
    · rw [if_neg c1] at h2
      by_cases c2 : D * sL S2 1153 t < offL (sL S2 1153 s) (sL S2 1153 t) * 100
      · rw [if_pos c2] at h2; have := ih _ h2; omega
      · rw [if_neg c2] at h2
        by_cases c3 : (lkF S2 d D t s).1 = none
        · rw [if_pos c3] at h2; cases h2; omega
        · rw [if_neg c3] at h2
          by_cases c4 : (lkF S2 d D t s).2 < offL (sL S2 1153 s) (sL S2 1153 t)
          · rw [if_pos c4] at h2; have := ih _ h2; omega
          · rw [if_neg c4] at h2; cases h2; omega
def hT5 : Option Nat → Option Nat
  | none => none
  | some s => some (5000 + s)
theorem hT5_n {o : Option Nat} : hT5 o = none ↔ o = none := by cases o <;> simp [hT5]
theorem x_like {d : Int32} {D : Int64} {t : Nat} {Q : Option Nat → Prop} (hS : GS S) (hT : GT S S2 nT) (ht : t < nT) (k : Q (hT5 (lkF S2 d D t nT).1)) : P_X10_likeAhead 1000 (some (5000 + t)) d D S Q := by
  have hn := hT.2.1
  have ct := hT.2.2.2.1 t ht
  unfold P_X10_likeAhead P_X10_likeAhead_L9
  refine lpAA (N := nT) (s0 := 0) (R := fun j a b => a = hT5 (lkF S2 d D t j).1 ∧ b = (lkF S2 d D t j).2) (B := fun a b x K => P_X10_likeAhead_L9b 1000 (some (5000 + t)) d D a b x S Q K) rfl (by omega) ⟨rfl, rfl⟩ (fun j hj a b hab K hK => ?_)
  obtain ⟨rfl, rfl⟩ := hab
  unfold P_X10_likeAhead_L9b P_X10_likeAhead_B82 P_X10_likeAhead_B83 P_X10_likeAhead_B103 P_X10_likeAhead_B111
  simp (disch := first | omega | decide) only [Option.some.injEq, exists_eq_left', exists_eq_left, forall_eq, forall_eq', true_and, and_true, true_implies, implies_true, false_implies, not_true_eq_false, not_false_eq_true, reduceCtorEq, and_self, forall_const, i10, i01, if_true, if_false, and_false, false_and, Nat.not_lt_zero, sK_pI, sN_pI, sR_pI, sL_pI, sK_pL, sN_pL, sR_pL, sI_pL, sK_pR, sN_pR, sI_pR, sL_pR, sI_pI_eq, sI_pI_ne, sL_pL_eq, sL_pL_ne, sR_pR_eq, sR_pR_ne, nn_le, nat32_lt, nn_eq, ln_le, nl_le, ln_lt, nl_lt, ln_eq, nl_eq, n_m1, n_lt0, vp_n, vp_l, lc_n, nat32c, n_s, nI_n, hS.1, hT.1.1, size_e hT.1]
  refine ⟨fun c => ?_, fun c => ?_⟩
  · have e : j = nT := by omega
    subst e; exact k
  · have hlt : j < nT := by omega
    have cj := hT.2.2.2.1 j hlt
    have K2 : ∀ p : Option Nat × Int64, p = lkS S2 d D t (lkF S2 d D t j) j → K (hT5 p.1) p.2 (Int32.ofNat (j + 1)) := fun p h => hK hlt _ _ ⟨by rw [h]; rfl, by rw [h]; rfl⟩
    unfold lkS offL at K2
    simp (disch := first | omega | decide) only [Option.some.injEq, exists_eq_left', exists_eq_left, forall_eq, forall_eq', true_and, and_true, true_implies, implies_true, false_implies, not_true_eq_false, not_false_eq_true, reduceCtorEq, and_self, forall_const, i10, i01, if_true, if_false, and_false, false_and, Nat.not_lt_zero, sK_pI, sN_pI, sR_pI, sL_pI, sK_pL, sN_pL, sR_pL, sI_pL, sK_pR, sN_pR, sI_pR, sL_pR, sI_pI_eq, sI_pI_ne, sL_pL_eq, sL_pL_ne, sR_pR_eq, sR_pR_ne, nn_le, nat32_lt, nn_eq, ln_le, nl_le, ln_lt, nl_lt, ln_eq, nl_eq, n_m1, n_lt0, vp_n, vp_l, lc_n, nat32c, n_s, nI_n, get_e hT.1 hlt, cj.1, cj.2.1, cj.2.2.1, ct.1, ct.2.2.1]
    refine ⟨fun c1 => ?_, fun c1 => ⟨fun c2 => ?_, fun c2 => ⟨fun c3 => ?_, fun b hb => ⟨fun c4 => ?_, fun c4 => ?_⟩⟩⟩⟩
    · rw [if_pos c1] at K2; exact K2 _ rfl
    · rw [if_neg c1, if_pos c2] at K2; exact K2 _ rfl
    · rw [if_neg c1, if_neg c2, if_pos (hT5_n.mp c3)] at K2; exact K2 _ rfl
    · have c3 : ¬ (lkF S2 d D t j).1 = none := fun e => by rw [e] at hb; cases hb
      rw [if_neg c1, if_neg c2, if_neg c3, if_pos c4] at K2; exact K2 _ rfl
    · have c3 : ¬ (lkF S2 d D t j).1 = none := fun e => by rw [e] at hb; cases hb
      rw [if_neg c1, if_neg c2, if_neg c3, if_neg c4] at K2; exact K2 _ rfl
theorem m_like {d : Int32} {t : Nat} {Q : Int32 → Prop} (hM : MW S2) (hL : GL S S2 nL lh) (hc : sI S2 1000 4 = Int32.ofNat nT) (hn : nT ≤ 40) (ht : t < nT) (k : Q (optI (lkF S2 d (lawV S2 (inF S2 (sI S2 1000 0) nL) 12).toInt64 t nT).1)) : P_X11_like 1000 (Int32.ofNat t) d S2 Q := by
  generalize hD : (lawV S2 (inF S2 (sI S2 1000 0) nL) 12).toInt64 = D at k
  have ht40 : t < 40 := by omega
  unfold P_X11_like P_X11_like_L8
  refine lpAA (N := nT) (s0 := 0) (R := fun j a b => a = optI (lkF S2 d D t j).1 ∧ b = (lkF S2 d D t j).2) (B := fun a b x K => P_X11_like_L8b 1000 (Int32.ofNat t) d a b x S2 Q K) rfl (by omega) ⟨rfl, rfl⟩ (fun j hj a b hab K hK => ?_)
  obtain ⟨rfl, rfl⟩ := hab
  unfold P_X11_like_L8b P_X11_like_B87 P_X11_like_B94
  simp (disch := first | omega | decide) only [Option.some.injEq, exists_eq_left', exists_eq_left, forall_eq, forall_eq', true_and, and_true, true_implies, implies_true, false_implies, not_true_eq_false, not_false_eq_true, reduceCtorEq, and_self, forall_const, i10, i01, if_true, if_false, and_false, false_and, Nat.not_lt_zero, sK_pI, sN_pI, sR_pI, sL_pI, sK_pL, sN_pL, sR_pL, sI_pL, sK_pR, sN_pR, sI_pR, sL_pR, sI_pI_eq, sI_pI_ne, sL_pL_eq, sL_pL_ne, sR_pR_eq, sR_pR_ne, nn_le, nat32_lt, nn_eq, ln_le, nl_le, ln_lt, nl_lt, ln_eq, nl_eq, n_m1, n_lt0, vp_n, vp_l, lc_n, nat32c, n_s, nI_n, hM.o, hc]
  refine ⟨fun c => ?_, fun c => ?_⟩
  · have e : j = nT := by omega
    subst e; exact k
  · have hlt : j < nT := by omega
    have h40 : j < 40 := by omega
    have K2 : ∀ p : Option Nat × Int64, p = lkS S2 d D t (lkF S2 d D t j) j → K (optI p.1) p.2 (Int32.ofNat (j + 1)) := fun p h => hK hlt _ _ ⟨by rw [h]; rfl, by rw [h]; rfl⟩
    unfold lkS offL at K2
    simp (disch := first | omega | decide) only [Option.some.injEq, exists_eq_left', exists_eq_left, forall_eq, forall_eq', true_and, and_true, true_implies, implies_true, false_implies, not_true_eq_false, not_false_eq_true, reduceCtorEq, and_self, forall_const, i10, i01, if_true, if_false, and_false, false_and, Nat.not_lt_zero, sK_pI, sN_pI, sR_pI, sL_pI, sK_pL, sN_pL, sR_pL, sI_pL, sK_pR, sN_pR, sI_pR, sL_pR, sI_pI_eq, sI_pI_ne, sL_pL_eq, sL_pL_ne, sR_pR_eq, sR_pR_ne, nn_le, nat32_lt, nn_eq, ln_le, nl_le, ln_lt, nl_lt, ln_eq, nl_eq, n_m1, n_lt0, vp_n, vp_l, lc_n, nat32c, n_s, nI_n, hM.a53, hM.a58, h40, ht40]
    refine ⟨fun c1 => ?_, fun c1 => m_now (w := 12) hM hL (by omega) ?_⟩
    · rw [if_pos c1] at K2; exact K2 _ rfl
    · rw [hD]
      refine ⟨fun c2 => ?_, fun c2 => ?_⟩
      · rw [if_neg c1, if_pos c2] at K2; exact K2 _ rfl
      · rw [if_neg c1, if_neg c2] at K2
        refine ⟨fun c3 => ?_, fun c3 => ?_⟩
        · have e3 : (lkF S2 d D t j).1 = none := by
            cases ho : (lkF S2 d D t j).1 with
            | none => rfl
            | some b =>
              rw [ho] at c3
              have := lkF_lt ho
              exact absurd c3 (fun q => (n_m1 (show b < 2147483648 by omega)).mp q)
          rw [if_pos e3] at K2; exact K2 _ rfl
        · have e3 : ¬ (lkF S2 d D t j).1 = none := fun e => c3 (by rw [e]; rfl)
          rw [if_neg e3] at K2
          refine ⟨fun c4 => ?_, fun c4 => ?_⟩
          · rw [if_neg (Int64.not_lt.mpr c4)] at K2; exact K2 _ rfl
          · rw [if_pos (Int64.not_le.mp c4)] at K2; exact K2 _ rfl
def cmS (S2 : Sg) (d : Int32) (D : Int64) (nT : Nat) (p : Int32 × Int64 × Int64) (s : Nat) : Int32 × Int64 × Int64 :=
  if d ≤ sI S2 1158 s then (match (lkF S2 d D s nT).1 with | none => p | some b => (p.1 + 1, p.2.1 + sL S2 1154 b, p.2.2 + sL S2 1154 s)) else p
def cmF (S2 : Sg) (d : Int32) (D : Int64) (nT : Nat) : Nat → Int32 × Int64 × Int64
  | 0 => (0, 0, 0)
  | s + 1 => cmS S2 d D nT (cmF S2 d D nT s) s
def cmV (D : Int64) (w : Int32) (p : Int32 × Int64 × Int64) : Int64 := if w = 0 then p.1.toInt64 else if w = 1 then p.2.1 else if w = 2 then p.2.2 else if (p.2.1 - p.2.2) * 100 ≤ D * p.2.1 then 0 else 1
theorem x_cmp {d w : Int32} {D : Int64} {Q : Int64 → Prop} (hS : GS S) (hT : GT S S2 nT) (k : Q (cmV D w (cmF S2 d D nT nT))) : P_X10_compare_L51 1000 d w D 0 0 0 0 S Q := by
  have hn := hT.2.1
  unfold P_X10_compare_L51
  refine lpAAA (N := nT) (s0 := 0) (R := fun j a b c => (a, b, c) = cmF S2 d D nT j) (B := fun a b c x K => P_X10_compare_L51b 1000 d w D a b c x S Q K) rfl (by omega) rfl (fun j hj a b c hab K hK => ?_)
  unfold P_X10_compare_L51b P_X10_compare_B98 P_X10_compare_B130
  simp (disch := first | omega | decide) only [Option.some.injEq, exists_eq_left', exists_eq_left, forall_eq, forall_eq', true_and, and_true, true_implies, implies_true, false_implies, not_true_eq_false, not_false_eq_true, reduceCtorEq, and_self, forall_const, i10, i01, if_true, if_false, and_false, false_and, Nat.not_lt_zero, sK_pI, sN_pI, sR_pI, sL_pI, sK_pL, sN_pL, sR_pL, sI_pL, sK_pR, sN_pR, sI_pR, sL_pR, sI_pI_eq, sI_pI_ne, sL_pL_eq, sL_pL_ne, sR_pR_eq, sR_pR_ne, nn_le, nat32_lt, nn_eq, ln_le, nl_le, ln_lt, nl_lt, ln_eq, nl_eq, n_m1, n_lt0, vp_n, vp_l, lc_n, nat32c, n_s, nI_n, hS.1, hT.1.1, size_e hT.1]
  refine ⟨fun e => ?_, fun e => ?_⟩
  · have e : j = nT := by omega
    subst e
    rw [← hab] at k
    unfold cmV at k
    refine ⟨fun h => ?_, fun h => ⟨fun h2 => ?_, fun h2 => ⟨fun h3 => ?_, fun h3 => ⟨fun h4 => ?_, fun h4 => ?_⟩⟩⟩⟩
    · rw [if_pos h] at k; exact k
    · rw [if_neg h, if_pos h2] at k; exact k
    · rw [if_neg h, if_neg h2, if_pos h3] at k; exact k
    · rw [if_neg h, if_neg h2, if_neg h3, if_pos h4] at k; exact k
    · rw [if_neg h, if_neg h2, if_neg h3, if_neg h4] at k; exact k
  · have hlt : j < nT := by omega
    have cj := hT.2.2.2.1 j hlt
    have K2 : ∀ p : Int32 × Int64 × Int64, p = cmS S2 d D nT (a, b, c) j → K p.1 p.2.1 p.2.2 (Int32.ofNat (j + 1)) := fun p h => hK hlt _ _ _ (by rw [hab] at h; exact h)
    unfold cmS at K2
    simp (disch := first | omega | decide) only [Option.some.injEq, exists_eq_left', exists_eq_left, forall_eq, forall_eq', true_and, and_true, true_implies, implies_true, false_implies, not_true_eq_false, not_false_eq_true, reduceCtorEq, and_self, forall_const, i10, i01, if_true, if_false, and_false, false_and, Nat.not_lt_zero, sK_pI, sN_pI, sR_pI, sL_pI, sK_pL, sN_pL, sR_pL, sI_pL, sK_pR, sN_pR, sI_pR, sL_pR, sI_pI_eq, sI_pI_ne, sL_pL_eq, sL_pL_ne, sR_pR_eq, sR_pR_ne, nn_le, nat32_lt, nn_eq, ln_le, nl_le, ln_lt, nl_lt, ln_eq, nl_eq, n_m1, n_lt0, vp_n, vp_l, lc_n, nat32c, n_s, nI_n, get_e hT.1 hlt, cj.1, cj.2.1]
    refine ⟨fun c1 => x_like hS hT hlt ?_, fun c1 => ?_⟩
    · rw [if_pos c1] at K2
      cases ho : (lkF S2 d D j nT).1 with
      | none =>
        rw [ho] at K2
        simp (disch := first | omega | decide) only [Option.some.injEq, exists_eq_left', exists_eq_left, forall_eq, forall_eq', true_and, and_true, true_implies, implies_true, false_implies, not_true_eq_false, not_false_eq_true, reduceCtorEq, and_self, forall_const, i10, i01, if_true, if_false, and_false, false_and, Nat.not_lt_zero, sK_pI, sN_pI, sR_pI, sL_pI, sK_pL, sN_pL, sR_pL, sI_pL, sK_pR, sN_pR, sI_pR, sL_pR, sI_pI_eq, sI_pI_ne, sL_pL_eq, sL_pL_ne, sR_pR_eq, sR_pR_ne, nn_le, nat32_lt, nn_eq, ln_le, nl_le, ln_lt, nl_lt, ln_eq, nl_eq, n_m1, n_lt0, vp_n, vp_l, lc_n, nat32c, n_s, nI_n, hT5]
        exact K2 _ rfl
      | some b0 =>
        rw [ho] at K2
        have hb0 := hT.2.2.2.1 b0 (lkF_lt ho)
        simp (disch := first | omega | decide) only [Option.some.injEq, exists_eq_left', exists_eq_left, forall_eq, forall_eq', true_and, and_true, true_implies, implies_true, false_implies, not_true_eq_false, not_false_eq_true, reduceCtorEq, and_self, forall_const, i10, i01, if_true, if_false, and_false, false_and, Nat.not_lt_zero, sK_pI, sN_pI, sR_pI, sL_pI, sK_pL, sN_pL, sR_pL, sI_pL, sK_pR, sN_pR, sI_pR, sL_pR, sI_pI_eq, sI_pI_ne, sL_pL_eq, sL_pL_ne, sR_pR_eq, sR_pR_ne, nn_le, nat32_lt, nn_eq, ln_le, nl_le, ln_lt, nl_lt, ln_eq, nl_eq, n_m1, n_lt0, vp_n, vp_l, lc_n, nat32c, n_s, nI_n, hT5, hb0.1, hb0.2.2.2.1, cj.2.2.2.1]
        exact K2 _ rfl
    · rw [if_neg c1] at K2
      exact K2 _ rfl
theorem m_cmp {d w : Int32} {Q : Int64 → Prop} (hM : MW S2) (hL : GL S S2 nL lh) (hc : sI S2 1000 4 = Int32.ofNat nT) (hn : nT ≤ 40) (k : Q (cmV (lawV S2 (inF S2 (sI S2 1000 0) nL) 12).toInt64 w (cmF S2 d (lawV S2 (inF S2 (sI S2 1000 0) nL) 12).toInt64 nT nT))) : P_X11_compare_L35 1000 d w 0 0 0 0 S2 Q := by
  unfold P_X11_compare_L35
  refine lpAAA (N := nT) (s0 := 0) (R := fun j a b c => (a, b, c) = cmF S2 d (lawV S2 (inF S2 (sI S2 1000 0) nL) 12).toInt64 nT j) (B := fun a b c x K => P_X11_compare_L35b 1000 d w a b c x S2 Q K) rfl (by omega) rfl (fun j hj a b c hab K hK => ?_)
  unfold P_X11_compare_L35b P_X11_compare_B167
  simp (disch := first | omega | decide) only [Option.some.injEq, exists_eq_left', exists_eq_left, forall_eq, forall_eq', true_and, and_true, true_implies, implies_true, false_implies, not_true_eq_false, not_false_eq_true, reduceCtorEq, and_self, forall_const, i10, i01, if_true, if_false, and_false, false_and, Nat.not_lt_zero, sK_pI, sN_pI, sR_pI, sL_pI, sK_pL, sN_pL, sR_pL, sI_pL, sK_pR, sN_pR, sI_pR, sL_pR, sI_pI_eq, sI_pI_ne, sL_pL_eq, sL_pL_ne, sR_pR_eq, sR_pR_ne, nn_le, nat32_lt, nn_eq, ln_le, nl_le, ln_lt, nl_lt, ln_eq, nl_eq, n_m1, n_lt0, vp_n, vp_l, lc_n, nat32c, n_s, nI_n, hM.o, hc]
  refine ⟨fun e => ?_, fun e => ?_⟩
  · have e : j = nT := by omega
    subst e
    rw [← hab] at k
    unfold cmV at k
    refine ⟨fun h => ?_, fun h => ⟨fun h2 => ?_, fun h2 => ⟨fun h3 => ?_, fun h3 => m_now (w := 12) hM hL (by omega) ⟨fun h4 => ?_, fun h4 => ?_⟩⟩⟩⟩
    · rw [if_pos h] at k; exact k
    · rw [if_neg h, if_pos h2] at k; exact k
    · rw [if_neg h, if_neg h2, if_pos h3] at k; exact k
    · rw [if_neg h, if_neg h2, if_neg h3, if_pos h4] at k; rw [one_e, if_pos rfl]; exact k
    · rw [if_neg h, if_neg h2, if_neg h3, if_neg h4] at k; rw [one_e, if_neg (by decide)]; exact k
  · have hlt : j < nT := by omega
    have h40 : j < 40 := by omega
    have K2 : ∀ p : Int32 × Int64 × Int64, p = cmS S2 d (lawV S2 (inF S2 (sI S2 1000 0) nL) 12).toInt64 nT (a, b, c) j → K p.1 p.2.1 p.2.2 (Int32.ofNat (j + 1)) := fun p h => hK hlt _ _ _ (by rw [hab] at h; exact h)
    unfold cmS at K2
    simp (disch := first | omega | decide) only [Option.some.injEq, exists_eq_left', exists_eq_left, forall_eq, forall_eq', true_and, and_true, true_implies, implies_true, false_implies, not_true_eq_false, not_false_eq_true, reduceCtorEq, and_self, forall_const, i10, i01, if_true, if_false, and_false, false_and, Nat.not_lt_zero, sK_pI, sN_pI, sR_pI, sL_pI, sK_pL, sN_pL, sR_pL, sI_pL, sK_pR, sN_pR, sI_pR, sL_pR, sI_pI_eq, sI_pI_ne, sL_pL_eq, sL_pL_ne, sR_pR_eq, sR_pR_ne, nn_le, nat32_lt, nn_eq, ln_le, nl_le, ln_lt, nl_lt, ln_eq, nl_eq, n_m1, n_lt0, vp_n, vp_l, lc_n, nat32c, n_s, nI_n, hM.a58, h40]
    refine ⟨fun c1 => m_like hM hL hc hn hlt ?_, fun c1 => ?_⟩
    · rw [if_pos c1] at K2
      unfold P_X11_compare_B66 P_X11_compare_B104
      cases ho : (lkF S2 d (lawV S2 (inF S2 (sI S2 1000 0) nL) 12).toInt64 j nT).1 with
      | none =>
        rw [ho] at K2
        refine ⟨fun _ y hy => by rw [hy, n_s]; exact K2 _ rfl, fun h => absurd rfl h⟩
      | some b0 =>
        rw [ho] at K2
        have hb0 := lkF_lt ho
        have hb40 : b0 < 40 := by omega
        have hne : ¬ (Int32.ofNat b0 = -1) := fun q => (n_m1 (show b0 < 2147483648 by omega)).mp q
        refine ⟨fun h => absurd h hne, fun _ => ?_⟩
        simp (disch := first | omega | decide) only [Option.some.injEq, exists_eq_left', exists_eq_left, forall_eq, forall_eq', true_and, and_true, true_implies, implies_true, false_implies, not_true_eq_false, not_false_eq_true, reduceCtorEq, and_self, forall_const, i10, i01, if_true, if_false, and_false, false_and, Nat.not_lt_zero, sK_pI, sN_pI, sR_pI, sL_pI, sK_pL, sN_pL, sR_pL, sI_pL, sK_pR, sN_pR, sI_pR, sL_pR, sI_pI_eq, sI_pI_ne, sL_pL_eq, sL_pL_ne, sR_pR_eq, sR_pR_ne, nn_le, nat32_lt, nn_eq, ln_le, nl_le, ln_lt, nl_lt, ln_eq, nl_eq, n_m1, n_lt0, vp_n, vp_l, lc_n, nat32c, n_s, nI_n, optI, hM.o, hM.a54, hb40, h40]
        exact K2 _ rfl
    · rw [if_neg c1] at K2
      unfold P_X11_compare_B66 P_X11_compare_B104
      exact ⟨fun _ y hy => by rw [hy, n_s]; exact K2 _ rfl, fun h => absurd rfl h⟩
end RW
theorem pr_worst : Pr_worst Inv := by
  intro S S2 hI v1
  have hI0 := hI
  obtain ⟨hk, hM, hS, hU, hA, hW, hB, nC, nR, nT, nK, nL, nM, nP, td, N, lh, hC, hR, hT, hK, hL, hZ, hP, hN⟩ := hI
  unfold P_X10_worst
  refine ⟨hS.1.1, x_worstLot hS hC hB ⟨fun h => ?_, fun h y hy => ?_⟩⟩
  · exact m_worst hM hC.2.2.1 hC.2.1 (fun _ => ⟨rfl, hI0⟩) (fun h2 => absurd h h2)
  · subst hy
    refine ⟨fun a => ?_, fun a => ⟨fun b => x_gradesOf hS hC hB ?_, fun b => ⟨fun c => x_looksOf hS hC hB ?_, fun c => ?_⟩⟩⟩
    · exact m_worst hM hC.2.2.1 hC.2.1 (fun h2 => absurd h2 h) (fun _ => ⟨fun _ => ⟨rfl, hI0⟩, fun z => absurd a z⟩)
    · exact m_worst hM hC.2.2.1 hC.2.1 (fun h2 => absurd h2 h) (fun _ => ⟨fun z => absurd z a, fun _ => ⟨fun _ => ⟨rfl, hI0⟩, fun z => absurd b z⟩⟩)
    · exact m_worst hM hC.2.2.1 hC.2.1 (fun h2 => absurd h2 h) (fun _ => ⟨fun z => absurd z a, fun _ => ⟨fun z => absurd z b, fun _ => ⟨fun _ => ⟨rfl, hI0⟩, fun z => absurd c z⟩⟩⟩)
    · exact m_worst hM hC.2.2.1 hC.2.1 (fun h2 => absurd h2 h) (fun _ => ⟨fun z => absurd z a, fun _ => ⟨fun z => absurd z b, fun _ => ⟨fun z => absurd z c, fun _ => ⟨rfl, hI0⟩⟩⟩⟩)
theorem pr_compare : Pr_compare Inv := by
  intro S S2 hI v1 v2
  have hI0 := hI
  obtain ⟨hk, hM, hS, hU, hA, hW, hB, nC, nR, nT, nK, nL, nM, nP, td, N, lh, hC, hR, hT, hK, hL, hZ, hP, hN⟩ := hI
  unfold P_X10_compare P_X11_compare
  simp only [within_e, isIn_e]
  by_cases h1 : inn v1 0 3649 = 0
  · simp (disch := first | omega | decide) only [Option.some.injEq, exists_eq_left', exists_eq_left, forall_eq, forall_eq', true_and, and_true, true_implies, implies_true, false_implies, not_true_eq_false, not_false_eq_true, reduceCtorEq, and_self, forall_const, i10, i01, if_true, if_false, and_false, false_and, Nat.not_lt_zero, sK_pI, sN_pI, sR_pI, sL_pI, sK_pL, sN_pL, sR_pL, sI_pL, sK_pR, sN_pR, sI_pR, sL_pR, sI_pI_eq, sI_pI_ne, sL_pL_eq, sL_pL_ne, sR_pR_eq, sR_pR_ne, nn_le, nat32_lt, nn_eq, ln_le, nl_le, ln_lt, nl_lt, ln_eq, nl_eq, n_m1, n_lt0, vp_n, vp_l, lc_n, nat32c, n_s, nI_n, h1, hI0]
  by_cases h2 : inn v2 0 3 = 0
  · simp (disch := first | omega | decide) only [Option.some.injEq, exists_eq_left', exists_eq_left, forall_eq, forall_eq', true_and, and_true, true_implies, implies_true, false_implies, not_true_eq_false, not_false_eq_true, reduceCtorEq, and_self, forall_const, i10, i01, if_true, if_false, and_false, false_and, Nat.not_lt_zero, sK_pI, sN_pI, sR_pI, sL_pI, sK_pL, sN_pL, sR_pL, sI_pL, sK_pR, sN_pR, sI_pR, sL_pR, sI_pI_eq, sI_pI_ne, sL_pL_eq, sL_pL_ne, sR_pR_eq, sR_pR_ne, nn_le, nat32_lt, nn_eq, ln_le, nl_le, ln_lt, nl_lt, ln_eq, nl_eq, n_m1, n_lt0, vp_n, vp_l, lc_n, nat32c, n_s, nI_n, h1, h2, hI0]
  simp (disch := first | omega | decide) only [Option.some.injEq, exists_eq_left', exists_eq_left, forall_eq, forall_eq', true_and, and_true, true_implies, implies_true, false_implies, not_true_eq_false, not_false_eq_true, reduceCtorEq, and_self, forall_const, i10, i01, if_true, if_false, and_false, false_and, Nat.not_lt_zero, sK_pI, sN_pI, sR_pI, sL_pI, sK_pL, sN_pL, sR_pL, sI_pL, sK_pR, sN_pR, sI_pR, sL_pR, sI_pI_eq, sI_pI_ne, sL_pL_eq, sL_pL_ne, sR_pR_eq, sR_pR_ne, nn_le, nat32_lt, nn_eq, ln_le, nl_le, ln_lt, nl_lt, ln_eq, nl_eq, n_m1, n_lt0, vp_n, vp_l, lc_n, nat32c, n_s, nI_n, h1, h2, hS.1]
  refine x_lawNow (w := 12) hS hL (by omega) (x_cmp hS hT (m_cmp hM hL hT.2.2.1 hT.2.1 ?_))
  rw [hZ.2.2.2.1, hZ.2.2.2.2.1]
  exact ⟨rfl, hI0⟩
