/-! ===== level 2: what rain and roofs bring ===== -/
section LE
variable {S S2 T U : Sg} {nC nR nT nK nL nM nP td N : Nat} {lh : Nat → Nat}
/-- laid, with minutes: own's entries told by f -/
def LJ2 (S S2 : Sg) (nC nM : Nat) (f : Nat → Nat → Nat) : Prop := LY1 S S2 nC nC ∧ sI S 1043 7 = Int32.ofNat nM ∧ ∀ m c, m < nM → c < nC → sI S 1045 (12 * m + c) = Int32.ofNat (f m c)
theorem LJ2.cg {f g : Nat → Nat → Nat} (h : LJ2 S S2 nC nM f) (e : ∀ m c, m < nM → c < nC → f m c = g m c) : LJ2 S S2 nC nM g := ⟨h.1, h.2.1, fun m c hm hc => by rw [← e m c hm hc]; exact h.2.2 m c hm hc⟩
theorem x_from {r : Nat} {Q : Int32 → Sg → Prop} (h : IV S S2 nC nR nT nK nL nM nP td N lh) (hr : r < nR) (hJ : LJ2 S S2 nC nM (fun m c => rnF S2 m * nt (sI S2 1107 c) + su (ovC S2 c m) r)) (k : ∀ S', SX S S' → (∀ x, ¬ x = 1045 → vw S' x = vw S x) → LJ2 S' S2 nC nM (fun m c => rnF S2 m * nt (sI S2 1107 c) + su (ovC S2 c m) (r + 1)) → Q (Int32.ofNat (brF S2 r nM)) S') : P_X3_letInFrom 1043 (some (4000 + r)) (some 1051) S Q := by
  have hV := h
  obtain ⟨hk, hM, hS, hU, hA, hW, hB, hC, hR, hT, hK, hL, hZ, hP, hN⟩ := h
  have n12 := hC.2.1
  have n30 := hR.2.1
  have m30 := hZ.2.2.1
  have o2 := hS.2.1
  have r0 := hR.2.2.2.1 r hr
  obtain ⟨⟨cr, hcr, ecr⟩, ea, la, eb, lb, eh, lh'⟩ := roof_e hR hr
  unfold P_X3_letInFrom
  refine ⟨4000 + r, rfl, r0.1, fun x4 hx4 => ⟨o2.2.2.2.2.1, within_e.mpr ?_⟩⟩
  rw [r0.2.1, ecr, hJ.1.1, inn_cy (by omega) hcr]
  refine ⟨fun z => absurd z (by decide), fun _ => ?_⟩
  unfold P_X3_letInFrom_L27
  refine lpAS (N := nM) (s0 := 0) (R := fun m (a : Int32) σ => SX S σ ∧ (∀ x, ¬ x = 1045 → vw σ x = vw S x) ∧ a = Int32.ofNat (brF S2 r m) ∧ LJ2 σ S2 nC nM (fun m' c => rnF S2 m' * nt (sI S2 1107 c) + (if m' < m then su (ovC S2 c m') (r + 1) else su (ovC S2 c m') r))) (B := fun a x σ K => P_X3_letInFrom_L27b 1043 (some (4000 + r)) (some 1051) a x σ Q K) rfl (Nat.zero_le _) ⟨SX.refl S, fun _ _ => rfl, by rw [hx4, r0.2.2.2.2.2.1]; exact eh, hJ.cg (fun m c _ _ => by rw [if_neg (Nat.not_lt_zero _)])⟩ (fun m hm a σ hR2 K hK => ?_)
  obtain ⟨g1, g2, rfl, g3⟩ := hR2
  have hVσ := iv_sx hV g1
  obtain ⟨tk, tM, tS, tU, tA, tW2, tB, tC, tR, tT, tK, tL, tZ, tP, tN⟩ := hVσ
  have t2 := tS.2.1
  have tr := tR.2.2.2.1 r hr
  unfold P_X3_letInFrom_L27b
  refine ⟨t2.2.2.2.2.1, fun e => ?_, fun e => ?_⟩
  · rw [g3.2.1, nn_le (by omega) (by omega)] at e
    have e2 : m = nM := by omega
    subst e2
    exact k σ g1 g2 (g3.cg (fun m' c hm' _ => by rw [if_pos hm']))
  · rw [g3.2.1, nn_le (by omega) (by omega)] at e
    have hlt : m < nM := by omega
    have hm30 : m < 30 := by omega
    have sn51 : sN σ 1051 = 30 := by simp (disch := first | omega | decide) only [Option.some.injEq, exists_eq_left', exists_eq_left, forall_eq, forall_eq', true_and, and_true, true_implies, implies_true, false_implies, not_true_eq_false, not_false_eq_true, reduceCtorEq, and_self, forall_const, i10, i01, if_true, if_false, and_false, false_and, Nat.not_lt_zero, sK_pI, sN_pI, sR_pI, sL_pI, sK_pL, sN_pL, sR_pL, sI_pL, sK_pR, sN_pR, sI_pR, sL_pR, sI_pI_eq, sI_pI_ne, sL_pL_eq, sL_pL_ne, sR_pR_eq, sR_pR_ne, nn_le, nat32_lt, nn_eq, ln_le, nl_le, ln_lt, nl_lt, ln_eq, nl_eq, n_m1, n_lt0, vp_n, vp_l, lc_n, nat32c, n_s, nI_n, t2]
    refine ⟨1051, rfl, by simp (disch := first | omega | decide) only [Option.some.injEq, exists_eq_left', exists_eq_left, forall_eq, forall_eq', true_and, and_true, true_implies, implies_true, false_implies, not_true_eq_false, not_false_eq_true, reduceCtorEq, and_self, forall_const, i10, i01, if_true, if_false, and_false, false_and, Nat.not_lt_zero, sK_pI, sN_pI, sR_pI, sL_pI, sK_pL, sN_pL, sR_pL, sI_pL, sK_pR, sN_pR, sI_pR, sL_pR, sI_pI_eq, sI_pI_ne, sL_pL_eq, sL_pL_ne, sR_pR_eq, sR_pR_ne, nn_le, nat32_lt, nn_eq, ln_le, nl_le, ln_lt, nl_lt, ln_eq, nl_eq, n_m1, n_lt0, vp_n, vp_l, lc_n, nat32c, n_s, nI_n, t2], fun z => ?_, fun _ => ⟨by simp (disch := first | omega | decide) only [Option.some.injEq, exists_eq_left', exists_eq_left, forall_eq, forall_eq', true_and, and_true, true_implies, implies_true, false_implies, not_true_eq_false, not_false_eq_true, reduceCtorEq, and_self, forall_const, i10, i01, if_true, if_false, and_false, false_and, Nat.not_lt_zero, sK_pI, sN_pI, sR_pI, sL_pI, sK_pL, sN_pL, sR_pL, sI_pL, sK_pR, sN_pR, sI_pR, sL_pR, sI_pI_eq, sI_pI_ne, sL_pL_eq, sL_pL_ne, sR_pR_eq, sR_pR_ne, nn_le, nat32_lt, nn_eq, ln_le, nl_le, ln_lt, nl_lt, ln_eq, nl_eq, n_m1, n_lt0, vp_n, vp_l, lc_n, nat32c, n_s, nI_n, t2, hm30], 4000 + r, rfl, tr.1, fun x19 hx19 x21 hx21 x23 hx23 => ⟨1045, t2.2.2.2.2.2.2.1, by simp (disch := first | omega | decide) only [Option.some.injEq, exists_eq_left', exists_eq_left, forall_eq, forall_eq', true_and, and_true, true_implies, implies_true, false_implies, not_true_eq_false, not_false_eq_true, reduceCtorEq, and_self, forall_const, i10, i01, if_true, if_false, and_false, false_and, Nat.not_lt_zero, sK_pI, sN_pI, sR_pI, sL_pI, sK_pL, sN_pL, sR_pL, sI_pL, sK_pR, sN_pR, sI_pR, sL_pR, sI_pI_eq, sI_pI_ne, sL_pL_eq, sL_pL_ne, sR_pR_eq, sR_pR_ne, nn_le, nat32_lt, nn_eq, ln_le, nl_le, ln_lt, nl_lt, ln_eq, nl_eq, n_m1, n_lt0, vp_n, vp_l, lc_n, nat32c, n_s, nI_n, t2], ?_⟩⟩⟩
    · rw [sn51, nI_n, nn_le (by omega) (by omega)] at z; omega
    · have rm := rn_e tA hm30
      have fl := fall_le tA (r := r) m la
      have bl := br_le (S2 := S2) lh' m
      rw [nat32c (by omega), (tA.2 m hm30).1, rm.1, tr.2.2.2.1, ea, n_mul] at hx19
      subst hx19
      rw [tr.2.2.2.2.1, eb, n_sub bl, n_minC (by omega) (by omega)] at hx21
      subst hx21
      rw [n_add] at hx23
      have hx23 : x23 = Int32.ofNat (brF S2 r (m + 1)) := hx23
      subst hx23
      have ix : Int32.ofNat m * 12 + sI σ (4000 + r) 0 = Int32.ofNat (12 * m + cr) := by
        rw [tr.2.1, ecr, show (12 : Int32) = Int32.ofNat 12 from rfl, n_mul, n_add, Nat.mul_comm]
      have h360 : 12 * m + cr < 360 := by omega
      rw [ix, nat32c (by omega), g3.2.2 m cr hlt hcr, n_sub (Nat.min_le_left _ _), n_add]
      refine ⟨by simp (disch := first | omega | decide) only [Option.some.injEq, exists_eq_left', exists_eq_left, forall_eq, forall_eq', true_and, and_true, true_implies, implies_true, false_implies, not_true_eq_false, not_false_eq_true, reduceCtorEq, and_self, forall_const, i10, i01, if_true, if_false, and_false, false_and, Nat.not_lt_zero, sK_pI, sN_pI, sR_pI, sL_pI, sK_pL, sN_pL, sR_pL, sI_pL, sK_pR, sN_pR, sI_pR, sL_pR, sI_pI_eq, sI_pI_ne, sL_pL_eq, sL_pL_ne, sR_pR_eq, sR_pR_ne, nn_le, nat32_lt, nn_eq, ln_le, nl_le, ln_lt, nl_lt, ln_eq, nl_eq, n_m1, n_lt0, vp_n, vp_l, lc_n, nat32c, n_s, nI_n, t2, h360], by simp (disch := first | omega | decide) only [Option.some.injEq, exists_eq_left', exists_eq_left, forall_eq, forall_eq', true_and, and_true, true_implies, implies_true, false_implies, not_true_eq_false, not_false_eq_true, reduceCtorEq, and_self, forall_const, i10, i01, if_true, if_false, and_false, false_and, Nat.not_lt_zero, sK_pI, sN_pI, sR_pI, sL_pI, sK_pL, sN_pL, sR_pL, sI_pL, sK_pR, sN_pR, sI_pR, sL_pR, sI_pI_eq, sI_pI_ne, sL_pL_eq, sL_pL_ne, sR_pR_eq, sR_pR_ne, nn_le, nat32_lt, nn_eq, ln_le, nl_le, ln_lt, nl_lt, ln_eq, nl_eq, n_m1, n_lt0, vp_n, vp_l, lc_n, nat32c, n_s, nI_n, t2, h360], fun s1 q1 x hx => ?_⟩
      rw [hx, n_s]
      refine hK hlt _ _ ⟨by rw [q1]; exact g1.pI (by omega), fun x hx => by rw [q1, vw_pI hx]; exact g2 x hx, rfl, ?_⟩
      have vs : ∀ x, ¬ x = 1045 → vw s1 x = vw σ x := fun x hx => by rw [q1]; exact vw_pI hx
      refine ⟨g3.1.keep (fun x hx => vs x (by omega)) n12, by rw [vwI (vs 1043 (by omega))]; exact g3.2.1, fun m' c hm' hc => ?_⟩
      have old := g3.2.2 m' c hm' hc
      rw [q1]
      by_cases e1 : m' = m ∧ c = cr
      · obtain ⟨e1, e2⟩ := e1
        subst e1; subst e2
        rw [sI_pI_eq]
        simp only [Nat.lt_irrefl, Nat.lt_succ_self, if_true, if_false]
        show _ = Int32.ofNat (_ + (su (ovC S2 c m') r + ovC S2 c m' r))
        rw [show ovC S2 c m' r = ovF S2 r m' from if_pos ecr, Nat.add_assoc]
        rfl
      · rw [sI_pI_ne (by omega), old]
        by_cases e2 : m' = m
        · subst e2
          simp only [Nat.lt_irrefl, Nat.lt_succ_self, if_true, if_false]
          show _ = Int32.ofNat (_ + (su (ovC S2 c m') r + ovC S2 c m' r))
          rw [show ovC S2 c m' r = 0 from if_neg (by rw [ecr, nn_eq (by omega) (by omega)]; omega), Nat.add_zero]
        · have : (m' < m + 1) = (m' < m) := by apply propext; omega
          simp only [this]
theorem x_letIn {Q : Unit → Sg → Prop} (h : IV S S2 nC nR nT nK nL nM nP td N lh) (hI : LY1 S S2 nC nC) (har : ∀ j, j < nC → sI S 1047 j = sI S2 1107 j) (k : ∀ S', SX S S' → FP S' S2 nC nR nM → Q () S') : P_X3_letIn 1043 (some 1002) (some 1051) (Int32.ofNat nM) S Q := by
  have hV := h
  obtain ⟨hk, hM, hS, hU, hA, hW, hB, hC, hR, hT, hK, hL, hZ, hP, hN⟩ := h
  have n12 := hC.2.1
  have n30 := hR.2.1
  have m30 := hZ.2.2.1
  have o2 := hS.2.1
  have sn51 : sN S 1051 = 30 := by simp (disch := first | omega | decide) only [Option.some.injEq, exists_eq_left', exists_eq_left, forall_eq, forall_eq', true_and, and_true, true_implies, implies_true, false_implies, not_true_eq_false, not_false_eq_true, reduceCtorEq, and_self, forall_const, i10, i01, if_true, if_false, and_false, false_and, Nat.not_lt_zero, sK_pI, sN_pI, sR_pI, sL_pI, sK_pL, sN_pL, sR_pL, sI_pL, sK_pR, sN_pR, sI_pR, sL_pR, sI_pI_eq, sI_pI_ne, sL_pL_eq, sL_pL_ne, sR_pR_eq, sR_pR_ne, nn_le, nat32_lt, nn_eq, ln_le, nl_le, ln_lt, nl_lt, ln_eq, nl_eq, n_m1, n_lt0, vp_n, vp_l, lc_n, nat32c, n_s, nI_n, o2]
  unfold P_X3_letIn
  refine ⟨1051, rfl, by simp (disch := first | omega | decide) only [Option.some.injEq, exists_eq_left', exists_eq_left, forall_eq, forall_eq', true_and, and_true, true_implies, implies_true, false_implies, not_true_eq_false, not_false_eq_true, reduceCtorEq, and_self, forall_const, i10, i01, if_true, if_false, and_false, false_and, Nat.not_lt_zero, sK_pI, sN_pI, sR_pI, sL_pI, sK_pL, sN_pL, sR_pL, sI_pL, sK_pR, sN_pR, sI_pR, sL_pR, sI_pI_eq, sI_pI_ne, sL_pL_eq, sL_pL_ne, sR_pR_eq, sR_pR_ne, nn_le, nat32_lt, nn_eq, ln_le, nl_le, ln_lt, nl_lt, ln_eq, nl_eq, n_m1, n_lt0, vp_n, vp_l, lc_n, nat32c, n_s, nI_n, o2], fun x4 hx4 x6 hx6 => ⟨o2.2.2.2.2.1, fun s9 q9 => ?_⟩⟩
  rw [sn51, show (if (30 : Int32) < nI 30 then (30 : Int32) else nI 30) = Int32.ofNat 30 from by decide] at hx4
  rw [hx4, n_minC (by omega) (by omega), Nat.min_eq_left m30] at hx6
  subst hx6
  have sx9 : SX S s9 := by rw [q9]; exact (SX.refl S).pI (by omega)
  have li9 : LY1 s9 S2 nC nC := by
    obtain ⟨h1, h2, h3⟩ := hI
    rw [q9]
    refine ⟨by rw [sI_pI_ne (by omega)]; exact h1, by rw [sI_pI_ne (by omega)]; exact h2, fun j hj => ?_⟩
    obtain ⟨p, q⟩ := h3 j hj
    unfold NP at p ⊢
    simp (disch := first | omega | decide) only [sI_pI_ne, sR_pI]
    exact ⟨p, q⟩
  have e7 : sI s9 1043 7 = Int32.ofNat nM := by rw [q9]; exact sI_pI_eq
  clear q9
  unfold P_X3_letIn_L18
  refine lpS (N := nM) (s0 := 0) (R := fun m σ => SX S σ ∧ LY1 σ S2 nC nC ∧ sI σ 1043 7 = Int32.ofNat nM ∧ ∀ m' c, m' < m → c < nC → sI σ 1045 (12 * m' + c) = Int32.ofNat (rnF S2 m' * nt (sI S2 1107 c))) (B := fun x σ K => P_X3_letIn_L18b 1043 (some 1002) (some 1051) x σ Q K) rfl (Nat.zero_le _) ⟨sx9, li9, e7, fun m' c hm _ => absurd hm (Nat.not_lt_zero _)⟩ (fun m hm σ hR2 K hK => ?_)
  obtain ⟨g1, g2, g3, g4⟩ := hR2
  have hVσ := iv_sx hV g1
  have hVσ0 := hVσ
  obtain ⟨tk, tM, tS, tU, tA, tW2, tB, tC, tR, tT, tK, tL, tZ, tP, tN⟩ := hVσ
  have t2 := tS.2.1
  unfold P_X3_letIn_L18b
  refine ⟨t2.2.2.2.2.1, fun e => ?_, fun e => ?_⟩
  · rw [g3, nn_le (by omega) (by omega)] at e
    have e2 : m = nM := by omega
    subst e2
    unfold P_X3_letIn_L79
    refine lpS (N := nR) (s0 := 0) (R := fun r ρ => SX S ρ ∧ LJ2 ρ S2 nC m (fun m' c => rnF S2 m' * nt (sI S2 1107 c) + su (ovC S2 c m') r) ∧ ∀ r', r' < r → sI ρ 1046 r' = Int32.ofNat (brF S2 r' m)) (B := fun x ρ K => P_X3_letIn_L79b 1043 (some 1002) (some 1051) x ρ Q K) rfl (Nat.zero_le _) ⟨g1, ⟨g2, g3, g4⟩, fun r' hr' => absurd hr' (Nat.not_lt_zero _)⟩ (fun r hr ρ hR3 K hK => ?_)
    obtain ⟨y1, y2, y3⟩ := hR3
    have hVρ := iv_sx hV y1
    have hVρ0 := hVρ
    obtain ⟨uk, uM, uS, uU, uA, uW2, uB, uC, uR, uT, uK, uL, uZ, uP, uN⟩ := hVρ
    have u2 := uS.2.1
    unfold P_X3_letIn_L79b
    refine ⟨1002, rfl, uR.1.1, p_size uR.1 ⟨fun e => ?_, fun e => ⟨fun e2 => ?_, fun _ => ⟨u2.2.2.2.2.1, p_get uR.1 ?_ ⟨4000 + r, rfl, ?_, ?_⟩⟩⟩⟩⟩
    · rw [nn_le (by omega) (by omega)] at e
      have e2 : r = nR := by omega
      subst e2
      refine k ρ y1 ⟨y2.1.1, y2.2.1, y2.1.2.1, fun j hj => (y2.1.2.2 j hj).1, fun m' c hm' hc => ?_, y3⟩
      exact y2.2.2 m' c hm' hc
    · rw [nn_le (by omega) (by omega)] at e
      rw [show (30 : Int32) ≤ Int32.ofNat r ↔ 30 ≤ r from ln_le (k := 30) (by omega) (by omega)] at e2
      omega
    · rw [nn_le (by omega) (by omega)] at e; omega
    · rw [nn_le (by omega) (by omega)] at e; exact (uR.2.2.2.1 r (by omega)).1
    · rw [nn_le (by omega) (by omega)] at e
      have hlt : r < nR := by omega
      have hr30 : r < 30 := by omega
      refine x_from hVρ0 hlt y2 (fun S' z1 z2 z3 => ?_)
      have hVS := iv_sx hVρ0 z1
      have s2 := hVS.2.2.1.2.1
      refine ⟨1046, u2.2.2.2.2.2.2.2.1, by simp (disch := first | omega | decide) only [Option.some.injEq, exists_eq_left', exists_eq_left, forall_eq, forall_eq', true_and, and_true, true_implies, implies_true, false_implies, not_true_eq_false, not_false_eq_true, reduceCtorEq, and_self, forall_const, i10, i01, if_true, if_false, and_false, false_and, Nat.not_lt_zero, sK_pI, sN_pI, sR_pI, sL_pI, sK_pL, sN_pL, sR_pL, sI_pL, sK_pR, sN_pR, sI_pR, sL_pR, sI_pI_eq, sI_pI_ne, sL_pL_eq, sL_pL_ne, sR_pR_eq, sR_pR_ne, nn_le, nat32_lt, nn_eq, ln_le, nl_le, ln_lt, nl_lt, ln_eq, nl_eq, n_m1, n_lt0, vp_n, vp_l, lc_n, nat32c, n_s, nI_n, s2], by simp (disch := first | omega | decide) only [Option.some.injEq, exists_eq_left', exists_eq_left, forall_eq, forall_eq', true_and, and_true, true_implies, implies_true, false_implies, not_true_eq_false, not_false_eq_true, reduceCtorEq, and_self, forall_const, i10, i01, if_true, if_false, and_false, false_and, Nat.not_lt_zero, sK_pI, sN_pI, sR_pI, sL_pI, sK_pL, sN_pL, sR_pL, sI_pL, sK_pR, sN_pR, sI_pR, sL_pR, sI_pI_eq, sI_pI_ne, sL_pL_eq, sL_pL_ne, sR_pR_eq, sR_pR_ne, nn_le, nat32_lt, nn_eq, ln_le, nl_le, ln_lt, nl_lt, ln_eq, nl_eq, n_m1, n_lt0, vp_n, vp_l, lc_n, nat32c, n_s, nI_n, s2, hr30], fun s1 q1 x hx => ?_⟩
      rw [nat32c (by omega)] at q1
      rw [hx, n_s]
      have vs : ∀ x, ¬ x = 1046 → vw s1 x = vw S' x := fun x hx => by rw [q1]; exact vw_pI hx
      refine hK hlt _ ⟨by rw [q1]; exact (y1.trans z1).pI (by omega), ⟨z3.1.keep (fun x hx => vs x (by omega)) n12, by rw [vwI (vs 1043 (by omega))]; exact z3.2.1, fun m' c hm' hc => by rw [vwI (vs 1045 (by omega))]; exact z3.2.2 m' c hm' hc⟩, fun r' hr' => ?_⟩
      rw [q1]
      by_cases e3 : r' = r
      · subst e3; exact sI_pI_eq
      · rw [sI_pI_ne (by omega), vwI (z2 1046 (by omega))]; exact y3 r' (by omega)
  · rw [g3, nn_le (by omega) (by omega)] at e
    have hlt : m < nM := by omega
    have hm30 : m < 30 := by omega
    have rm := rn_e tA hm30
    unfold P_X3_letIn_L30
    refine lpS (N := nC) (s0 := 0) (R := fun c ρ => SX S ρ ∧ (∀ x, ¬ x = 1045 → vw ρ x = vw σ x) ∧ (∀ m' c', m' < m → c' < nC → sI ρ 1045 (12 * m' + c') = Int32.ofNat (rnF S2 m' * nt (sI S2 1107 c'))) ∧ ∀ c', c' < c → sI ρ 1045 (12 * m + c') = Int32.ofNat (rnF S2 m * nt (sI S2 1107 c'))) (B := fun x ρ K' => P_X3_letIn_L30b 1043 (some 1002) (some 1051) (Int32.ofNat m) x ρ Q K K') rfl (Nat.zero_le _) ⟨g1, fun _ _ => rfl, g4, fun c' hc' => absurd hc' (Nat.not_lt_zero _)⟩ (fun c hc ρ hR3 K' hK' => ?_)
    obtain ⟨y1, y2, y3, y4⟩ := hR3
    have hVρ := iv_sx hV y1
    obtain ⟨uk, uM, uS, uU, uA, uW2, uB, uC, uR, uT, uK, uL, uZ, uP, uN⟩ := hVρ
    have u2 := uS.2.1
    have i6 : sI ρ 1043 6 = Int32.ofNat nC := by rw [vwI (y2 1043 (by omega))]; exact g2.1
    unfold P_X3_letIn_L30b
    refine ⟨u2.2.2.2.2.1, fun e => ?_, fun e => ?_⟩
    · rw [i6, nn_le (by omega) (by omega)] at e
      have e2 : c = nC := by omega
      subst e2
      intro x hx
      rw [hx, n_s]
      refine hK hlt _ ⟨y1, g2.keep (fun x hx => y2 x (by omega)) n12, by rw [vwI (y2 1043 (by omega))]; exact g3, fun m' c' hm' hc' => ?_⟩
      rcases Nat.lt_or_ge m' m with w | w
      · exact y3 m' c' w hc'
      · have : m' = m := by omega
        subst this; exact y4 c' hc'
    · rw [i6, nn_le (by omega) (by omega)] at e
      have hcl : c < nC := by omega
      have hc12 : c < 12 := by omega
      have h360 : 12 * m + c < 360 := by omega
      have ix : Int32.ofNat m * 12 + Int32.ofNat c = Int32.ofNat (12 * m + c) := by
        rw [show (12 : Int32) = Int32.ofNat 12 from rfl, n_mul, n_add, Nat.mul_comm]
      have ar : sI ρ 1047 c = Int32.ofNat (nt (sI S2 1107 c)) := by rw [vwI (y2 1047 (by omega)), (g2.2.2 c hcl).2]; exact (area_e tC hcl).1
      have mu : sI ρ 1051 m = Int32.ofNat (rnF S2 m) := ((uA.2 m hm30).1).trans rm.1
      refine ⟨1051, rfl, by simp (disch := first | omega | decide) only [Option.some.injEq, exists_eq_left', exists_eq_left, forall_eq, forall_eq', true_and, and_true, true_implies, implies_true, false_implies, not_true_eq_false, not_false_eq_true, reduceCtorEq, and_self, forall_const, i10, i01, if_true, if_false, and_false, false_and, Nat.not_lt_zero, sK_pI, sN_pI, sR_pI, sL_pI, sK_pL, sN_pL, sR_pL, sI_pL, sK_pR, sN_pR, sI_pR, sL_pR, sI_pI_eq, sI_pI_ne, sL_pL_eq, sL_pL_ne, sR_pR_eq, sR_pR_ne, nn_le, nat32_lt, nn_eq, ln_le, nl_le, ln_lt, nl_lt, ln_eq, nl_eq, n_m1, n_lt0, vp_n, vp_l, lc_n, nat32c, n_s, nI_n, u2], by simp (disch := first | omega | decide) only [Option.some.injEq, exists_eq_left', exists_eq_left, forall_eq, forall_eq', true_and, and_true, true_implies, implies_true, false_implies, not_true_eq_false, not_false_eq_true, reduceCtorEq, and_self, forall_const, i10, i01, if_true, if_false, and_false, false_and, Nat.not_lt_zero, sK_pI, sN_pI, sR_pI, sL_pI, sK_pL, sN_pL, sR_pL, sI_pL, sK_pR, sN_pR, sI_pR, sL_pR, sI_pI_eq, sI_pI_ne, sL_pL_eq, sL_pL_ne, sR_pR_eq, sR_pR_ne, nn_le, nat32_lt, nn_eq, ln_le, nl_le, ln_lt, nl_lt, ln_eq, nl_eq, n_m1, n_lt0, vp_n, vp_l, lc_n, nat32c, n_s, nI_n, u2, hm30], 1047, u2.2.2.2.2.2.2.2.2.1, by simp (disch := first | omega | decide) only [Option.some.injEq, exists_eq_left', exists_eq_left, forall_eq, forall_eq', true_and, and_true, true_implies, implies_true, false_implies, not_true_eq_false, not_false_eq_true, reduceCtorEq, and_self, forall_const, i10, i01, if_true, if_false, and_false, false_and, Nat.not_lt_zero, sK_pI, sN_pI, sR_pI, sL_pI, sK_pL, sN_pL, sR_pL, sI_pL, sK_pR, sN_pR, sI_pR, sL_pR, sI_pI_eq, sI_pI_ne, sL_pL_eq, sL_pL_ne, sR_pR_eq, sR_pR_ne, nn_le, nat32_lt, nn_eq, ln_le, nl_le, ln_lt, nl_lt, ln_eq, nl_eq, n_m1, n_lt0, vp_n, vp_l, lc_n, nat32c, n_s, nI_n, u2], by simp (disch := first | omega | decide) only [Option.some.injEq, exists_eq_left', exists_eq_left, forall_eq, forall_eq', true_and, and_true, true_implies, implies_true, false_implies, not_true_eq_false, not_false_eq_true, reduceCtorEq, and_self, forall_const, i10, i01, if_true, if_false, and_false, false_and, Nat.not_lt_zero, sK_pI, sN_pI, sR_pI, sL_pI, sK_pL, sN_pL, sR_pL, sI_pL, sK_pR, sN_pR, sI_pR, sL_pR, sI_pI_eq, sI_pI_ne, sL_pL_eq, sL_pL_ne, sR_pR_eq, sR_pR_ne, nn_le, nat32_lt, nn_eq, ln_le, nl_le, ln_lt, nl_lt, ln_eq, nl_eq, n_m1, n_lt0, vp_n, vp_l, lc_n, nat32c, n_s, nI_n, u2, hc12], 1045, u2.2.2.2.2.2.2.1, by simp (disch := first | omega | decide) only [Option.some.injEq, exists_eq_left', exists_eq_left, forall_eq, forall_eq', true_and, and_true, true_implies, implies_true, false_implies, not_true_eq_false, not_false_eq_true, reduceCtorEq, and_self, forall_const, i10, i01, if_true, if_false, and_false, false_and, Nat.not_lt_zero, sK_pI, sN_pI, sR_pI, sL_pI, sK_pL, sN_pL, sR_pL, sI_pL, sK_pR, sN_pR, sI_pR, sL_pR, sI_pI_eq, sI_pI_ne, sL_pL_eq, sL_pL_ne, sR_pR_eq, sR_pR_ne, nn_le, nat32_lt, nn_eq, ln_le, nl_le, ln_lt, nl_lt, ln_eq, nl_eq, n_m1, n_lt0, vp_n, vp_l, lc_n, nat32c, n_s, nI_n, u2], by rw [ix]; simp (disch := first | omega | decide) only [Option.some.injEq, exists_eq_left', exists_eq_left, forall_eq, forall_eq', true_and, and_true, true_implies, implies_true, false_implies, not_true_eq_false, not_false_eq_true, reduceCtorEq, and_self, forall_const, i10, i01, if_true, if_false, and_false, false_and, Nat.not_lt_zero, sK_pI, sN_pI, sR_pI, sL_pI, sK_pL, sN_pL, sR_pL, sI_pL, sK_pR, sN_pR, sI_pR, sL_pR, sI_pI_eq, sI_pI_ne, sL_pL_eq, sL_pL_ne, sR_pR_eq, sR_pR_ne, nn_le, nat32_lt, nn_eq, ln_le, nl_le, ln_lt, nl_lt, ln_eq, nl_eq, n_m1, n_lt0, vp_n, vp_l, lc_n, nat32c, n_s, nI_n, u2, h360], fun s1 q1 x hx => ?_⟩
      rw [ix, nat32c (by omega), nat32c (by omega), nat32c (by omega), ar, mu, n_mul] at q1
      rw [hx, n_s]
      refine hK' hcl _ ⟨by rw [q1]; exact y1.pI (by omega), fun x hx => by rw [q1, vw_pI hx]; exact y2 x hx, fun m' c' hm' hc' => ?_, fun c' hc' => ?_⟩
      · rw [q1, sI_pI_ne (by omega)]; exact y3 m' c' hm' hc'
      · rw [q1]
        by_cases e3 : c' = c
        · subst e3; exact sI_pI_eq
        · rw [sI_pI_ne (by omega)]; exact y4 c' (by omega)
theorem x_prep {Q : Unit → Sg → Prop} (h : IV S S2 nC nR nT nK nL nM nP td N lh) (k : ∀ S', SX S S' → FP S' S2 nC nR nM → Q () S') : P_X10_prepareFlow 1000 S Q := by
  have hV := h
  obtain ⟨hk, hM, hS, hU, hA, hW, hB, hC, hR, hT, hK, hL, hZ, hP, hN⟩ := h
  have o := hS.1
  have o2 := hS.2.1
  unfold P_X10_prepareFlow
  refine ⟨o.1, 1043, o.2.2.2.2.2.2.2.2.1, o2.2.2.2.2.1, ?_⟩
  rw [o.2.1, o.2.2.2.2.2.2.2.2.2.1]
  refine x_lieOver hV (fun S' g1 g2 => ?_)
  have h1 := iv_sx hV g1
  have p := h1.2.2.1.1
  have p2 := h1.2.2.1.2.1
  refine ⟨1043, p.2.2.2.2.2.2.2.2.1, p2.2.2.2.2.1, ?_⟩
  rw [p.2.2.1, p.2.2.2.2.2.2.2.2.2.2.1, h1.2.2.2.2.2.2.2.2.2.2.2.2.1.1]
  exact x_letIn h1 g2 (fun j hj => (g2.2.2 j hj).2) (fun S'' z1 z2 => k S'' (g1.trans z1) z2)
end LE
