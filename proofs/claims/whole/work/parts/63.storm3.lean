/-! ===== level 2: the reference's storm, and the pair ===== -/
section S4
variable {S S2 T U : Sg} {nC nR nT nK nL nM nP td N : Nat} {lh : Nat → Nat}
/-- the told row of a storm -/
def tldT (Tc : Sg) (nT td ra sp we mo : Nat) : Sg := pI (pL (pI (pL (pL (pI Tc 1158 nT (Int32.ofNat td)) 1153 nT (gn ra)) 1154 nT (gn sp)) 1159 nT (Int32.ofNat we)) 1155 nT (gn mo)) 1000 4 (Int32.ofNat (nT + 1))
theorem m_stormR {Q : Int32 → Sg → Prop} (h : IV S S2 nC nR nT nK nL nM nP td N lh) (hlt : nT < 40) (k : ∀ Tc, stT S2 Tc nC nR nM → (sL Tc 1000 35 = sL S2 1000 35 + gn (raF S2 nC nR nM) ∧ sL Tc 1000 36 = sL S2 1000 36 + gn (su (bowlsF S2) nC + su ((runF S2 nC nR nM 0).1 3) nC) ∧ sL Tc 1000 37 = sL S2 1000 37 + gn (su ((runF S2 nC nR nM 0).1 4) nC) ∧ sL Tc 1000 38 = sL S2 1000 38 + gn (runF S2 nC nR nM 0).2.1 ∧ sL Tc 1000 39 = sL S2 1000 39) → Q (Int32.ofNat nT) (tldT Tc nT td (raF S2 nC nR nM) (su ((runF S2 nC nR nM 0).1 4) nC) (su ((runF S2 nC nR nM 0).1 6) nC) (runF S2 nC nR nM 0).2.2)) : P_X11_storm 1000 S2 Q := by
  have hV := h
  obtain ⟨hk, hM, hS, hU, hA, hW, hB, hC, hR, hT, hK, hL, hZ, hP, hN⟩ := h
  have n12 := hC.2.1
  have n30 := hR.2.1
  have w0 := world_ok (v := 0) hA hB hC hR
  unfold P_X11_storm
  refine ⟨hM.o, fun e => ?_, fun _ => m_falls hV (fun T hX => ?_)⟩
  · rw [hT.2.2.1, show Int32.ofNat nT = (40 : Int32) ↔ nT = 40 from nl_eq (k := 40) (by omega) (by omega)] at e
    omega
  obtain ⟨x1, x2, x3, x4, x5, x6, x7, x8, x9⟩ := hX
  have x2 : ∀ j, j < nC → sI T 1141 j = Int32.ofNat ((runF S2 nC nR nM 0).1 0 j) ∧ sL T 1144 j = gn ((runF S2 nC nR nM 0).1 4 j) ∧ sL T 1145 j = gn ((runF S2 nC nR nM 0).1 5 j) ∧ sI T 1146 j = Int32.ofNat ((runF S2 nC nR nM 0).1 6 j) := x2
  have x3 : sL T 1000 48 = gn (su (bowlsF S2) nC + su ((runF S2 nC nR nM 0).1 3) nC) := x3
  have x4 : sL T 1000 49 = gn (su ((runF S2 nC nR nM 0).1 4) nC) := x4
  have x5 : sI T 1000 52 = Int32.ofNat (su ((runF S2 nC nR nM 0).1 6) nC) := x5
  have x8 : sL T 1000 50 = gn (runF S2 nC nR nM 0).2.1 := x8
  have x9 : sL T 1000 51 = gn (runF S2 nC nR nM 0).2.2 := x9
  unfold P_X11_storm_L18
  refine lpS (N := nR) (s0 := 0) (R := fun r U => MW U ∧ (∀ x, ¬ x = 1129 → vw U x = vw T x) ∧ ∀ i, sI U 1129 i = if i < r then Int32.ofNat (brF S2 i nM) else sI T 1129 i) (B := fun x U K => P_X11_storm_L18b 1000 x U Q K) rfl (Nat.zero_le _) ⟨x1.1, fun _ _ => rfl, fun i => by rw [if_neg (Nat.not_lt_zero _)]⟩ (fun r hr U hR2 K hK2 => ?_)
  obtain ⟨g1, g2, g3⟩ := hR2
  have i2 : sI U 1000 2 = Int32.ofNat nR := by rw [vwI (g2 1000 (by omega)), x1.2.2.1 2 (by omega)]; exact hR.2.2.1
  unfold P_X11_storm_L18b
  refine ⟨g1.o, fun e => ?_, fun e => ?_⟩
  · rw [i2, nn_le (by omega) (by omega)] at e
    have e2 : r = nR := by omega
    subst e2
    unfold P_X11_storm_L46
    refine lpS (N := nC) (s0 := 0) (R := fun c V => MW V ∧ (∀ x, ¬ (x = 1121 ∨ x = 1156 ∨ x = 1157 ∨ x = 1160) → vw V x = vw U x) ∧ (∀ i, sI V 1121 i = if i < c then Int32.ofNat ((runF S2 nC r nM 0).1 0 i) else sI T 1121 i) ∧ (∀ i, sL V 1156 i = if i < c then gn ((runF S2 nC r nM 0).1 4 i) else sL T 1156 i) ∧ (∀ i, sL V 1157 i = if i < c then gn ((runF S2 nC r nM 0).1 5 i) else sL T 1157 i) ∧ ∀ i, sI V 1160 i = if i < c then Int32.ofNat ((runF S2 nC r nM 0).1 6 i) else sI T 1160 i) (B := fun x V K => P_X11_storm_L46b 1000 x V Q K) rfl (Nat.zero_le _) ⟨g1, fun _ _ => rfl, fun i => by rw [if_neg (Nat.not_lt_zero _), vwI (g2 1121 (by omega))], fun i => by rw [if_neg (Nat.not_lt_zero _), vwL (g2 1156 (by omega))], fun i => by rw [if_neg (Nat.not_lt_zero _), vwL (g2 1157 (by omega))], fun i => by rw [if_neg (Nat.not_lt_zero _), vwI (g2 1160 (by omega))]⟩ (fun c hc V hR3 K3 hK3 => ?_)
    obtain ⟨y1, y2, y3, y4, y5, y6⟩ := hR3
    have vV : ∀ x, ¬ (x = 1121 ∨ x = 1129 ∨ x = 1156 ∨ x = 1157 ∨ x = 1160) → vw V x = vw T x := fun x hx => by rw [y2 x (by omega), g2 x (by omega)]
    have i1 : sI V 1000 1 = Int32.ofNat nC := by rw [vwI (vV 1000 (by omega)), x1.2.2.1 1 (by omega)]; exact hC.2.2.1
    unfold P_X11_storm_L46b
    refine ⟨y1.o, fun e => ?_, fun e => ?_⟩
    · rw [i1, nn_le (by omega) (by omega)] at e
      have e2 : c = nC := by omega
      subst e2
      have s47 : sL V 1000 47 = gn (raF S2 c r nM) := by rw [vwL (vV 1000 (by omega))]; exact x7
      have s48 : sL V 1000 48 = gn (su (bowlsF S2) c + su ((runF S2 c r nM 0).1 3) c) := by rw [vwL (vV 1000 (by omega))]; exact x3
      have s49 : sL V 1000 49 = gn (su ((runF S2 c r nM 0).1 4) c) := by rw [vwL (vV 1000 (by omega))]; exact x4
      have s50 : sL V 1000 50 = gn (runF S2 c r nM 0).2.1 := by rw [vwL (vV 1000 (by omega))]; exact x8
      have s51 : sL V 1000 51 = gn (runF S2 c r nM 0).2.2 := by rw [vwL (vV 1000 (by omega))]; exact x9
      have s52 : sI V 1000 52 = Int32.ofNat (su ((runF S2 c r nM 0).1 6) c) := by rw [vwI (vV 1000 (by omega))]; exact x5
      have s35 : ∀ j, ¬ (47 ≤ j ∧ j ≤ 51) → sL V 1000 j = sL S2 1000 j := fun j hj => by rw [vwL (vV 1000 (by omega))]; exact x1.2.2.2 j hj
      have s0 : ∀ j, ¬ j = 52 → sI V 1000 j = sI S2 1000 j := fun j hj => by rw [vwI (vV 1000 (by omega))]; exact x1.2.2.1 j hj
      intro t1 w1 t2 w2 t3 w3 t4 w4
      rw [s35 35 (by omega), s47] at w1
      rw [w1, sL_pL_ne (by omega), sL_pL_ne (by omega), s35 36 (by omega), s48] at w2
      rw [w2, sL_pL_ne (by omega), sL_pL_ne (by omega), sL_pL_ne (by omega), sL_pL_ne (by omega), s35 37 (by omega), s49] at w3
      rw [w3, sL_pL_ne (by omega), sL_pL_ne (by omega), sL_pL_ne (by omega), sL_pL_ne (by omega), sL_pL_ne (by omega), sL_pL_ne (by omega), s35 38 (by omega), s50] at w4
      have mt : MW t4 := by rw [w4]; exact mw_pL (mw_pL (mw_pL (mw_pL y1 (by omega)) (by omega)) (by omega)) (by omega)
      have vt : ∀ x, ¬ x = 1000 → vw t4 x = vw V x := fun x hx => by rw [w4, vw_pL hx, vw_pL hx, vw_pL hx, vw_pL hx]
      have it : ∀ j, sI t4 1000 j = sI V 1000 j := fun j => by rw [w4]; rfl
      have lt : sL t4 1000 47 = gn (raF S2 c r nM) ∧ sL t4 1000 49 = gn (su ((runF S2 c r nM 0).1 4) c) ∧ sL t4 1000 51 = gn (runF S2 c r nM 0).2.2 := by
        rw [w4]
        simp (disch := first | omega | decide) only [sL_pL_ne]
        exact ⟨s47, s49, s51⟩
      have sums : sL t4 1000 35 = sL S2 1000 35 + gn (raF S2 c r nM) ∧ sL t4 1000 36 = sL S2 1000 36 + gn (su (bowlsF S2) c + su ((runF S2 c r nM 0).1 3) c) ∧ sL t4 1000 37 = sL S2 1000 37 + gn (su ((runF S2 c r nM 0).1 4) c) ∧ sL t4 1000 38 = sL S2 1000 38 + gn (runF S2 c r nM 0).2.1 ∧ sL t4 1000 39 = sL S2 1000 39 := by
        rw [w4]
        refine ⟨?_, ?_, ?_, ?_, ?_⟩
        · simp (disch := first | omega | decide) only [sL_pL_ne, sL_pL_eq]
        · simp (disch := first | omega | decide) only [sL_pL_ne, sL_pL_eq]
        · simp (disch := first | omega | decide) only [sL_pL_ne, sL_pL_eq]
        · simp (disch := first | omega | decide) only [sL_pL_eq]
        · simp (disch := first | omega | decide) only [sL_pL_ne]; exact s35 39 (by omega)
      clear w4 w3 w2 w1
      have kk := k t4 ⟨mt, fun x hx => ?_, fun j hj => (it j).trans (s0 j hj), fun i => ?_, fun i => ?_, fun i => ?_, fun i => ?_, fun i => ?_⟩ sums
      case refine_1 => rw [vt x (by omega), vV x (by omega)]; exact x1.2.1 x (by omega)
      case refine_2 => rw [vwI (vt 1121 (by omega)), y3, vwI (x1.2.1 1121 (by omega))]
      case refine_3 => rw [vwI (vt 1129 (by omega)), vwI (y2 1129 (by omega)), g3, vwI (x1.2.1 1129 (by omega))]
      case refine_4 => rw [vwL (vt 1156 (by omega)), y4, vwL (x1.2.1 1156 (by omega))]
      case refine_5 => rw [vwL (vt 1157 (by omega)), y5, vwL (x1.2.1 1157 (by omega))]
      case refine_6 => rw [vwI (vt 1160 (by omega)), y6, vwI (x1.2.1 1160 (by omega))]
      have j4 : sI t4 1000 4 = Int32.ofNat nT := (it 4).trans ((s0 4 (by omega)).trans hT.2.2.1)
      have j0 : sI t4 1000 0 = Int32.ofNat td := (it 0).trans ((s0 0 (by omega)).trans hZ.2.2.2.2.1)
      have j52 : sI t4 1000 52 = Int32.ofNat (su ((runF S2 c r nM 0).1 6) c) := (it 52).trans s52
      unfold tldT at kk
      refine ⟨1158, mt.a58.1, mt.a58.2.1, by rw [j4]; simp (disch := first | omega | decide) only [Option.some.injEq, exists_eq_left', exists_eq_left, forall_eq, forall_eq', true_and, and_true, true_implies, implies_true, false_implies, not_true_eq_false, not_false_eq_true, reduceCtorEq, and_self, forall_const, i10, i01, if_true, if_false, and_false, false_and, Nat.not_lt_zero, sK_pI, sN_pI, sR_pI, sL_pI, sK_pL, sN_pL, sR_pL, sI_pL, sK_pR, sN_pR, sI_pR, sL_pR, sI_pI_eq, sI_pI_ne, sL_pL_eq, sL_pL_ne, sR_pR_eq, sR_pR_ne, nn_le, nat32_lt, nn_eq, ln_le, nl_le, ln_lt, nl_lt, ln_eq, nl_eq, n_m1, n_lt0, vp_n, vp_l, lc_n, nat32c, n_s, nI_n, mt.a58, hlt], fun t5 w5 => ?_⟩
      rw [j4, nat32c (by omega), j0] at w5
      have m5 : MW t5 := by rw [w5]; exact mw_pI mt (by omega)
      have k5 : sI t5 1000 4 = Int32.ofNat nT := by rw [w5, sI_pI_ne (by omega)]; exact j4
      refine ⟨1153, m5.a53.1, m5.a53.2.1, by rw [k5]; simp (disch := first | omega | decide) only [Option.some.injEq, exists_eq_left', exists_eq_left, forall_eq, forall_eq', true_and, and_true, true_implies, implies_true, false_implies, not_true_eq_false, not_false_eq_true, reduceCtorEq, and_self, forall_const, i10, i01, if_true, if_false, and_false, false_and, Nat.not_lt_zero, sK_pI, sN_pI, sR_pI, sL_pI, sK_pL, sN_pL, sR_pL, sI_pL, sK_pR, sN_pR, sI_pR, sL_pR, sI_pI_eq, sI_pI_ne, sL_pL_eq, sL_pL_ne, sR_pR_eq, sR_pR_ne, nn_le, nat32_lt, nn_eq, ln_le, nl_le, ln_lt, nl_lt, ln_eq, nl_eq, n_m1, n_lt0, vp_n, vp_l, lc_n, nat32c, n_s, nI_n, m5.a53, hlt], fun t6 w6 => ?_⟩
      rw [k5, nat32c (by omega), show sL t5 1000 47 = gn (raF S2 c r nM) from by rw [w5]; exact lt.1] at w6
      have m6 : MW t6 := by rw [w6]; exact mw_pL m5 (by omega)
      have k6 : sI t6 1000 4 = Int32.ofNat nT := by rw [w6]; exact k5
      refine ⟨1154, m6.a54.1, m6.a54.2.1, by rw [k6]; simp (disch := first | omega | decide) only [Option.some.injEq, exists_eq_left', exists_eq_left, forall_eq, forall_eq', true_and, and_true, true_implies, implies_true, false_implies, not_true_eq_false, not_false_eq_true, reduceCtorEq, and_self, forall_const, i10, i01, if_true, if_false, and_false, false_and, Nat.not_lt_zero, sK_pI, sN_pI, sR_pI, sL_pI, sK_pL, sN_pL, sR_pL, sI_pL, sK_pR, sN_pR, sI_pR, sL_pR, sI_pI_eq, sI_pI_ne, sL_pL_eq, sL_pL_ne, sR_pR_eq, sR_pR_ne, nn_le, nat32_lt, nn_eq, ln_le, nl_le, ln_lt, nl_lt, ln_eq, nl_eq, n_m1, n_lt0, vp_n, vp_l, lc_n, nat32c, n_s, nI_n, m6.a54, hlt], fun t7 w7 => ?_⟩
      rw [k6, nat32c (by omega), show sL t6 1000 49 = gn (su ((runF S2 c r nM 0).1 4) c) from by rw [w6, sL_pL_ne (by omega), w5]; exact lt.2.1] at w7
      have m7 : MW t7 := by rw [w7]; exact mw_pL m6 (by omega)
      have k7 : sI t7 1000 4 = Int32.ofNat nT := by rw [w7]; exact k6
      refine ⟨1159, m7.a59.1, m7.a59.2.1, by rw [k7]; simp (disch := first | omega | decide) only [Option.some.injEq, exists_eq_left', exists_eq_left, forall_eq, forall_eq', true_and, and_true, true_implies, implies_true, false_implies, not_true_eq_false, not_false_eq_true, reduceCtorEq, and_self, forall_const, i10, i01, if_true, if_false, and_false, false_and, Nat.not_lt_zero, sK_pI, sN_pI, sR_pI, sL_pI, sK_pL, sN_pL, sR_pL, sI_pL, sK_pR, sN_pR, sI_pR, sL_pR, sI_pI_eq, sI_pI_ne, sL_pL_eq, sL_pL_ne, sR_pR_eq, sR_pR_ne, nn_le, nat32_lt, nn_eq, ln_le, nl_le, ln_lt, nl_lt, ln_eq, nl_eq, n_m1, n_lt0, vp_n, vp_l, lc_n, nat32c, n_s, nI_n, m7.a59, hlt], fun t8 w8 => ?_⟩
      rw [k7, nat32c (by omega), show sI t7 1000 52 = Int32.ofNat (su ((runF S2 c r nM 0).1 6) c) from by rw [w7, sI_pL, w6, sI_pL, w5, sI_pI_ne (by omega)]; exact j52] at w8
      have m8 : MW t8 := by rw [w8]; exact mw_pI m7 (by omega)
      have k8 : sI t8 1000 4 = Int32.ofNat nT := by rw [w8, sI_pI_ne (by omega)]; exact k7
      refine ⟨1155, m8.a55.1, m8.a55.2.1, by rw [k8]; simp (disch := first | omega | decide) only [Option.some.injEq, exists_eq_left', exists_eq_left, forall_eq, forall_eq', true_and, and_true, true_implies, implies_true, false_implies, not_true_eq_false, not_false_eq_true, reduceCtorEq, and_self, forall_const, i10, i01, if_true, if_false, and_false, false_and, Nat.not_lt_zero, sK_pI, sN_pI, sR_pI, sL_pI, sK_pL, sN_pL, sR_pL, sI_pL, sK_pR, sN_pR, sI_pR, sL_pR, sI_pI_eq, sI_pI_ne, sL_pL_eq, sL_pL_ne, sR_pR_eq, sR_pR_ne, nn_le, nat32_lt, nn_eq, ln_le, nl_le, ln_lt, nl_lt, ln_eq, nl_eq, n_m1, n_lt0, vp_n, vp_l, lc_n, nat32c, n_s, nI_n, m8.a55, hlt], fun t9 w9 s10 w10 => ?_⟩
      rw [k8, nat32c (by omega), show sL t8 1000 51 = gn (runF S2 c r nM 0).2.2 from by rw [w8, sL_pI, w7, sL_pL_ne (by omega), w6, sL_pL_ne (by omega), w5]; exact lt.2.2] at w9
      rw [show sI t9 1000 4 = Int32.ofNat nT from by rw [w9]; exact k8, n_s] at w10
      rw [w10, sI_pI_eq, n_p (by omega), Nat.add_sub_cancel, w9, w8, w7, w6, w5]
      exact kk
    · rw [i1, nn_le (by omega) (by omega)] at e
      have hcl : c < nC := by omega
      have h12 : c < 12 := by omega
      refine ⟨1141, y1.a41.1, y1.a41.2.1, by simp (disch := first | omega | decide) only [Option.some.injEq, exists_eq_left', exists_eq_left, forall_eq, forall_eq', true_and, and_true, true_implies, implies_true, false_implies, not_true_eq_false, not_false_eq_true, reduceCtorEq, and_self, forall_const, i10, i01, if_true, if_false, and_false, false_and, Nat.not_lt_zero, sK_pI, sN_pI, sR_pI, sL_pI, sK_pL, sN_pL, sR_pL, sI_pL, sK_pR, sN_pR, sI_pR, sL_pR, sI_pI_eq, sI_pI_ne, sL_pL_eq, sL_pL_ne, sR_pR_eq, sR_pR_ne, nn_le, nat32_lt, nn_eq, ln_le, nl_le, ln_lt, nl_lt, ln_eq, nl_eq, n_m1, n_lt0, vp_n, vp_l, lc_n, nat32c, n_s, nI_n, y1.a41, h12], 1121, y1.a21.1, y1.a21.2.1, by simp (disch := first | omega | decide) only [Option.some.injEq, exists_eq_left', exists_eq_left, forall_eq, forall_eq', true_and, and_true, true_implies, implies_true, false_implies, not_true_eq_false, not_false_eq_true, reduceCtorEq, and_self, forall_const, i10, i01, if_true, if_false, and_false, false_and, Nat.not_lt_zero, sK_pI, sN_pI, sR_pI, sL_pI, sK_pL, sN_pL, sR_pL, sI_pL, sK_pR, sN_pR, sI_pR, sL_pR, sI_pI_eq, sI_pI_ne, sL_pL_eq, sL_pL_ne, sR_pR_eq, sR_pR_ne, nn_le, nat32_lt, nn_eq, ln_le, nl_le, ln_lt, nl_lt, ln_eq, nl_eq, n_m1, n_lt0, vp_n, vp_l, lc_n, nat32c, n_s, nI_n, y1.a21, h12], fun t1 w1 => ?_⟩
      rw [nat32c (by omega), vwI (vV 1141 (by omega)), (x2 c hcl).1] at w1
      have m1 : MW t1 := by rw [w1]; exact mw_pI y1 (by omega)
      refine ⟨1144, m1.a44.1, m1.a44.2.1, by simp (disch := first | omega | decide) only [Option.some.injEq, exists_eq_left', exists_eq_left, forall_eq, forall_eq', true_and, and_true, true_implies, implies_true, false_implies, not_true_eq_false, not_false_eq_true, reduceCtorEq, and_self, forall_const, i10, i01, if_true, if_false, and_false, false_and, Nat.not_lt_zero, sK_pI, sN_pI, sR_pI, sL_pI, sK_pL, sN_pL, sR_pL, sI_pL, sK_pR, sN_pR, sI_pR, sL_pR, sI_pI_eq, sI_pI_ne, sL_pL_eq, sL_pL_ne, sR_pR_eq, sR_pR_ne, nn_le, nat32_lt, nn_eq, ln_le, nl_le, ln_lt, nl_lt, ln_eq, nl_eq, n_m1, n_lt0, vp_n, vp_l, lc_n, nat32c, n_s, nI_n, m1.a44, h12], 1156, m1.a56.1, m1.a56.2.1, by simp (disch := first | omega | decide) only [Option.some.injEq, exists_eq_left', exists_eq_left, forall_eq, forall_eq', true_and, and_true, true_implies, implies_true, false_implies, not_true_eq_false, not_false_eq_true, reduceCtorEq, and_self, forall_const, i10, i01, if_true, if_false, and_false, false_and, Nat.not_lt_zero, sK_pI, sN_pI, sR_pI, sL_pI, sK_pL, sN_pL, sR_pL, sI_pL, sK_pR, sN_pR, sI_pR, sL_pR, sI_pI_eq, sI_pI_ne, sL_pL_eq, sL_pL_ne, sR_pR_eq, sR_pR_ne, nn_le, nat32_lt, nn_eq, ln_le, nl_le, ln_lt, nl_lt, ln_eq, nl_eq, n_m1, n_lt0, vp_n, vp_l, lc_n, nat32c, n_s, nI_n, m1.a56, h12], fun t2 w2 => ?_⟩
      rw [nat32c (by omega), show sL t1 1144 c = gn ((runF S2 nC r nM 0).1 4 c) from by rw [w1, sL_pI, vwL (vV 1144 (by omega))]; exact (x2 c hcl).2.1] at w2
      have m2 : MW t2 := by rw [w2]; exact mw_pL m1 (by omega)
      refine ⟨1145, m2.a45.1, m2.a45.2.1, by simp (disch := first | omega | decide) only [Option.some.injEq, exists_eq_left', exists_eq_left, forall_eq, forall_eq', true_and, and_true, true_implies, implies_true, false_implies, not_true_eq_false, not_false_eq_true, reduceCtorEq, and_self, forall_const, i10, i01, if_true, if_false, and_false, false_and, Nat.not_lt_zero, sK_pI, sN_pI, sR_pI, sL_pI, sK_pL, sN_pL, sR_pL, sI_pL, sK_pR, sN_pR, sI_pR, sL_pR, sI_pI_eq, sI_pI_ne, sL_pL_eq, sL_pL_ne, sR_pR_eq, sR_pR_ne, nn_le, nat32_lt, nn_eq, ln_le, nl_le, ln_lt, nl_lt, ln_eq, nl_eq, n_m1, n_lt0, vp_n, vp_l, lc_n, nat32c, n_s, nI_n, m2.a45, h12], 1157, m2.a57.1, m2.a57.2.1, by simp (disch := first | omega | decide) only [Option.some.injEq, exists_eq_left', exists_eq_left, forall_eq, forall_eq', true_and, and_true, true_implies, implies_true, false_implies, not_true_eq_false, not_false_eq_true, reduceCtorEq, and_self, forall_const, i10, i01, if_true, if_false, and_false, false_and, Nat.not_lt_zero, sK_pI, sN_pI, sR_pI, sL_pI, sK_pL, sN_pL, sR_pL, sI_pL, sK_pR, sN_pR, sI_pR, sL_pR, sI_pI_eq, sI_pI_ne, sL_pL_eq, sL_pL_ne, sR_pR_eq, sR_pR_ne, nn_le, nat32_lt, nn_eq, ln_le, nl_le, ln_lt, nl_lt, ln_eq, nl_eq, n_m1, n_lt0, vp_n, vp_l, lc_n, nat32c, n_s, nI_n, m2.a57, h12], fun t3 w3 => ?_⟩
      rw [nat32c (by omega), show sL t2 1145 c = gn ((runF S2 nC r nM 0).1 5 c) from by rw [w2, sL_pL_ne (by omega), w1, sL_pI, vwL (vV 1145 (by omega))]; exact (x2 c hcl).2.2.1] at w3
      have m3 : MW t3 := by rw [w3]; exact mw_pL m2 (by omega)
      refine ⟨1146, m3.a46.1, m3.a46.2.1, by simp (disch := first | omega | decide) only [Option.some.injEq, exists_eq_left', exists_eq_left, forall_eq, forall_eq', true_and, and_true, true_implies, implies_true, false_implies, not_true_eq_false, not_false_eq_true, reduceCtorEq, and_self, forall_const, i10, i01, if_true, if_false, and_false, false_and, Nat.not_lt_zero, sK_pI, sN_pI, sR_pI, sL_pI, sK_pL, sN_pL, sR_pL, sI_pL, sK_pR, sN_pR, sI_pR, sL_pR, sI_pI_eq, sI_pI_ne, sL_pL_eq, sL_pL_ne, sR_pR_eq, sR_pR_ne, nn_le, nat32_lt, nn_eq, ln_le, nl_le, ln_lt, nl_lt, ln_eq, nl_eq, n_m1, n_lt0, vp_n, vp_l, lc_n, nat32c, n_s, nI_n, m3.a46, h12], 1160, m3.a60.1, m3.a60.2.1, by simp (disch := first | omega | decide) only [Option.some.injEq, exists_eq_left', exists_eq_left, forall_eq, forall_eq', true_and, and_true, true_implies, implies_true, false_implies, not_true_eq_false, not_false_eq_true, reduceCtorEq, and_self, forall_const, i10, i01, if_true, if_false, and_false, false_and, Nat.not_lt_zero, sK_pI, sN_pI, sR_pI, sL_pI, sK_pL, sN_pL, sR_pL, sI_pL, sK_pR, sN_pR, sI_pR, sL_pR, sI_pI_eq, sI_pI_ne, sL_pL_eq, sL_pL_ne, sR_pR_eq, sR_pR_ne, nn_le, nat32_lt, nn_eq, ln_le, nl_le, ln_lt, nl_lt, ln_eq, nl_eq, n_m1, n_lt0, vp_n, vp_l, lc_n, nat32c, n_s, nI_n, m3.a60, h12], fun t4 w4 x hx => ?_⟩
      rw [nat32c (by omega), show sI t3 1146 c = Int32.ofNat ((runF S2 nC r nM 0).1 6 c) from by rw [w3, sI_pL, w2, sI_pL, w1, sI_pI_ne (by omega), vwI (vV 1146 (by omega))]; exact (x2 c hcl).2.2.2] at w4
      have m4 : MW t4 := by rw [w4]; exact mw_pI m3 (by omega)
      rw [hx, n_s]
      have cc : ∀ i, ¬ i = c → (i < c + 1) = (i < c) := fun i hi => by apply propext; omega
      refine hK3 hcl _ ⟨m4, fun x hx => ?_, fun i => ?_, fun i => ?_, fun i => ?_, fun i => ?_⟩
      · rw [w4, vw_pI (by omega), w3, vw_pL (by omega), w2, vw_pL (by omega), w1, vw_pI (by omega)]; exact y2 x hx
      · rw [w4, sI_pI_ne (by omega), w3, sI_pL, w2, sI_pL, w1]
        by_cases e5 : i = c
        · subst e5; rw [sI_pI_eq, if_pos (Nat.lt_succ_self _)]
        · rw [sI_pI_ne (by omega), y3 i]; simp only [cc i e5]
      · rw [w4, sL_pI, w3, sL_pL_ne (by omega), w2]
        by_cases e5 : i = c
        · subst e5; rw [sL_pL_eq, if_pos (Nat.lt_succ_self _)]
        · rw [sL_pL_ne (by omega), w1, sL_pI, y4 i]; simp only [cc i e5]
      · rw [w4, sL_pI, w3]
        by_cases e5 : i = c
        · subst e5; rw [sL_pL_eq, if_pos (Nat.lt_succ_self _)]
        · rw [sL_pL_ne (by omega), w2, sL_pL_ne (by omega), w1, sL_pI, y5 i]; simp only [cc i e5]
      · rw [w4]
        by_cases e5 : i = c
        · subst e5; rw [sI_pI_eq, if_pos (Nat.lt_succ_self _)]
        · rw [sI_pI_ne (by omega), w3, sI_pL, w2, sI_pL, w1, sI_pI_ne (by omega), y6 i]; simp only [cc i e5]
  · rw [i2, nn_le (by omega) (by omega)] at e
    have hlt2 : r < nR := by omega
    have hr30 : r < 30 := by omega
    have br := x6 r hlt2
    rw [if_neg (Nat.not_lt_zero _)] at br
    refine ⟨1140, g1.a40.1, g1.a40.2.1, by simp (disch := first | omega | decide) only [Option.some.injEq, exists_eq_left', exists_eq_left, forall_eq, forall_eq', true_and, and_true, true_implies, implies_true, false_implies, not_true_eq_false, not_false_eq_true, reduceCtorEq, and_self, forall_const, i10, i01, if_true, if_false, and_false, false_and, Nat.not_lt_zero, sK_pI, sN_pI, sR_pI, sL_pI, sK_pL, sN_pL, sR_pL, sI_pL, sK_pR, sN_pR, sI_pR, sL_pR, sI_pI_eq, sI_pI_ne, sL_pL_eq, sL_pL_ne, sR_pR_eq, sR_pR_ne, nn_le, nat32_lt, nn_eq, ln_le, nl_le, ln_lt, nl_lt, ln_eq, nl_eq, n_m1, n_lt0, vp_n, vp_l, lc_n, nat32c, n_s, nI_n, g1.a40, hr30], 1129, g1.a29.1, g1.a29.2.1, by simp (disch := first | omega | decide) only [Option.some.injEq, exists_eq_left', exists_eq_left, forall_eq, forall_eq', true_and, and_true, true_implies, implies_true, false_implies, not_true_eq_false, not_false_eq_true, reduceCtorEq, and_self, forall_const, i10, i01, if_true, if_false, and_false, false_and, Nat.not_lt_zero, sK_pI, sN_pI, sR_pI, sL_pI, sK_pL, sN_pL, sR_pL, sI_pL, sK_pR, sN_pR, sI_pR, sL_pR, sI_pI_eq, sI_pI_ne, sL_pL_eq, sL_pL_ne, sR_pR_eq, sR_pR_ne, nn_le, nat32_lt, nn_eq, ln_le, nl_le, ln_lt, nl_lt, ln_eq, nl_eq, n_m1, n_lt0, vp_n, vp_l, lc_n, nat32c, n_s, nI_n, g1.a29, hr30], fun t1 w1 x hx => ?_⟩
    rw [nat32c (by omega), vwI (g2 1140 (by omega)), br] at w1
    rw [hx, n_s]
    refine hK2 hlt2 _ ⟨by rw [w1]; exact mw_pI g1 (by omega), fun x hx => by rw [w1, vw_pI hx]; exact g2 x hx, fun i => ?_⟩
    rw [w1]
    by_cases e5 : i = r
    · subst e5; rw [sI_pI_eq, if_pos (Nat.lt_succ_self _)]
    · rw [sI_pI_ne (by omega), g3 i]
      have : (i < r + 1) = (i < r) := by apply propext; omega
      simp only [this]
end S4
theorem GC.keep2 {S S2 S' S2' : Sg} {n : Nat} (h : GC S S2 n) (e : ∀ x, (x = 1001 ∨ x = 2 ∨ 2000 ≤ x ∧ x < 2012 ∨ 10000 ≤ x ∧ sK S x = 20 + 32 * 1) → vw S' x = vw S x) (e2 : ∀ x, (1107 ≤ x ∧ x ≤ 1112 ∨ 1156 ≤ x ∧ x ≤ 1157 ∨ x = 1160) → vw S2' x = vw S2 x) (e3 : sI S2' 1000 1 = sI S2 1000 1) : GC S' S2' n := by
  obtain ⟨h1, h2, h3, h4, h5, h6⟩ := h
  refine ⟨h1.keep (e _ (by omega)) (fun a a1 a2 => e a (by omega)) (e 2 (by omega)), h2, e3.trans h3, fun i hi => ?_, fun i hi hi2 => ?_, fun i hi => ?_⟩
  · have := h4 i hi
    unfold cornerE at this ⊢
    rw [vwK (e (2000 + i) (by omega)), vwI (e (2000 + i) (by omega)), vwR (e (2000 + i) (by omega)), vwI (e2 1107 (by omega)), vwI (e2 1108 (by omega)), vwI (e2 1109 (by omega)), vwI (e2 1110 (by omega)), vwI (e2 1111 (by omega)), vwI (e2 1112 (by omega)), vwI (e2 1160 (by omega)), vwL (e2 1156 (by omega)), vwL (e2 1157 (by omega))]
    exact this
  · rw [vwK (e (2000 + i) (by omega)), vwI (e2 1112 (by omega)), vwI (e2 1160 (by omega)), vwL (e2 1156 (by omega)), vwL (e2 1157 (by omega))]
    exact h5 i hi hi2
  · have := h6 i hi
    unfold cornerB at this ⊢
    rw [vwI (e2 1107 (by omega)), vwI (e2 1108 (by omega)), vwI (e2 1109 (by omega)), vwI (e2 1110 (by omega)), vwI (e2 1111 (by omega))]
    exact this
theorem pr_storm : Pr_storm Inv := by
  intro S S2 hI _
  have hI0 := hI
  obtain ⟨hk, hM, hS, hU, hA, hW, hB, nC, nR, nT, nK, nL, nM, nP, td, N, lh, hC, hR, hT, hK, hL, hZ, hP, hN⟩ := hI
  have hV : IV S S2 nC nR nT nK nL nM nP td N lh := ⟨hk, hM, hS, hU, hA, hW, hB, hC, hR, hT, hK, hL, hZ, hP, hN⟩
  have n40 := hT.2.1
  unfold P_X10_storm
  have l40 : Int32.ofNat nT < (40 : Int32) ↔ nT < 40 := nl_lt (k := 40) (by omega) (by omega)
  refine ⟨hS.1.1, 1003, hS.1.2.2.2.1, hT.1.1, p_size hT.1 ⟨fun lt => ?_, fun lt => ⟨hk, ?_⟩⟩⟩
  case refine_2 =>
    rw [l40] at lt
    unfold P_X11_storm
    refine ⟨hM.o, fun _ => ⟨rfl, hI0⟩, fun z => absurd ?_ z⟩
    rw [hT.2.2.1, show nT = 40 from by omega]; rfl
  rw [l40] at lt
  refine x_prep hV (fun S1 g1 f1 => ?_)
  have h1 := iv_sx hV g1
  refine ⟨1043, (flow_at h1).1, (flow_at h1).2.1, x_runF h1 f1 (fun S3 y3 d3 => ?_)⟩
  have h3 := iv_sx h1 y3.sx
  have f3 := f1.ry y3
  refine x_storm1 h3 f3 d3 (fun σ K hq => x_stormE h3 f3 d3 hq lt (fun S' gL hg0 gq gN gO => ⟨gO, m_stormR hV lt (fun Tc cT sT => ⟨rfl, ?_⟩)⟩))
  -- the pair behind the sums
  have hq0 := hq
  obtain ⟨q1, q2, q3, q4, q5, q6⟩ := hq
  have gU : GU (sumS S2 σ nC nR nM) Tc := by
    obtain ⟨u0, u1, u2, u3, u5⟩ := h3.2.2.2.1
    obtain ⟨s0, s1, s2, s3, s5⟩ := sT
    unfold GU sumS
    rw [s0, s1, s2, s3, s5, ra_e hR hC.2.1, ← drkS_e]
    refine ⟨?_, ?_, ?_, ?_, ?_⟩
    · simp (disch := first | omega | decide) only [sL_pL_ne, sL_pL_eq]
      rw [q6 0, if_neg (by omega), u0]; rfl
    · simp (disch := first | omega | decide) only [sL_pL_ne, sL_pL_eq]
      rw [q6 1, if_pos rfl, u1]
    · simp (disch := first | omega | decide) only [sL_pL_ne, sL_pL_eq]
      rw [q6 2, if_neg (by omega), u2]
    · simp (disch := first | omega | decide) only [sL_pL_ne, sL_pL_eq]
      rw [q6 3, if_neg (by omega), u3]
    · simp (disch := first | omega | decide) only [sL_pL_ne, sL_pL_eq]
      rw [q6 5, if_neg (by omega), u5]
  have hD := iv_storm (Sc := sumS S2 σ nC nR nM) (Tc := Tc) h3 ⟨fun x => q1 x, fun x hx => by unfold sumS; rw [vw_pL (by omega), vw_pL (by omega), vw_pL (by omega)]; exact q2 x hx, fun j hj k => q3 j hj k, fun j hj z k => q4 j hj z k, fun j hj k => q5 j hj k⟩ cT gU
  have hg := hg0
  unfold Grown at hg
  have ra := ra_e hR hC.2.1 nM
  have rle := rnA_le hA hC hR hZ.2.2.1
  have bb := rn_b (world_ok (v := 0) hA hB hC hR) hZ.2.2.1
  have b4 : su ((runF S2 nC nR nM 0).1 4) nC ≤ 345600000 := bb.1
  have bm : (runF S2 nC nR nM 0).2.2 ≤ 6000 := bb.2.2.2.2.1
  have ra2 : raF S2 nC nR nM = rnA S2 nC nR nM := ra
  rw [ra2]
  generalize sumS S2 σ nC nR nM = Sd at *
  clear hV hI0 hk hM hS hU hA hW hB hC hR hT hK hL hZ hP hN q1 q2 q3 q4 q5 q6 hq0 sT cT gU h3 h1
  obtain ⟨hk, hM, hS, hU, hA, hW, hB, hC, hR, hT, hK, hL, hZ, hP, hN⟩ := hD
  unfold tldT
  refine ⟨gO, mw_pI (mw_pL (mw_pI (mw_pL (mw_pL (mw_pI hM (by omega)) (by omega)) (by omega)) (by omega)) (by omega)) (by omega), (hS.keep (fun x h1 h2 h3 => stru_vw (hg x (by omega) (by omega) (by omega) (by omega))) (fun x hx => hg x (by omega) (by omega) (by omega) (by omega)) (fun x h1 h2 => vwK (hg x (by omega) (by omega) (by omega) (by omega)))), (hU.keep (hg 1054 (by omega) (by omega) (by omega) (by omega)) (fun k h1 h2 => by simp (disch := first | omega | decide) only [sL_pL_ne, sL_pI])), (hA.keep (fun x h1 h2 => hg x (by omega) (by omega) (by omega) (by omega)) (fun x h1 h2 => by simp (disch := first | omega | decide) only [vw_pI, vw_pL])), (hW.keep (fun x hx => hg x (by omega) (by omega) (by omega) (by omega)) (fun x h1 h2 => by simp (disch := first | omega | decide) only [vw_pI, vw_pL])), (hB.keep (fun x h1 h2 => hg x (by omega) (by omega) (by omega) (by omega)) (fun x h1 h2 => by simp (disch := first | omega | decide) only [vw_pI, vw_pL])), nC, nR, nT + 1, nK, nL, nM, nP, td, N + 1, lh, (hC.keep2 (fun x hx => hg x (by omega) (by omega) (by omega) (by omega)) (fun x hx => by simp (disch := first | omega | decide) only [vw_pI, vw_pL]) (by simp (disch := first | omega | decide) only [sI_pI_ne, sI_pL])), (hR.keep (by omega) (Nat.le_refl _) (fun x hx => hg x (by omega) (by omega) (by omega) (by omega)) (fun x h1 h2 => by simp (disch := first | omega | decide) only [vw_pI, vw_pL]) (by simp (disch := first | omega | decide) only [sI_pI_ne, sI_pL])), ?_, (hK.keep (fun x hx => hg x (by omega) (by omega) (by omega) (by omega)) (fun x h1 h2 => by simp (disch := first | omega | decide) only [vw_pI, vw_pL]) (by simp (disch := first | omega | decide) only [sI_pI_ne, sI_pL])), (hL.keep (fun x hx => by unfold lawR at hx; exact hg x (by omega) (by omega) (by omega) (by omega)) (fun x h1 h2 => by simp (disch := first | omega | decide) only [vw_pI, vw_pL]) (by simp (disch := first | omega | decide) only [sI_pI_ne, sI_pL])), (hZ.keep (fun k h1 h2 => by rw [vwI (hg 1000 (by omega) (by omega) (by omega) (by omega))]) (fun k hk => by simp (disch := first | omega | decide) only [sI_pI_ne, sI_pL])), (hP.keep (fun x h1 h2 => hg x (by omega) (by omega) (by omega) (by omega)) (by simp (disch := first | omega | decide) only [vw_pI, vw_pL]) (by simp (disch := first | omega | decide) only [sI_pI_ne, sI_pL])), gN⟩
  refine ⟨gL, by omega, sI_pI_eq, fun j hj => ?_, fun j j1 j2 => ?_⟩
  · by_cases e : j = nT
    · subst e
      obtain ⟨e1, e2, e3, e4, e5, e6⟩ := gq
      unfold stormE
      rw [e2, e3, e4, e5, e6, n_64 (by omega), n_64 (by omega), n_64 (by omega)]
      refine ⟨e1, ?_, ?_, ?_, ?_, ?_⟩ <;> simp (disch := first | omega | decide) only [sI_pI_ne, sI_pI_eq, sL_pL_ne, sL_pL_eq, sI_pL, sL_pI]
    · have cj := hT.2.2.2.1 j (by omega)
      have fj := hg (5000 + j) (by omega) (by omega) (by omega) (by omega)
      unfold stormE at cj ⊢
      rw [vwK fj, vwI fj]
      simp (disch := first | omega | decide) only [sI_pI_ne, sL_pL_ne, sI_pL, sL_pI]
      exact cj
  · have fj := hg (5000 + j) (by omega) (by omega) (by omega) (by omega)
    rw [vwK fj]
    exact hT.2.2.2.2 j (by omega) j2
