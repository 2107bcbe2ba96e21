/-! ===== level 2: the told storm ===== -/
section S3
variable {S S2 T U : Sg} {nC nR nT nK nL nM nP td N : Nat} {lh : Nat → Nat}
theorem vw_pL_cg {X Y : Sg} {a k x : Nat} {v : Int64} (h : vw X x = vw Y x) : vw (pL X a k v) x = vw (pL Y a k v) x := by
  unfold vw
  rw [sK_pL, sN_pL, sI_pL, sR_pL, sK_pL, sN_pL, sI_pL, sR_pL, vwK h, vwN h, vwI h, vwR h, show sL (pL X a k v) x = sL (pL Y a k v) x by funext j; rw [sL_pL, sL_pL, vwL h]]
def rnA (S2 : Sg) (nC nR nM : Nat) : Nat := su (rnF S2) nM * (su (fun c => nt (sI S2 1107 c)) nC + su (fun r => nt (sI S2 1127 r)) nR)
/-- the sums behind a storm -/
def sumS (S2 σ : Sg) (nC nR nM : Nat) : Sg := pL (pL (pL σ 1054 0 (sL σ 1054 0 + gn (rnA S2 nC nR nM))) 1054 2 (sL σ 1054 2 + gn (su ((runF S2 nC nR nM 0).1 4) nC))) 1054 3 (sL σ 1054 3 + gn (runF S2 nC nR nM 0).2.1)
theorem rnA_le (hA : GA S S2) (hC : GC S S2 nC) (hR : GR S S2 nC nR td) (hm : nM ≤ 30) : rnA S2 nC nR nM ≤ 4050000 := by
  have h1 := su_le (f := rnF S2) (b := 50) (n := nM) (fun m _ => rn_le hA m)
  have h2 := su_le (f := fun c => nt (sI S2 1107 c)) (b := 100) (n := nC) (fun c hc => (area_e hC hc).2.1)
  have h3 := su_le (f := fun r => nt (sI S2 1127 r)) (b := 50) (n := nR) (fun r hr => (roof_e hR hr).2.2.1)
  have n12 := hC.2.1
  have n30 := hR.2.1
  have e : su (rnF S2) nM * (su (fun c => nt (sI S2 1107 c)) nC + su (fun r => nt (sI S2 1127 r)) nR) ≤ 1500 * 2700 := Nat.mul_le_mul (by omega) (by omega)
  unfold rnA
  omega
theorem x_stormE {σ : Sg} {Q : Int32 → Sg → Prop} {K : Int32 → Sg → Prop} (h : IV S S2 nC nR nT nK nL nM nP td N lh) (hF : FP S S2 nC nR nM) (hD : FD S nC (runF S2 nC nR nM 0)) (hq : stQ S S2 σ nC nR nM nC nR) (hlt : nT < 40) (k : ∀ S', Lst S' 1003 3 (fun i => 5000 + i) (nT + 1) → Grown (sumS S2 σ nC nR nM) S' (5000 + nT) 1003 3 → (sK S' (5000 + nT) % 32 = 10 ∧ sI S' (5000 + nT) 0 = Int32.ofNat td ∧ sI S' (5000 + nT) 1 = Int32.ofNat (rnA S2 nC nR nM) ∧ sI S' (5000 + nT) 2 = Int32.ofNat (su ((runF S2 nC nR nM 0).1 4) nC) ∧ sI S' (5000 + nT) 3 = Int32.ofNat (su ((runF S2 nC nR nM 0).1 6) nC) ∧ sI S' (5000 + nT) 4 = Int32.ofNat (runF S2 nC nR nM 0).2.2) → GN S' (N + 1) → okS S' → Q (Int32.ofNat nT) S') : P_X10_storm_L99b 1000 (Int32.ofNat nR) σ (1000, 14000) Q K := by
  obtain ⟨f1, f2, f3, f4, f5⟩ := flow_at h
  have bb := rn_b (world_ok (v := 0) h.2.2.2.2.1 h.2.2.2.2.2.2.1 h.2.2.2.2.2.2.2.1 h.2.2.2.2.2.2.2.2.1) h.2.2.2.2.2.2.2.2.2.2.2.2.1.2.2.1
  obtain ⟨hk, hM, hS, hU, hA, hW, hB, hC, hR, hT, hK, hL, hZ, hP, hN⟩ := h
  have n12 := hC.2.1
  have n30 := hR.2.1
  have m30 := hZ.2.2.1
  have o := hS.1
  have o2 := hS.2.1
  obtain ⟨q1, q2, q3, q4, q5, q6⟩ := hq
  have kk : ∀ x, sK σ x = sK S x := fun x => stK (q1 x)
  have nn : ∀ x, sN σ x = sN S x := fun x => stN (q1 x)
  have rr : ∀ x, sR σ x = sR S x := fun x => stR (q1 x)
  have L1 := hC.1.keep (S' := σ) (q2 1001 (by omega)) (fun a a1 a2 => q2 a (by omega)) (q2 2 (by omega))
  have L2 := hR.1.keep (S' := σ) (q2 1002 (by omega)) (fun a a1 a2 => q2 a (by omega)) (q2 2 (by omega))
  have L3 := hT.1.keep (S' := σ) (q2 1003 (by omega)) (fun a a1 a2 => q2 a (by omega)) (q2 2 (by omega))
  have L4 := f4.keep (S' := σ) (q2 1044 (by omega)) (fun a a1 a2 => q2 a (by omega)) (q2 2 (by omega))
  have h0 : sK σ (5000 + nT) = 0 := by rw [kk]; exact hT.2.2.2.2 nT (Nat.le_refl _) hlt
  have rle := rnA_le hA hC hR m30
  have l0 : (0 : Int32).toNatClampNeg = 0 := by decide
  have l2 : (2 : Int32).toNatClampNeg = 2 := by decide
  have l3 : (3 : Int32).toNatClampNeg = 3 := by decide
  have n54 : sN S 1054 = 7 := by simp (disch := first | omega | decide) only [Option.some.injEq, exists_eq_left', exists_eq_left, forall_eq, forall_eq', true_and, and_true, true_implies, implies_true, false_implies, not_true_eq_false, not_false_eq_true, reduceCtorEq, and_self, forall_const, i10, i01, if_true, if_false, and_false, false_and, Nat.not_lt_zero, sK_pI, sN_pI, sR_pI, sL_pI, sK_pL, sN_pL, sR_pL, sI_pL, sK_pR, sN_pR, sI_pR, sL_pR, sI_pI_eq, sI_pI_ne, sL_pL_eq, sL_pL_ne, sR_pR_eq, sR_pR_ne, nn_le, nat32_lt, nn_eq, ln_le, nl_le, ln_lt, nl_lt, ln_eq, nl_eq, n_m1, n_lt0, vp_n, vp_l, lc_n, nat32c, n_s, nI_n, o2]
  have k54 : sK S 1054 % 32 = 17 := by simp (disch := first | omega | decide) only [Option.some.injEq, exists_eq_left', exists_eq_left, forall_eq, forall_eq', true_and, and_true, true_implies, implies_true, false_implies, not_true_eq_false, not_false_eq_true, reduceCtorEq, and_self, forall_const, i10, i01, if_true, if_false, and_false, false_and, Nat.not_lt_zero, sK_pI, sN_pI, sR_pI, sL_pI, sK_pL, sN_pL, sR_pL, sI_pL, sK_pR, sN_pR, sI_pR, sL_pR, sI_pI_eq, sI_pI_ne, sL_pL_eq, sL_pL_ne, sR_pR_eq, sR_pR_ne, nn_le, nat32_lt, nn_eq, ln_le, nl_le, ln_lt, nl_lt, ln_eq, nl_eq, n_m1, n_lt0, vp_n, vp_l, lc_n, nat32c, n_s, nI_n, o2]
  have r13 : sR S 1000 13 = some 1054 := o.2.2.2.2.2.2.2.2.2.2.2.2.2.2
  have vp0 : vp_in 0 (sN S 1054) := by rw [n54]; simp (disch := first | omega | decide) only [Option.some.injEq, exists_eq_left', exists_eq_left, forall_eq, forall_eq', true_and, and_true, true_implies, implies_true, false_implies, not_true_eq_false, not_false_eq_true, reduceCtorEq, and_self, forall_const, i10, i01, if_true, if_false, and_false, false_and, Nat.not_lt_zero, sK_pI, sN_pI, sR_pI, sL_pI, sK_pL, sN_pL, sR_pL, sI_pL, sK_pR, sN_pR, sI_pR, sL_pR, sI_pI_eq, sI_pI_ne, sL_pL_eq, sL_pL_ne, sR_pR_eq, sR_pR_ne, nn_le, nat32_lt, nn_eq, ln_le, nl_le, ln_lt, nl_lt, ln_eq, nl_eq, n_m1, n_lt0, vp_n, vp_l, lc_n, nat32c, n_s, nI_n, true_and]; omega
  have vp2 : vp_in 2 (sN S 1054) := by rw [n54]; simp (disch := first | omega | decide) only [Option.some.injEq, exists_eq_left', exists_eq_left, forall_eq, forall_eq', true_and, and_true, true_implies, implies_true, false_implies, not_true_eq_false, not_false_eq_true, reduceCtorEq, and_self, forall_const, i10, i01, if_true, if_false, and_false, false_and, Nat.not_lt_zero, sK_pI, sN_pI, sR_pI, sL_pI, sK_pL, sN_pL, sR_pL, sI_pL, sK_pR, sN_pR, sI_pR, sL_pR, sI_pI_eq, sI_pI_ne, sL_pL_eq, sL_pL_ne, sR_pR_eq, sR_pR_ne, nn_le, nat32_lt, nn_eq, ln_le, nl_le, ln_lt, nl_lt, ln_eq, nl_eq, n_m1, n_lt0, vp_n, vp_l, lc_n, nat32c, n_s, nI_n, true_and]; omega
  have vp3 : vp_in 3 (sN S 1054) := by rw [n54]; simp (disch := first | omega | decide) only [Option.some.injEq, exists_eq_left', exists_eq_left, forall_eq, forall_eq', true_and, and_true, true_implies, implies_true, false_implies, not_true_eq_false, not_false_eq_true, reduceCtorEq, and_self, forall_const, i10, i01, if_true, if_false, and_false, false_and, Nat.not_lt_zero, sK_pI, sN_pI, sR_pI, sL_pI, sK_pL, sN_pL, sR_pL, sI_pL, sK_pR, sN_pR, sI_pR, sL_pR, sI_pI_eq, sI_pI_ne, sL_pL_eq, sL_pL_ne, sR_pR_eq, sR_pR_ne, nn_le, nat32_lt, nn_eq, ln_le, nl_le, ln_lt, nl_lt, ln_eq, nl_eq, n_m1, n_lt0, vp_n, vp_l, lc_n, nat32c, n_s, nI_n, true_and]; omega
  unfold P_X10_storm_L99b
  refine ⟨by rw [kk]; exact o.1, 1002, by rw [rr]; exact o.2.2.1, L2.1, p_size L2 ⟨fun _ => ⟨10, 5000 + nT, by decide, by decide, by decide, h0, by omega, fun s71 w71 => ?_⟩, fun z => absurd (Int32.le_refl _) z⟩⟩
  have v71 : ∀ x, ¬ x = 5000 + nT → vw s71 x = vw σ x := fun x hx => by rw [w71]; exact vw_nw hx
  have g71 : sK s71 (5000 + nT) = 10 := by rw [w71, sK_nw, if_pos rfl]
  clear w71
  have L71a := L1.keep (S' := s71) (v71 1001 (by omega)) (fun a a1 a2 => v71 a (by omega)) (v71 2 (by omega))
  have L71b := L2.keep (S' := s71) (v71 1002 (by omega)) (fun a a1 a2 => v71 a (by omega)) (v71 2 (by omega))
  have L71d := L4.keep (S' := s71) (v71 1044 (by omega)) (fun a a1 a2 => v71 a (by omega)) (v71 2 (by omega))
  have K71 : ∀ x, ¬ x = 5000 + nT → sK s71 x = sK S x := fun x hx => by rw [vwK (v71 x hx), kk]
  have R71 : ∀ x, ¬ x = 5000 + nT → sR s71 x = sR S x := fun x hx => by rw [vwR (v71 x hx), rr]
  have N71 : ∀ x, ¬ x = 5000 + nT → sN s71 x = sN S x := fun x hx => by rw [vwN (v71 x hx), nn]
  have i15 : sI s71 1000 15 = Int32.ofNat td := by rw [vwI (v71 1000 (by omega)), vwI (q2 1000 (by omega))]; exact hZ.2.2.2.1
  have i43 : ∀ k, sI s71 1043 k = sI S 1043 k := fun k => by rw [vwI (v71 1043 (by omega)), vwI (q2 1043 (by omega))]
  have nd71 : ∀ j, j < nC → ND s71 (runF S2 nC nR nM 0).1 j := fun j hj => by
    have d := hD.1 j hj
    unfold ND at d ⊢
    rw [vwI (v71 (7000 + j) (by omega)), vwI (q2 (7000 + j) (by omega))]
    exact d
  refine x_rains (nC := nC) (nR := nR) (nM := nM) (S2 := S2) (by rw [K71 1000 (by omega)]; exact o.1) (by rw [R71 1000 (by omega)]; exact o.2.1) (by rw [R71 1000 (by omega)]; exact o.2.2.1) (by rw [R71 1000 (by omega)]; exact o.2.2.2.2.2.2.2.2.2.2.1) L71a L71b (fun c hc => ⟨?_, ?_⟩) (fun r hr => ⟨?_, ?_⟩) (by rw [K71 1051 (by omega)]; simp (disch := first | omega | decide) only [Option.some.injEq, exists_eq_left', exists_eq_left, forall_eq, forall_eq', true_and, and_true, true_implies, implies_true, false_implies, not_true_eq_false, not_false_eq_true, reduceCtorEq, and_self, forall_const, i10, i01, if_true, if_false, and_false, false_and, Nat.not_lt_zero, sK_pI, sN_pI, sR_pI, sL_pI, sK_pL, sN_pL, sR_pL, sI_pL, sK_pR, sN_pR, sI_pR, sL_pR, sI_pI_eq, sI_pI_ne, sL_pL_eq, sL_pL_ne, sR_pR_eq, sR_pR_ne, nn_le, nat32_lt, nn_eq, ln_le, nl_le, ln_lt, nl_lt, ln_eq, nl_eq, n_m1, n_lt0, vp_n, vp_l, lc_n, nat32c, n_s, nI_n, o2]) (by rw [N71 1051 (by omega)]; simp (disch := first | omega | decide) only [Option.some.injEq, exists_eq_left', exists_eq_left, forall_eq, forall_eq', true_and, and_true, true_implies, implies_true, false_implies, not_true_eq_false, not_false_eq_true, reduceCtorEq, and_self, forall_const, i10, i01, if_true, if_false, and_false, false_and, Nat.not_lt_zero, sK_pI, sN_pI, sR_pI, sL_pI, sK_pL, sN_pL, sR_pL, sI_pL, sK_pR, sN_pR, sI_pR, sL_pR, sI_pI_eq, sI_pI_ne, sL_pL_eq, sL_pL_ne, sR_pR_eq, sR_pR_ne, nn_le, nat32_lt, nn_eq, ln_le, nl_le, ln_lt, nl_lt, ln_eq, nl_eq, n_m1, n_lt0, vp_n, vp_l, lc_n, nat32c, n_s, nI_n, o2]) (fun m hm => ?_) (by rw [vwI (v71 1000 (by omega)), vwI (q2 1000 (by omega))]; exact hZ.1) n12 n30 m30 ?_
  · rw [K71 (2000 + c) (by omega)]; exact (hC.2.2.2.1 c hc).1
  · rw [vwI (v71 (2000 + c) (by omega)), q3 c hc 0, if_neg (by omega), if_neg (by omega), if_neg (by omega), (hC.2.2.2.1 c hc).2.1]
    exact (area_e hC hc).1
  · rw [K71 (4000 + r) (by omega)]; exact (hR.2.2.2.1 r hr).1
  · rw [vwI (v71 (4000 + r) (by omega)), q5 r hr 2, if_neg (by omega), (hR.2.2.2.1 r hr).2.2.2.1]
    exact (roof_e hR hr).2.1
  · rw [vwI (v71 1051 (by omega)), vwI (q2 1051 (by omega)), (hA.2 m (by omega)).1]
    exact (rn_e hA (by omega)).1
  rw [show su (rnF S2) nM * (su (fun c => nt (sI S2 1107 c)) nC + su (fun r => nt (sI S2 1127 r)) nR) = rnA S2 nC nR nM from rfl, i15, R71 1000 (by omega), f1]
  unfold P_X8_init
  refine ⟨by rw [g71], fun t1 w1 t2 w2 => ⟨1043, rfl, by rw [w2, w1, sK_pI, sK_pI, K71 1043 (by omega)]; exact f2, ?_⟩⟩
  have vt2 : ∀ x, ¬ x = 5000 + nT → vw t2 x = vw s71 x := fun x hx => by rw [w2, vw_pI hx, w1, vw_pI hx]
  refine x_spiltG (nC := nC) (R := runF S2 nC nR nM 0) (by rw [vwK (vt2 1043 (by omega)), K71 1043 (by omega)]; exact f2) (by rw [vwR (vt2 1043 (by omega)), R71 1043 (by omega)]; exact f3) (L71d.keep (vt2 1044 (by omega)) (fun a a1 a2 => vt2 a (by omega)) (vt2 2 (by omega))) (fun j hj => by rw [vwK (vt2 (7000 + j) (by omega)), K71 (7000 + j) (by omega)]; exact f5 j hj) n12 (by rw [vwI (vt2 1043 (by omega)), i43]; exact hF.1) (fun j hj => by
    have d := nd71 j hj
    unfold ND at d ⊢
    rw [vwI (vt2 (7000 + j) (by omega))]
    exact d) (fun t3 w3 => ?_)
  have vt3 : ∀ x, ¬ x = 5000 + nT → vw t3 x = vw s71 x := fun x hx => by rw [w3, vw_pI hx, vt2 x hx]
  refine x_wetG (nC := nC) (R := runF S2 nC nR nM 0) (by rw [vwK (vt3 1043 (by omega)), K71 1043 (by omega)]; exact f2) (by rw [vwR (vt3 1043 (by omega)), R71 1043 (by omega)]; exact f3) (L71d.keep (vt3 1044 (by omega)) (fun a a1 a2 => vt3 a (by omega)) (vt3 2 (by omega))) (fun j hj => by rw [vwK (vt3 (7000 + j) (by omega)), K71 (7000 + j) (by omega)]; exact f5 j hj) n12 (by rw [vwI (vt3 1043 (by omega)), i43]; exact hF.1) (fun j hj => by
    have d := nd71 j hj
    unfold ND at d ⊢
    rw [vwI (vt3 (7000 + j) (by omega))]
    exact d) (fun t4 w4 t5 w5 => ?_)
  have m5 : sI t4 1043 2 = Int32.ofNat (runF S2 nC nR nM 0).2.2 := by rw [w4, sI_pI_ne (by omega), vwI (vt3 1043 (by omega)), i43]; exact hD.2.2
  rw [m5] at w5
  have vt5 : ∀ x, ¬ x = 5000 + nT → vw t5 x = vw σ x := fun x hx => by rw [w5, vw_pI hx, w4, vw_pI hx, vt3 x hx, v71 x hx]
  have k5 : sK t5 (5000 + nT) = 10 := by rw [w5, w4, w3, w2, w1]; exact g71
  have y5 : sI t5 (5000 + nT) 0 = Int32.ofNat td ∧ sI t5 (5000 + nT) 1 = Int32.ofNat (rnA S2 nC nR nM) ∧ sI t5 (5000 + nT) 2 = Int32.ofNat (su ((runF S2 nC nR nM 0).1 4) nC) ∧ sI t5 (5000 + nT) 3 = Int32.ofNat (su ((runF S2 nC nR nM 0).1 6) nC) ∧ sI t5 (5000 + nT) 4 = Int32.ofNat (runF S2 nC nR nM 0).2.2 := by
    rw [w5, w4, w3, w2, w1]
    refine ⟨?_, ?_, ?_, ?_, ?_⟩ <;> simp (disch := first | omega | decide) only [sI_pI_ne, sI_pI_eq]
  clear w5 w4 w3 w2 w1 vt2 vt3 m5
  have K5 : ∀ x, ¬ x = 5000 + nT → sK t5 x = sK S x := fun x hx => by rw [vwK (vt5 x hx), kk]
  have R5 : ∀ x, ¬ x = 5000 + nT → sR t5 x = sR S x := fun x hx => by rw [vwR (vt5 x hx), rr]
  have N5 : ∀ x, ¬ x = 5000 + nT → sN t5 x = sN S x := fun x hx => by rw [vwN (vt5 x hx), nn]
  rw [l0, l2, l3]
  refine ⟨1054, by rw [R5 1000 (by omega)]; exact r13, by rw [K5 1054 (by omega)]; exact k54, by rw [N5 1054 (by omega)]; exact vp0, by rw [N5 1054 (by omega)]; exact vp0, fun t6 w6 => ⟨1054, by rw [w6, sR_pL, R5 1000 (by omega)]; exact r13, by rw [w6, sK_pL, K5 1054 (by omega)]; exact k54, by rw [w6, sN_pL, N5 1054 (by omega)]; exact vp2, by rw [w6, sN_pL, N5 1054 (by omega)]; exact vp2, fun t7 w7 => ⟨1054, by rw [w7, w6, sR_pL, sR_pL, R5 1000 (by omega)]; exact r13, by rw [w7, w6, sK_pL, sK_pL, K5 1054 (by omega)]; exact k54, by rw [w7, w6, sN_pL, sN_pL, N5 1054 (by omega)]; exact vp3, 1043, by rw [w7, w6, sR_pL, sR_pL, R5 1000 (by omega)]; exact f1, by rw [w7, w6, sK_pL, sK_pL, K5 1043 (by omega)]; exact f2, by rw [w7, w6, sN_pL, sN_pL, N5 1054 (by omega)]; exact vp3, fun t8 w8 => ?_⟩⟩⟩
  have b4 : su ((runF S2 nC nR nM 0).1 4) nC ≤ 345600000 := bb.1
  have bw : (runF S2 nC nR nM 0).2.1 ≤ 180000 := bb.2.2.2.1
  have i43' : sI t5 1043 1 = Int32.ofNat (runF S2 nC nR nM 0).2.1 := by rw [vwI (vt5 1043 (by omega)), vwI (q2 1043 (by omega))]; exact hD.2.1
  have e54 : sL t5 1054 = sL σ 1054 := vwL (vt5 1054 (by omega))
  rw [e54, y5.2.1, n_64 (by omega)] at w6
  rw [w6, sI_pL, y5.2.2.1, sL_pL_ne (by omega), e54, n_64 (by omega)] at w7
  rw [w7, sI_pL, sI_pL, i43', sL_pL_ne (by omega), sL_pL_ne (by omega), e54, n_64 (by omega)] at w8
  clear w6 w7
  have v8 : ∀ x, ¬ x = 5000 + nT → vw t8 x = vw (sumS S2 σ nC nR nM) x := fun x hx => by
    rw [w8]
    unfold sumS
    exact vw_pL_cg (vw_pL_cg (vw_pL_cg (vt5 x hx)))
  have k8 : sK t8 = sK t5 := by rw [w8]; rfl
  have r8 : sR t8 = sR t5 := by rw [w8]; rfl
  have o8 : vw t8 (5000 + nT) = vw t5 (5000 + nT) := by rw [w8, vw_pL (by omega), vw_pL (by omega), vw_pL (by omega)]
  have vs : ∀ x, ¬ x = 1054 → vw (sumS S2 σ nC nR nM) x = vw σ x := fun x hx => by unfold sumS; rw [vw_pL hx, vw_pL hx, vw_pL hx]
  have ks : ∀ x, sK (sumS S2 σ nC nR nM) x = sK S x := fun x => kk x
  have okd : okS (sumS S2 σ nC nR nM) := ⟨((vs 1 (by omega)).trans (q2 1 (by omega))).trans hk.1, ((vs 2 (by omega)).trans (q2 2 (by omega))).trans hk.2.1, fun x hx => by rw [ks] at hx ⊢; exact hk.2.2 x hx⟩
  have Ld := L3.keep (S' := sumS S2 σ nC nR nM) (vs 1003 (by omega)) (fun a a1 a2 => vs a (by omega)) (vs 2 (by omega))
  clear w8
  refine ⟨1003, by rw [r8, R5 1000 (by omega)]; exact o.2.2.2.1, by rw [k8, K5 1003 (by omega)]; exact hT.1.1, (1, 200), by decide, by decide, p_grow (κ := 10) okd v8 (by rw [k8]; exact k5) (by decide) (by omega) (by omega) h0 Ld (by omega) (by omega) (fun i hi => by rw [ks]; have := (hT.2.2.2.1 i hi).1; omega) (by omega) ⟨hN.1, fun x hx => by rw [ks]; exact hN.2 x hx⟩ (by decide) (by show 2 * nT + 10 ≤ 200; omega) (fun S' a1 a2 a3 a4 a5 => ?_)⟩
  rw [el_same] at a1
  have hg := a2
  unfold Grown at hg
  have nz : ¬ sK (sumS S2 σ nC nR nM) 1000 = 0 := by rw [ks]; have := o.1; omega
  refine ⟨1003, by rw [vwR (hg 1000 (by omega) (by omega) (by omega) (by omega)), vwR (vs 1000 (by omega)), rr]; exact o.2.2.2.1, a1.1, p_size a1 ?_⟩
  rw [n_p (by omega), Nat.add_sub_cancel]
  refine k S' a1 a2 ?_ a4 a5
  rw [vwK a3, vwI a3, vwK o8, vwI o8]
  exact ⟨by rw [k5], y5⟩
end S3
