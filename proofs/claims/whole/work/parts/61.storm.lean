/-! ===== level 2: storm ===== -/
section ST
variable {S S2 T U : Sg} {nC nR nT nK nL nM nP td N : Nat} {lh : Nat → Nat}
theorem x_spiltG {R : Ms × Nat × Nat} {Q : Int32 → Prop} (f2 : sK S 1043 % 32 = 5) (f3 : sR S 1043 0 = some 1044) (f4 : Lst S 1044 6 (fun j => 7000 + j) 12) (f5 : ∀ j, j < 12 → sK S (7000 + j) % 32 = 7) (n12 : nC ≤ 12) (h6 : sI S 1043 6 = Int32.ofNat nC) (hD : ∀ j, j < nC → ND S R.1 j) (k : Q (Int32.ofNat (su (R.1 4) nC))) : P_X3_spilt 1043 S Q := by
  unfold P_X3_spilt P_X3_spilt_L4
  refine lpA (N := nC) (s0 := 0) (R := fun j (a : Int32) => a = Int32.ofNat (su (R.1 4) j)) (B := fun a x K => P_X3_spilt_L4b 1043 a x S Q K) rfl (Nat.zero_le _) rfl (fun j hj a ha K hK => ?_)
  subst ha
  unfold P_X3_spilt_L4b
  refine ⟨f2, fun e => ?_, fun e => ?_⟩
  · rw [h6, nn_le (by omega) (by omega)] at e
    have e2 : j = nC := by omega
    subst e2; exact k
  · rw [h6, nn_le (by omega) (by omega)] at e
    refine ⟨1044, f3, f4.1, p_get f4 (by omega) ⟨7000 + j, rfl, f5 j (by omega), fun x hx y hy => ?_⟩⟩
    rw [(hD j (by omega)).2.2.2.2.1, n_add] at hx
    rw [hx, hy, n_s]
    exact hK (by omega) _ rfl
theorem x_wetG {R : Ms × Nat × Nat} {Q : Int32 → Prop} (f2 : sK S 1043 % 32 = 5) (f3 : sR S 1043 0 = some 1044) (f4 : Lst S 1044 6 (fun j => 7000 + j) 12) (f5 : ∀ j, j < 12 → sK S (7000 + j) % 32 = 7) (n12 : nC ≤ 12) (h6 : sI S 1043 6 = Int32.ofNat nC) (hD : ∀ j, j < nC → ND S R.1 j) (k : Q (Int32.ofNat (su (R.1 6) nC))) : P_X3_wet 1043 S Q := by
  unfold P_X3_wet P_X3_wet_L4
  refine lpA (N := nC) (s0 := 0) (R := fun j (a : Int32) => a = Int32.ofNat (su (R.1 6) j)) (B := fun a x K => P_X3_wet_L4b 1043 a x S Q K) rfl (Nat.zero_le _) rfl (fun j hj a ha K hK => ?_)
  subst ha
  unfold P_X3_wet_L4b
  refine ⟨f2, fun e => ?_, fun e => ?_⟩
  · rw [h6, nn_le (by omega) (by omega)] at e
    have e2 : j = nC := by omega
    subst e2; exact k
  · rw [h6, nn_le (by omega) (by omega)] at e
    refine ⟨1044, f3, f4.1, p_get f4 (by omega) ⟨7000 + j, rfl, f5 j (by omega), fun x hx y hy => ?_⟩⟩
    rw [(hD j (by omega)).2.2.2.2.2.2, n_add] at hx
    rw [hx, hy, n_s]
    exact hK (by omega) _ rfl
theorem x_rains {Q : Int32 → Prop} (o : sK S 1000 % 32 = 12) (o0 : sR S 1000 0 = some 1001) (o1 : sR S 1000 1 = some 1002) (o9 : sR S 1000 9 = some 1051) (l1 : Lst S 1001 1 (fun i => 2000 + i) nC) (l2 : Lst S 1002 2 (fun i => 4000 + i) nR) (e1 : ∀ c, c < nC → sK S (2000 + c) % 32 = 4 ∧ sI S (2000 + c) 0 = Int32.ofNat (nt (sI S2 1107 c))) (e2 : ∀ r, r < nR → sK S (4000 + r) % 32 = 8 ∧ sI S (4000 + r) 2 = Int32.ofNat (nt (sI S2 1127 r))) (m1 : sK S 1051 % 32 = 16) (m2 : sN S 1051 = 30) (m3 : ∀ m, m < nM → sI S 1051 m = Int32.ofNat (rnF S2 m)) (m4 : sI S 1000 14 = Int32.ofNat nM) (n12 : nC ≤ 12) (n30 : nR ≤ 30) (m30 : nM ≤ 30) (k : Q (Int32.ofNat (su (rnF S2) nM * (su (fun c => nt (sI S2 1107 c)) nC + su (fun r => nt (sI S2 1127 r)) nR)))) : P_X10_whatRains 1000 S Q := by
  unfold P_X10_whatRains P_X10_whatRains_L4
  refine lpA (N := nC) (s0 := 0) (R := fun j (a : Int32) => a = Int32.ofNat (su (fun c => nt (sI S2 1107 c)) j)) (B := fun a x K => P_X10_whatRains_L4b 1000 a x S Q K) rfl (Nat.zero_le _) rfl (fun j hj a ha K hK => ?_)
  subst ha
  unfold P_X10_whatRains_L4b
  refine ⟨o, 1001, o0, l1.1, p_size l1 ⟨fun e => ?_, fun e => ?_⟩⟩
  · rw [nn_le (by omega) (by omega)] at e
    have z : j = nC := by omega
    subst z
    unfold P_X10_whatRains_L40
    refine lpA (N := nR) (s0 := 0) (R := fun r (a : Int32) => a = Int32.ofNat (su (fun c => nt (sI S2 1107 c)) j + su (fun r => nt (sI S2 1127 r)) r)) (B := fun a x K => P_X10_whatRains_L40b 1000 a x S Q K) rfl (Nat.zero_le _) rfl (fun r hr a ha K2 hK2 => ?_)
    subst ha
    unfold P_X10_whatRains_L40b
    refine ⟨o, 1002, o1, l2.1, p_size l2 ⟨fun e => ?_, fun e => ?_⟩⟩
    · rw [nn_le (by omega) (by omega)] at e
      have z : r = nR := by omega
      subst z
      unfold P_X10_whatRains_L78
      refine lpA (N := nM) (s0 := 0) (R := fun m (a : Int32) => a = Int32.ofNat (su (rnF S2) m)) (B := fun a x K => P_X10_whatRains_L78b 1000 (Int32.ofNat (su (fun c => nt (sI S2 1107 c)) j + su (fun r => nt (sI S2 1127 r)) r)) a x S Q K) rfl (Nat.zero_le _) rfl (fun m hm a ha K3 hK3 => ?_)
      subst ha
      unfold P_X10_whatRains_L78b
      refine ⟨o, fun e => ?_, fun e => ?_⟩
      · rw [m4, nn_le (by omega) (by omega)] at e
        have z : m = nM := by omega
        subst z
        rw [n_mul]; exact k
      · rw [m4, nn_le (by omega) (by omega)] at e
        have hm30 : m < 30 := by omega
        refine ⟨1051, o9, m1, by simp (disch := first | omega | decide) only [Option.some.injEq, exists_eq_left', exists_eq_left, forall_eq, forall_eq', true_and, and_true, true_implies, implies_true, false_implies, not_true_eq_false, not_false_eq_true, reduceCtorEq, and_self, forall_const, i10, i01, if_true, if_false, and_false, false_and, Nat.not_lt_zero, sK_pI, sN_pI, sR_pI, sL_pI, sK_pL, sN_pL, sR_pL, sI_pL, sK_pR, sN_pR, sI_pR, sL_pR, sI_pI_eq, sI_pI_ne, sL_pL_eq, sL_pL_ne, sR_pR_eq, sR_pR_ne, nn_le, nat32_lt, nn_eq, ln_le, nl_le, ln_lt, nl_lt, ln_eq, nl_eq, n_m1, n_lt0, vp_n, vp_l, lc_n, nat32c, n_s, nI_n, m2, hm30], fun x hx y hy => ?_⟩
        rw [nat32c (by omega), m3 m (by omega), n_add] at hx
        rw [hx, hy, n_s]
        exact hK3 (by omega) _ rfl
    · rw [nn_le (by omega) (by omega)] at e
      have hlt : r < nR := by omega
      refine ⟨1002, o1, l2.1, p_get l2 hlt ⟨4000 + r, rfl, (e2 r hlt).1, fun x hx y hy => ?_⟩⟩
      rw [(e2 r hlt).2, n_add, Nat.add_assoc] at hx
      rw [hx, hy, n_s]
      exact hK2 hlt _ rfl
  · rw [nn_le (by omega) (by omega)] at e
    have hlt : j < nC := by omega
    refine ⟨1001, o0, l1.1, p_get l1 hlt ⟨2000 + j, rfl, (e1 j hlt).1, fun x hx y hy => ?_⟩⟩
    rw [(e1 j hlt).2, n_add] at hx
    rw [hx, hy, n_s]
    exact hK hlt _ rfl
/-- what beds drink by a storm -/
def drkS (S2 : Sg) (nC nR nM c : Nat) : Nat := if sI S2 1112 c = 0 then 0 else nt (sI S2 1121 c) + (runF S2 nC nR nM 0).1 3 c
theorem drkS_e : su (drkS S2 nC nR nM) nC = su (bowlsF S2) nC + su ((runF S2 nC nR nM 0).1 3) nC := by
  rw [← su_add]
  refine su_congr (fun c _ => ?_)
  unfold drkS bowlsF
  by_cases z : sI S2 1112 c = 0
  · rw [if_pos z, if_pos z]
    have e4 : wF S2 0 4 c = 0 := by
      rw [wF_old (by unfold isnw; rw [show (0 : Int32) >>> (Int32.ofNat c &&& 31) = 0 from by simp]; decide)]
      simp [wB, z]
    unfold runF
    rw [q_dry e4]
  · rw [if_neg z, if_neg z]
/-- behind c corners and r roofs -/
def stQ (S S2 σ : Sg) (nC nR nM c r : Nat) : Prop := (∀ x, stru σ x = stru S x) ∧ (∀ x, ¬ (x = 1054 ∨ 2000 ≤ x ∧ x < 2000 + c ∨ 3000 ≤ x ∧ x < 3000 + c ∨ 4000 ≤ x ∧ x < 4000 + r) → vw σ x = vw S x) ∧ (∀ j, j < c → ∀ k, sI σ (2000 + j) k = if k = 6 then Int32.ofNat ((runF S2 nC nR nM 0).1 4 j) else if k = 7 then Int32.ofNat ((runF S2 nC nR nM 0).1 5 j) else if k = 8 then Int32.ofNat ((runF S2 nC nR nM 0).1 6 j) else sI S (2000 + j) k) ∧ (∀ j, j < c → ¬ sI S2 1112 j = 0 → ∀ k, sI σ (3000 + j) k = if k = 8 then Int32.ofNat ((runF S2 nC nR nM 0).1 0 j) else sI S (3000 + j) k) ∧ (∀ j, j < r → ∀ k, sI σ (4000 + j) k = if k = 4 then Int32.ofNat (brF S2 j nM) else sI S (4000 + j) k) ∧ ∀ k, sL σ 1054 k = if k = 1 then sL S 1054 1 + gn (su (drkS S2 nC nR nM) c) else sL S 1054 k
theorem x_storm1 {b : Nat × Nat} {Q : Int32 → Sg → Prop} (h : IV S S2 nC nR nT nK nL nM nP td N lh) (hF : FP S S2 nC nR nM) (hD : FD S nC (runF S2 nC nR nM 0)) (k : ∀ σ K, stQ S S2 σ nC nR nM nC nR → P_X10_storm_L99b 1000 (Int32.ofNat nR) σ (b.1, b.2) Q K) : P_X10_storm_L28 1000 0 S b Q := by
  have hV := h
  obtain ⟨f1, f2, f3, f4, f5⟩ := flow_at h
  obtain ⟨hk, hM, hS, hU, hA, hW, hB, hC, hR, hT, hK, hL, hZ, hP, hN⟩ := h
  have n12 := hC.2.1
  have n30 := hR.2.1
  have o := hS.1
  have o2 := hS.2.1
  have w0 := world_ok (v := 0) hA hB hC hR
  have bb := rn_b w0 hZ.2.2.1
  have l1 : (1 : Int32).toNatClampNeg = 1 := by decide
  unfold P_X10_storm_L28
  refine lpS (N := nC) (s0 := 0) (R := fun c σ => stQ S S2 σ nC nR nM c 0) (B := fun x σ K => P_X10_storm_L28b 1000 x σ b Q K) rfl (Nat.zero_le _) ⟨fun _ => rfl, fun _ _ => rfl, fun j hj => absurd hj (Nat.not_lt_zero _), fun j hj => absurd hj (Nat.not_lt_zero _), fun j hj => absurd hj (Nat.not_lt_zero _), fun k => ?_⟩ (fun c hc σ hR2 K hK2 => ?_)
  · by_cases e : k = 1
    · subst e; rw [if_pos rfl]; exact (Int64.add_zero _).symm
    · rw [if_neg e]
  obtain ⟨q1, q2, q3, q4, q5, q6⟩ := hR2
  have v1000 := q2 1000 (by omega)
  have v1001 := q2 1001 (by omega)
  have v1043 := q2 1043 (by omega)
  have v1044 := q2 1044 (by omega)
  have L1 := hC.1.keep (S' := σ) v1001 (fun a a1 a2 => q2 a (by omega)) (q2 2 (by omega))
  have L4 := f4.keep (S' := σ) v1044 (fun a a1 a2 => q2 a (by omega)) (q2 2 (by omega))
  have kk : ∀ x, sK σ x = sK S x := fun x => stK (q1 x)
  have nn : ∀ x, sN σ x = sN S x := fun x => stN (q1 x)
  have rr : ∀ x, sR σ x = sR S x := fun x => stR (q1 x)
  unfold P_X10_storm_L28b
  refine ⟨by rw [kk]; exact o.1, 1001, by rw [rr]; exact o.2.1, L1.1, p_size L1 ⟨fun e => ?_, fun e => ?_⟩⟩
  · rw [nn_le (by omega) (by omega)] at e
    have e2 : c = nC := by omega
    subst e2
    unfold P_X10_storm_B97 P_X10_storm_L99
    refine lpS (N := nR) (s0 := 0) (R := fun r ρ => stQ S S2 ρ c nR nM c r) (B := fun x ρ K => P_X10_storm_L99b 1000 x ρ (b.1, b.2) Q K) rfl (Nat.zero_le _) ⟨q1, q2, q3, q4, q5, q6⟩ (fun r hr ρ hR3 K' hK3 => ?_)
    by_cases e3 : r = nR
    · subst e3; exact k ρ _ hR3
    · have hlt : r < nR := by omega
      have hr30 : r < 30 := by omega
      obtain ⟨y1, y2, y3, y4, y5, y6⟩ := hR3
      have L2 := hR.1.keep (S' := ρ) (y2 1002 (by omega)) (fun a a1 a2 => y2 a (by omega)) (y2 2 (by omega))
      have r0 := hR.2.2.2.1 r hlt
      have yk : ∀ x, sK ρ x = sK S x := fun x => stK (y1 x)
      have yn : ∀ x, sN ρ x = sN S x := fun x => stN (y1 x)
      have yr : ∀ x, sR ρ x = sR S x := fun x => stR (y1 x)
      unfold P_X10_storm_L99b
      refine ⟨by rw [yk]; exact o.1, 1002, by rw [yr]; exact o.2.2.1, L2.1, p_size L2 ⟨fun e => ?_, fun e => ⟨1002, by rw [yr]; exact o.2.2.1, L2.1, p_get L2 hlt ⟨4000 + r, rfl, by rw [yk]; exact r0.1, 1043, by rw [yr]; exact f1, by rw [yk]; exact f2, ?_⟩⟩⟩⟩
      · rw [nn_le (by omega) (by omega)] at e; omega
      · unfold P_X3_barrelAfter P_X3_barrelAfter_B22
        have sn46 : sN ρ 1046 = 30 := by rw [yn]; simp (disch := first | omega | decide) only [Option.some.injEq, exists_eq_left', exists_eq_left, forall_eq, forall_eq', true_and, and_true, true_implies, implies_true, false_implies, not_true_eq_false, not_false_eq_true, reduceCtorEq, and_self, forall_const, i10, i01, if_true, if_false, and_false, false_and, Nat.not_lt_zero, sK_pI, sN_pI, sR_pI, sL_pI, sK_pL, sN_pL, sR_pL, sI_pL, sK_pR, sN_pR, sI_pR, sL_pR, sI_pI_eq, sI_pI_ne, sL_pL_eq, sL_pL_ne, sR_pR_eq, sR_pR_ne, nn_le, nat32_lt, nn_eq, ln_le, nl_le, ln_lt, nl_lt, ln_eq, nl_eq, n_m1, n_lt0, vp_n, vp_l, lc_n, nat32c, n_s, nI_n, o2]
        refine ⟨fun z => absurd z (nat32_nn (by omega)), fun _ => ⟨by rw [yk]; exact f2, 1046, by rw [yr]; exact o2.2.2.2.2.2.2.2.1, by rw [yk]; simp (disch := first | omega | decide) only [Option.some.injEq, exists_eq_left', exists_eq_left, forall_eq, forall_eq', true_and, and_true, true_implies, implies_true, false_implies, not_true_eq_false, not_false_eq_true, reduceCtorEq, and_self, forall_const, i10, i01, if_true, if_false, and_false, false_and, Nat.not_lt_zero, sK_pI, sN_pI, sR_pI, sL_pI, sK_pL, sN_pL, sR_pL, sI_pL, sK_pR, sN_pR, sI_pR, sL_pR, sI_pI_eq, sI_pI_ne, sL_pL_eq, sL_pL_ne, sR_pR_eq, sR_pR_ne, nn_le, nat32_lt, nn_eq, ln_le, nl_le, ln_lt, nl_lt, ln_eq, nl_eq, n_m1, n_lt0, vp_n, vp_l, lc_n, nat32c, n_s, nI_n, o2], fun z => ?_, fun _ => ⟨1046, by rw [yr]; exact o2.2.2.2.2.2.2.2.1, by rw [yk]; simp (disch := first | omega | decide) only [Option.some.injEq, exists_eq_left', exists_eq_left, forall_eq, forall_eq', true_and, and_true, true_implies, implies_true, false_implies, not_true_eq_false, not_false_eq_true, reduceCtorEq, and_self, forall_const, i10, i01, if_true, if_false, and_false, false_and, Nat.not_lt_zero, sK_pI, sN_pI, sR_pI, sL_pI, sK_pL, sN_pL, sR_pL, sI_pL, sK_pR, sN_pR, sI_pR, sL_pR, sI_pI_eq, sI_pI_ne, sL_pL_eq, sL_pL_ne, sR_pR_eq, sR_pR_ne, nn_le, nat32_lt, nn_eq, ln_le, nl_le, ln_lt, nl_lt, ln_eq, nl_eq, n_m1, n_lt0, vp_n, vp_l, lc_n, nat32c, n_s, nI_n, o2], by simp (disch := first | omega | decide) only [Option.some.injEq, exists_eq_left', exists_eq_left, forall_eq, forall_eq', true_and, and_true, true_implies, implies_true, false_implies, not_true_eq_false, not_false_eq_true, reduceCtorEq, and_self, forall_const, i10, i01, if_true, if_false, and_false, false_and, Nat.not_lt_zero, sK_pI, sN_pI, sR_pI, sL_pI, sK_pL, sN_pL, sR_pL, sI_pL, sK_pR, sN_pR, sI_pR, sL_pR, sI_pI_eq, sI_pI_ne, sL_pL_eq, sL_pL_ne, sR_pR_eq, sR_pR_ne, nn_le, nat32_lt, nn_eq, ln_le, nl_le, ln_lt, nl_lt, ln_eq, nl_eq, n_m1, n_lt0, vp_n, vp_l, lc_n, nat32c, n_s, nI_n, sn46, hr30], fun t1 w1 x hx => ?_⟩⟩⟩
        · rw [sn46, nI_n, nn_le (by omega) (by omega)] at z; omega
        · rw [nat32c (by omega), vwI (y2 1046 (by omega)), hF.2.2.2.2.2 r hlt] at w1
          rw [hx, n_s]
          refine hK3 hlt _ ⟨fun x => by rw [w1]; exact y1 x, fun x hx => by rw [w1, vw_pI (by omega)]; exact y2 x (by omega), fun j hj k => by rw [w1, sI_pI_ne (by omega)]; exact y3 j hj k, fun j hj z k => by rw [w1, sI_pI_ne (by omega)]; exact y4 j hj z k, fun j hj k => ?_, fun k => by rw [w1]; exact y6 k⟩
          rw [w1]
          by_cases e4 : j = r
          · subst e4
            by_cases e5 : k = 4
            · subst e5; rw [sI_pI_eq, if_pos rfl]
            · rw [sI_pI_ne (by omega), if_neg e5, vwI (y2 (4000 + j) (by omega))]
          · rw [sI_pI_ne (by omega)]; exact y5 j (by omega) k
  · rw [nn_le (by omega) (by omega)] at e
    have hlt : c < nC := by omega
    have h12 : c < 12 := by omega
    have c0 := hC.2.2.2.1 c hlt
    have nd := hD.1 c hlt
    have w7 : ∀ k, sI σ (7000 + c) k = sI S (7000 + c) k := fun k => by rw [vwI (q2 (7000 + c) (by omega))]
    have w2c : vw σ (2000 + c) = vw S (2000 + c) := q2 (2000 + c) (by omega)
    have w3c : vw σ (3000 + c) = vw S (3000 + c) := q2 (3000 + c) (by omega)
    have vp1 : vp_in 1 (sN σ 1054) := by
      rw [nn]; simp (disch := first | omega | decide) only [Option.some.injEq, exists_eq_left', exists_eq_left, forall_eq, forall_eq', true_and, and_true, true_implies, implies_true, false_implies, not_true_eq_false, not_false_eq_true, reduceCtorEq, and_self, forall_const, i10, i01, if_true, if_false, and_false, false_and, Nat.not_lt_zero, sK_pI, sN_pI, sR_pI, sL_pI, sK_pL, sN_pL, sR_pL, sI_pL, sK_pR, sN_pR, sI_pR, sL_pR, sI_pI_eq, sI_pI_ne, sL_pL_eq, sL_pL_ne, sR_pR_eq, sR_pR_ne, nn_le, nat32_lt, nn_eq, ln_le, nl_le, ln_lt, nl_lt, ln_eq, nl_eq, n_m1, n_lt0, vp_n, vp_l, lc_n, nat32c, n_s, nI_n, o2]
      omega
    refine ⟨1043, by rw [rr]; exact f1, by rw [kk]; exact f2, 1044, by rw [rr]; exact f3, L4.1, p_size L4 ⟨fun e12 => ?_, fun _ => ⟨1054, by rw [rr]; exact o.2.2.2.2.2.2.2.2.2.2.2.2.2.2, by rw [kk]; simp (disch := first | omega | decide) only [Option.some.injEq, exists_eq_left', exists_eq_left, forall_eq, forall_eq', true_and, and_true, true_implies, implies_true, false_implies, not_true_eq_false, not_false_eq_true, reduceCtorEq, and_self, forall_const, i10, i01, if_true, if_false, and_false, false_and, Nat.not_lt_zero, sK_pI, sN_pI, sR_pI, sL_pI, sK_pL, sN_pL, sR_pL, sI_pL, sK_pR, sN_pR, sI_pR, sL_pR, sI_pI_eq, sI_pI_ne, sL_pL_eq, sL_pL_ne, sR_pR_eq, sR_pR_ne, nn_le, nat32_lt, nn_eq, ln_le, nl_le, ln_lt, nl_lt, ln_eq, nl_eq, n_m1, n_lt0, vp_n, vp_l, lc_n, nat32c, n_s, nI_n, o2], vp1, 1001, by rw [rr]; exact o.2.1, L1.1, p_get L1 hlt ⟨2000 + c, rfl, by rw [kk]; exact c0.1, 1043, by rw [rr]; exact f1, by rw [kk]; exact f2, 1044, by rw [rr]; exact f3, L4.1, p_get L4 h12 ⟨7000 + c, rfl, by rw [kk]; exact f5 c h12, ?_⟩⟩⟩⟩⟩
    · rw [nn_le (by omega) (by omega)] at e12; omega
    unfold P_X2_takeOver
    refine ⟨7000 + c, rfl, by rw [kk]; exact f5 c h12, by rw [kk]; exact c0.1, fun t1 p1 t2 p2 t3 p3 => ?_⟩
    rw [w7, nd.2.2.2.2.1] at p1
    rw [p1, sI_pI_ne (by omega), w7, nd.2.2.2.2.2.1] at p2
    rw [p2, sI_pI_ne (by omega), sI_pI_ne (by omega), w7, nd.2.2.2.2.2.2] at p3
    have e2k : ∀ k, sI t3 (2000 + c) k = if k = 6 then Int32.ofNat ((runF S2 nC nR nM 0).1 4 c) else if k = 7 then Int32.ofNat ((runF S2 nC nR nM 0).1 5 c) else if k = 8 then Int32.ofNat ((runF S2 nC nR nM 0).1 6 c) else sI S (2000 + c) k := fun k => by
      rw [p3]
      by_cases e6 : k = 6
      · subst e6; simp (disch := first | omega | decide) only [sI_pI_ne, sI_pI_eq, if_true]
      · rw [if_neg e6]
        by_cases e7 : k = 7
        · subst e7; simp (disch := first | omega | decide) only [sI_pI_ne, sI_pI_eq, if_true]
        · rw [if_neg e7]
          by_cases e8 : k = 8
          · subst e8; simp (disch := first | omega | decide) only [sI_pI_eq, if_true]
          · rw [if_neg e8]; simp (disch := first | omega | decide) only [sI_pI_ne]; rw [vwI w2c]
    have vt : ∀ x, ¬ x = 2000 + c → vw t3 x = vw σ x := fun x hx => by rw [p3, vw_pI hx, vw_pI hx, vw_pI hx]
    have st3 : ∀ x, stru t3 x = stru σ x := fun x => by rw [p3]; rfl
    have sl3 : ∀ k, sL t3 1054 k = sL σ 1054 k := fun k => by rw [p3]; rfl
    clear p1 p2 p3
    have eR : sR t3 (2000 + c) 5 = if sI S2 1112 c = 0 then none else some (3000 + c) := by rw [stR (st3 (2000 + c)), rr]; exact c0.2.2.2.2.2.2.2.2.2
    have fin : ∀ (U : Sg) (dr : Nat), (∀ x, stru U x = stru t3 x) → (∀ x, ¬ x = 3000 + c → vw U x = vw t3 x) → (¬ sI S2 1112 c = 0 → ∀ k, sI U (3000 + c) k = if k = 8 then Int32.ofNat ((runF S2 nC nR nM 0).1 0 c) else sI S (3000 + c) k) → dr = drkS S2 nC nR nM c → stQ S S2 (pL U 1054 1 (sL σ 1054 1 + gn dr)) nC nR nM (c + 1) 0 := fun U dr u1 u2 u3 u4 => by
      have uu : ∀ x, ¬ x = 2000 + c → ¬ x = 3000 + c → vw U x = vw σ x := fun x h1 h2 => (u2 x h2).trans (vt x h1)
      refine ⟨fun x => ?_, fun x hx => ?_, fun j hj k => ?_, fun j hj z k => ?_, fun j hj => absurd hj (Nat.not_lt_zero _), fun k => ?_⟩
      · rw [stru_pL, u1, st3]; exact q1 x
      · rw [vw_pL (by omega), uu x (by omega) (by omega)]; exact q2 x (by omega)
      · rw [sI_pL]
        by_cases e6 : j = c
        · subst e6; rw [vwI (u2 (2000 + j) (by omega))]; exact e2k k
        · rw [vwI (uu (2000 + j) (by omega) (by omega))]; exact q3 j (by omega) k
      · rw [sI_pL]
        by_cases e6 : j = c
        · subst e6; exact u3 z k
        · rw [vwI (uu (3000 + j) (by omega) (by omega))]; exact q4 j (by omega) z k
      · by_cases e6 : k = 1
        · subst e6
          rw [sL_pL_eq, if_pos rfl, q6 1, if_pos rfl, u4]
          show _ = _ + gn (su (drkS S2 nC nR nM) c + drkS S2 nC nR nM c)
          rw [Int64.add_assoc, g_add]
        · rw [sL_pL_ne (by omega), if_neg e6, vwL (uu 1054 (by omega) (by omega)), q6 k, if_neg e6]
    by_cases hb : sI S2 1112 c = 0
    · rw [if_pos hb] at eR
      refine ⟨fun _ => ⟨by rw [stN (st3 1054)]; exact vp1, fun s51 w51 x hx => ?_⟩, fun b z => ?_⟩
      · rw [l1] at w51
        rw [hx, n_s, w51]
        exact hK2 hlt _ (fin t3 0 (fun _ => rfl) (fun _ _ => rfl) (fun z => absurd hb z) (by unfold drkS; rw [if_pos hb]))
      · rw [eR] at z; cases z
    · rw [if_neg hb] at eR
      obtain ⟨e1, e2⟩ := rg_nt (by omega) ((hB c h12).2.1).2.2
      have bE := ((hB c h12).2.2.2 hb).1
      have b3 := bb.2.2.2.2.2.1 c
      have b38 : sI t3 (3000 + c) 8 = Int32.ofNat (nt (sI S2 1121 c)) := by rw [vwI (vt (3000 + c) (by omega)), vwI w3c]; exact (bE.2.2.2.2.2.2.2.2.2.2.2.2.1).trans e1
      have b711 : sI t3 (7000 + c) 11 = Int32.ofNat ((runF S2 nC nR nM 0).1 3 c) := by rw [vwI (vt (7000 + c) (by omega)), w7]; exact nd.2.2.2.1
      have b77 : sI t3 (7000 + c) 7 = Int32.ofNat ((runF S2 nC nR nM 0).1 0 c) := by rw [vwI (vt (7000 + c) (by omega)), w7]; exact nd.1
      have k3 : sK t3 (3000 + c) % 32 = 2 := by rw [stK (st3 (3000 + c)), kk]; exact bE.1
      refine ⟨fun z => ?_, fun b z => ⟨3000 + c, eR, k3, fun x20 hx20 => ⟨3000 + c, eR, k3, fun t4 w4 => ⟨by rw [w4, sN_pI, stN (st3 1054)]; exact vp1, fun s51 w51 x hx => ?_⟩⟩⟩⟩
      · rw [eR] at z; cases z
      · rw [b38, b711, n_add] at hx20
        rw [b77] at w4
        have b3' : (runF S2 nC nR nM 0).1 3 c ≤ 3000 := b3.2.2.2
        rw [l1, hx20, n_64 (by omega)] at w51
        rw [hx, n_s, w51]
        refine hK2 hlt _ (fin t4 (nt (sI S2 1121 c) + (runF S2 nC nR nM 0).1 3 c) (fun x => by rw [w4]; rfl) (fun x hx => by rw [w4]; exact vw_pI hx) (fun _ k => ?_) (by unfold drkS; rw [if_neg hb]))
        rw [w4]
        by_cases e8 : k = 8
        · subst e8; rw [sI_pI_eq, if_pos rfl]
        · rw [sI_pI_ne (by omega), if_neg e8, vwI (vt (3000 + c) (by omega)), vwI w3c]
end ST
