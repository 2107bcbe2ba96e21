/-! ===== level 2: feed ===== -/
theorem byte_of (x : Int32) : ∃ b, b < 256 ∧ x &&& 255 = Int32.ofNat b ∧ x.toInt8.toInt32.toInt8.toInt32 = byt b := by
  refine ⟨x.toBitVec.toNat % 256, by omega, ?_, ?_⟩
  · apply Int32.toBitVec_inj.mp
    apply BitVec.eq_of_toNat_eq
    show (x.toBitVec &&& 255#32).toNat = (BitVec.ofNat 32 (x.toBitVec.toNat % 256)).toNat
    rw [BitVec.toNat_and, BitVec.toNat_ofNat, BitVec.toNat_ofNat, show 255 % 2 ^ 32 = 2 ^ 8 - 1 from rfl, Nat.and_two_pow_sub_one_eq_mod]
    omega
  · apply Int32.toInt_inj.mp
    rw [Int8.toInt_toInt32, Int32.toInt_toInt8, Int8.toInt_toInt32, Int32.toInt_toInt8, Int.bmod_bmod]
    have h : x.toInt = if 2 * x.toBitVec.toNat < 2 ^ 32 then (x.toBitVec.toNat : Int) else (x.toBitVec.toNat : Int) - (2 ^ 32 : Nat) := BitVec.toInt_eq_toNat_cond x.toBitVec
    have hn : x.toBitVec.toNat < 2 ^ 32 := x.toBitVec.isLt
    generalize x.toBitVec.toNat = n at h hn ⊢
    have hb : (byt (n % 256)).toInt = if n % 256 < 128 then ((n % 256 : Nat) : Int) else ((n % 256 : Nat) : Int) - 256 := by
      unfold byt
      split
      · exact nat32 (by omega)
      · rw [Int32.toInt_sub, nat32 (by omega), show (256 : Int32).toInt = 256 from by decide]
        exact Int.bmod_eq_of_le (by omega) (by omega)
    rw [hb, Int.bmod_def]
    by_cases l : 2 * n < 2 ^ 32
    · rw [if_pos l] at h
      rw [h]
      split <;> split <;> omega
    · rw [if_neg l] at h
      rw [h]
      split <;> split <;> omega
def x1 (S : Sg) (n : Nat) (y : Int32) : Sg := pI (pI S 1021 n (y &&& 255)) 1020 0 (Int32.ofNat (n + 1))
def m1 (S2 : Sg) (n : Nat) (y : Int32) : Sg := pI (pI S2 1175 n (y.toInt8.toInt32).toInt8.toInt32) 1000 77 (Int32.ofNat (n + 1))
section FD
variable {S S2 : Sg} {nC nR nT nK nL nM nP td N : Nat} {lh : Nat → Nat}
theorem iv_byte {y : Int32} (h : IV S S2 nC nR nT nK nL nM nP td N lh) (hn : nP < 700) : IV (x1 S nP y) (m1 S2 nP y) nC nR nT nK nL nM (nP + 1) td N lh := by
  obtain ⟨hk, hM, hS, hU, hA, hW, hB, hC, hR, hT, hK, hL, hZ, hP, hN⟩ := h
  unfold x1 m1
  refine ⟨okS_pI (okS_pI hk (by omega)) (by omega), mw_pI (mw_pI hM (by omega)) (by omega), (hS.keep (fun x _ _ _ => rfl) (fun x hx => by simp (disch := first | omega | decide) only [vw_pI, vw_pL]) (fun x _ _ => rfl)), (hU.keep (by simp (disch := first | omega | decide) only [vw_pI, vw_pL]) (fun k h1 h2 => by simp (disch := first | omega | decide) only [sL_pL_ne, sL_pI])), (hA.keep (fun x h1 h2 => by simp (disch := first | omega | decide) only [vw_pI, vw_pL]) (fun x h1 h2 => by simp (disch := first | omega | decide) only [vw_pI, vw_pL])), (hW.keep (fun x hx => by simp (disch := first | omega | decide) only [vw_pI, vw_pL]) (fun x h1 h2 => by simp (disch := first | omega | decide) only [vw_pI, vw_pL])), (hB.keep (fun x h1 h2 => by simp (disch := first | omega | decide) only [vw_pI, vw_pL]) (fun x h1 h2 => by simp (disch := first | omega | decide) only [vw_pI, vw_pL])), (hC.keep (fun x hx => by simp (disch := first | omega | decide) only [vw_pI, vw_pL]) (fun x hx => by simp (disch := first | omega | decide) only [vw_pI, vw_pL]) (by simp (disch := first | omega | decide) only [sI_pI_ne, sI_pL])), (hR.keep (Nat.le_refl _) (Nat.le_refl _) (fun x hx => by simp (disch := first | omega | decide) only [vw_pI, vw_pL]) (fun x h1 h2 => by simp (disch := first | omega | decide) only [vw_pI, vw_pL]) (by simp (disch := first | omega | decide) only [sI_pI_ne, sI_pL])), (hT.keep (fun x hx => by simp (disch := first | omega | decide) only [vw_pI, vw_pL]) (fun x h1 h2 h3 => by simp (disch := first | omega | decide) only [vw_pI, vw_pL]) (by simp (disch := first | omega | decide) only [sI_pI_ne, sI_pL])), (hK.keep (fun x hx => by simp (disch := first | omega | decide) only [vw_pI, vw_pL]) (fun x h1 h2 => by simp (disch := first | omega | decide) only [vw_pI, vw_pL]) (by simp (disch := first | omega | decide) only [sI_pI_ne, sI_pL])), (hL.keep (fun x hx => by unfold lawR at hx; simp (disch := first | omega | decide) only [vw_pI, vw_pL]) (fun x h1 h2 => by simp (disch := first | omega | decide) only [vw_pI, vw_pL]) (by simp (disch := first | omega | decide) only [sI_pI_ne, sI_pL])), (hZ.keep (fun k h1 h2 => by simp (disch := first | omega | decide) only [sI_pI_ne, sI_pL]) (fun k hk => by simp (disch := first | omega | decide) only [sI_pI_ne, sI_pL])), ⟨by omega, by simp (disch := first | omega | decide) only [sI_pI_eq], by simp (disch := first | omega | decide) only [sI_pI_eq], fun j hj => ?_⟩, hN⟩
  unfold byteE
  by_cases e : j = nP
  · subst e
    obtain ⟨b, hb, e1, e2⟩ := byte_of y
    exact ⟨b, hb, by simp (disch := first | omega | decide) only [sI_pI_ne, sI_pI_eq]; exact e1, by simp (disch := first | omega | decide) only [sI_pI_ne, sI_pI_eq]; exact e2⟩
  · obtain ⟨b, hb, e1, e2⟩ := hP.2.2.2 j (by omega)
    exact ⟨b, hb, by simp (disch := first | omega | decide) only [sI_pI_ne]; exact e1, by simp (disch := first | omega | decide) only [sI_pI_ne]; exact e2⟩
theorem x_byte {v v2 : Int32} {Q : Unit → Sg → Prop} {K : Int32 → Sg → Prop} (h : IV S S2 nC nR nT nK nL nM nP td N lh) (hn : nP < 700) (hv : ¬ v2 < 0) (k : K (v2 + (-8)) (x1 S nP (v >>> (v2 &&& 31)))) : P_X7_add_L3b 1020 v v2 S Q K := by
  obtain ⟨hk, hM, hS, hU, hA, hW, hB, hC, hR, hT, hK, hL, hZ, hP, hN⟩ := h
  have p0 := hP.2.1
  unfold x1 at k
  unfold P_X7_add_L3b P_X7_add_B45
  simp (disch := first | omega | decide) only [Option.some.injEq, exists_eq_left', exists_eq_left, forall_eq, forall_eq', true_and, and_true, true_implies, implies_true, false_implies, not_true_eq_false, not_false_eq_true, reduceCtorEq, and_self, forall_const, i10, i01, if_true, if_false, and_false, false_and, Nat.not_lt_zero, sK_pI, sN_pI, sR_pI, sL_pI, sK_pL, sN_pL, sR_pL, sI_pL, sK_pR, sN_pR, sI_pR, sL_pR, sI_pI_eq, sI_pI_ne, sL_pL_eq, sL_pL_ne, sR_pR_eq, sR_pR_ne, nn_le, nat32_lt, nn_eq, ln_le, nl_le, ln_lt, nl_lt, ln_eq, nl_eq, n_m1, n_lt0, vp_n, vp_l, lc_n, nat32c, n_s, nI_n, hv, hS.2.1, p0, hn, (show ¬ 700 ≤ nP by omega)]
  exact k
theorem m_byte {n : Nat} {v v2 : Int32} {Q : Unit → Sg → Prop} {K : Int32 → Sg → Prop} (hM : MW S2) (e : sI S2 1000 77 = Int32.ofNat n) (hn : n < 700) (hv : ¬ v2 < 0) (k : K (v2 + (-8)) (m1 S2 n (v >>> (v2 &&& 31)))) : P_X11_four_L3b 1000 v v2 S2 Q K := by
  unfold m1 at k
  unfold P_X11_four_L3b
  simp (disch := first | omega | decide) only [Option.some.injEq, exists_eq_left', exists_eq_left, forall_eq, forall_eq', true_and, and_true, true_implies, implies_true, false_implies, not_true_eq_false, not_false_eq_true, reduceCtorEq, and_self, forall_const, i10, i01, if_true, if_false, and_false, false_and, Nat.not_lt_zero, sK_pI, sN_pI, sR_pI, sL_pI, sK_pL, sN_pL, sR_pL, sI_pL, sK_pR, sN_pR, sI_pR, sL_pR, sI_pI_eq, sI_pI_ne, sL_pL_eq, sL_pL_ne, sR_pR_eq, sR_pR_ne, nn_le, nat32_lt, nn_eq, ln_le, nl_le, ln_lt, nl_lt, ln_eq, nl_eq, n_m1, n_lt0, vp_n, vp_l, lc_n, nat32c, n_s, nI_n, hv, hM.o, hM.a75, e, hn]
  exact k
def m4 (S2 : Sg) (n : Nat) (v : Int32) : Sg := m1 (m1 (m1 (m1 S2 n (v >>> ((24 : Int32) &&& 31))) (n + 1) (v >>> ((16 : Int32) &&& 31))) (n + 2) (v >>> ((8 : Int32) &&& 31))) (n + 3) (v >>> ((0 : Int32) &&& 31))
theorem x_add4 {v : Int32} {Q : Unit → Sg → Prop} (h : IV S S2 nC nR nT nK nL nM nP td N lh) (hn : nP + 4 ≤ 700) (k : ∀ S', IV S' (m4 S2 nP v) nC nR nT nK nL nM (nP + 4) td N lh → Q () S') : P_X7_add 1020 v S Q := by
  have h1 := iv_byte (y := v >>> ((24 : Int32) &&& 31)) h (by omega)
  have h2 := iv_byte (y := v >>> ((16 : Int32) &&& 31)) h1 (by omega)
  have h3 := iv_byte (y := v >>> ((8 : Int32) &&& 31)) h2 (by omega)
  have h4 := iv_byte (y := v >>> ((0 : Int32) &&& 31)) h3 (by omega)
  have k4 := k _ h4
  unfold P_X7_add P_X7_add_L3
  refine ⟨fun n x σ => (n = 4 ∧ x = 24 ∧ σ = S) ∨ (n = 3 ∧ x = 16 ∧ σ = x1 S nP (v >>> ((24 : Int32) &&& 31))) ∨ (n = 2 ∧ x = 8 ∧ σ = x1 (x1 S nP (v >>> ((24 : Int32) &&& 31))) (nP + 1) (v >>> ((16 : Int32) &&& 31))) ∨ (n = 1 ∧ x = 0 ∧ σ = x1 (x1 (x1 S nP (v >>> ((24 : Int32) &&& 31))) (nP + 1) (v >>> ((16 : Int32) &&& 31))) (nP + 2) (v >>> ((8 : Int32) &&& 31))) ∨ (n = 0 ∧ x = -8 ∧ σ = x1 (x1 (x1 (x1 S nP (v >>> ((24 : Int32) &&& 31))) (nP + 1) (v >>> ((16 : Int32) &&& 31))) (nP + 2) (v >>> ((8 : Int32) &&& 31))) (nP + 3) (v >>> ((0 : Int32) &&& 31))), ⟨4, Or.inl ⟨rfl, rfl, rfl⟩⟩, ?_⟩
  rintro n x σ (⟨rfl, rfl, rfl⟩ | ⟨rfl, rfl, rfl⟩ | ⟨rfl, rfl, rfl⟩ | ⟨rfl, rfl, rfl⟩ | ⟨rfl, rfl, rfl⟩)
  · exact x_byte h (by omega) (by decide) ⟨3, by omega, Or.inr (Or.inl ⟨rfl, by decide, rfl⟩)⟩
  · exact x_byte h1 (by omega) (by decide) ⟨2, by omega, Or.inr (Or.inr (Or.inl ⟨rfl, by decide, rfl⟩))⟩
  · exact x_byte h2 (by omega) (by decide) ⟨1, by omega, Or.inr (Or.inr (Or.inr (Or.inl ⟨rfl, by decide, rfl⟩)))⟩
  · exact x_byte h3 (by omega) (by decide) ⟨0, by omega, Or.inr (Or.inr (Or.inr (Or.inr ⟨rfl, by decide, rfl⟩)))⟩
  · unfold P_X7_add_L3b
    exact ⟨fun _ => k4, fun z => absurd (by decide) z⟩
theorem m1_w {n : Nat} {y : Int32} (hM : MW S2) : MW (m1 S2 n y) ∧ sI (m1 S2 n y) 1000 77 = Int32.ofNat (n + 1) := ⟨mw_pI (mw_pI hM (by omega)) (by omega), sI_pI_eq⟩
theorem m_four {n : Nat} {v : Int32} {Q : Unit → Sg → Prop} (hM : MW S2) (e : sI S2 1000 77 = Int32.ofNat n) (hn : n + 4 ≤ 700) (k : Q () (m4 S2 n v)) : P_X11_four 1000 v S2 Q := by
  have h1 := m1_w (n := n) (y := v >>> ((24 : Int32) &&& 31)) hM
  have h2 := m1_w (n := n + 1) (y := v >>> ((16 : Int32) &&& 31)) h1.1
  have h3 := m1_w (n := n + 2) (y := v >>> ((8 : Int32) &&& 31)) h2.1
  unfold P_X11_four P_X11_four_L3
  refine ⟨fun i x σ => (i = 4 ∧ x = 24 ∧ σ = S2) ∨ (i = 3 ∧ x = 16 ∧ σ = m1 S2 n (v >>> ((24 : Int32) &&& 31))) ∨ (i = 2 ∧ x = 8 ∧ σ = m1 (m1 S2 n (v >>> ((24 : Int32) &&& 31))) (n + 1) (v >>> ((16 : Int32) &&& 31))) ∨ (i = 1 ∧ x = 0 ∧ σ = m1 (m1 (m1 S2 n (v >>> ((24 : Int32) &&& 31))) (n + 1) (v >>> ((16 : Int32) &&& 31))) (n + 2) (v >>> ((8 : Int32) &&& 31))) ∨ (i = 0 ∧ x = -8 ∧ σ = m4 S2 n v), ⟨4, Or.inl ⟨rfl, rfl, rfl⟩⟩, ?_⟩
  rintro i x σ (⟨rfl, rfl, rfl⟩ | ⟨rfl, rfl, rfl⟩ | ⟨rfl, rfl, rfl⟩ | ⟨rfl, rfl, rfl⟩ | ⟨rfl, rfl, rfl⟩)
  · exact m_byte hM e (by omega) (by decide) ⟨3, by omega, Or.inr (Or.inl ⟨rfl, by decide, rfl⟩)⟩
  · exact m_byte h1.1 h1.2 (by omega) (by decide) ⟨2, by omega, Or.inr (Or.inr (Or.inl ⟨rfl, by decide, rfl⟩))⟩
  · exact m_byte h2.1 h2.2 (by omega) (by decide) ⟨1, by omega, Or.inr (Or.inr (Or.inr (Or.inl ⟨rfl, by decide, rfl⟩)))⟩
  · exact m_byte h3.1 h3.2 (by omega) (by decide) ⟨0, by omega, Or.inr (Or.inr (Or.inr (Or.inr ⟨rfl, by decide, rfl⟩)))⟩
  · unfold P_X11_four_L3b
    exact ⟨fun _ => k, fun z => absurd (by decide) z⟩
theorem iv_tape (h : IV S S2 nC nR nT nK nL nM nP td N lh) : sR S 1000 6 = some 1020 ∧ sK S 1020 % 32 = 9 := ⟨h.2.2.1.1.2.2.2.2.2.2.2.1, h.2.2.1.2.1.1⟩
theorem iv_tp (h : IV S S2 nC nR nT nK nL nM nP td N lh) : sI S 1020 0 = Int32.ofNat nP ∧ sI S2 1000 77 = Int32.ofNat nP := ⟨h.2.2.2.2.2.2.2.2.2.2.2.2.2.1.2.1, h.2.2.2.2.2.2.2.2.2.2.2.2.2.1.2.2.1⟩
end FD
theorem pr_feed : Pr_feed Inv := by
  intro S S2 hI v1 v2 v3 v4 v5
  have hI0 := hI
  obtain ⟨hk, hM, hS, hU, hA, hW, hB, nC, nR, nT, nK, nL, nM, nP, td, N, lh, hC, hR, hT, hK, hL, hZ, hP, hN⟩ := hI
  have h0 : IV S S2 nC nR nT nK nL nM nP td N lh := ⟨hk, hM, hS, hU, hA, hW, hB, hC, hR, hT, hK, hL, hZ, hP, hN⟩
  have hn := hP.1
  have le20 : (Int32.ofNat nP + 20 ≤ (700 : Int32)) ↔ nP + 20 ≤ 700 := by
    rw [show Int32.ofNat nP + 20 = Int32.ofNat (nP + 20) from n_addl]; exact nl_le (k := 700) (by omega) (by omega)
  unfold P_X10_feed P_X11_feed
  refine ⟨hS.1.1, 1020, (iv_tape h0).1, (iv_tape h0).2, fun l => ?_, fun l => ⟨hk, hM.o, fun l2 => ?_, fun _ => ⟨rfl, hI0⟩⟩⟩
  · rw [(iv_tp h0).1, le20] at l
    refine ⟨1020, (iv_tape h0).1, (iv_tape h0).2, x_add4 h0 (by omega) (fun S1 h1 => ⟨1020, (iv_tape h1).1, (iv_tape h1).2, x_add4 h1 (by omega) (fun S2' h2 => ⟨1020, (iv_tape h2).1, (iv_tape h2).2, x_add4 h2 (by omega) (fun S3 h3 => ⟨1020, (iv_tape h3).1, (iv_tape h3).2, x_add4 h3 (by omega) (fun S4 h4 => ⟨1020, (iv_tape h4).1, (iv_tape h4).2, x_add4 h4 (by omega) (fun S5 h5 => ⟨1020, (iv_tape h5).1, (iv_tape h5).2, h5.1, hM.o, fun _ => ?_, fun z => absurd ?_ z⟩)⟩)⟩)⟩)⟩)⟩
    · refine m_four hM (iv_tp h0).2 (by omega) (m_four h1.2.1 (iv_tp h1).2 (by omega) (m_four h2.2.1 (iv_tp h2).2 (by omega) (m_four h3.2.1 (iv_tp h3).2 (by omega) (m_four h4.2.1 (iv_tp h4).2 (by omega) ⟨?_, iv_inv h5⟩))))
      rw [(iv_tp h5).1, (iv_tp h5).2]
    · rw [(iv_tp h0).2, le20]; exact l
  · rw [(iv_tp h0).1, le20] at l
    rw [(iv_tp h0).2, le20] at l2
    exact absurd l2 l
