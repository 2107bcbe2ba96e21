/-! ===== level 2: a new object that a list takes in ===== -/
def Grown (S S' : Sg) (q h ro : Nat) : Prop := ∀ x, ¬ x = q → ¬ x = h → ¬ (10000 ≤ x ∧ sK S x = 20 + 32 * ro) → (x < 10000 ∨ ¬ sK S x = 0) → vw S' x = vw S x
theorem p_grow {S T : Sg} {q h ro n N κ : Nat} {el : Nat → Nat} {b : Nat × Nat} {Q : Int32 → Sg → Prop} (hok : okS S) (hT : ∀ x, ¬ x = q → vw T x = vw S x) (kq : sK T q = κ) (hκ : 1 ≤ κ % 32 ∧ κ % 32 ≤ 13) (q1 : 1000 ≤ q) (q2 : q < 10000) (hq0 : sK S q = 0) (hL : Lst S h ro el n) (h1 : 1000 ≤ h) (h2 : h < 10000) (hel : ∀ i, i < n → 1 ≤ sK S (el i) % 32 ∧ sK S (el i) % 32 ≤ 13) (hn : n < 100) (hN : GN S N) (hb1 : 1 ≤ b.1) (hb2 : 2 * n + 10 ≤ b.2)
    (k : ∀ S', Lst S' h ro (fun i => if i = n then q else el i) (n + 1) → Grown S S' q h ro → vw S' q = vw T q → GN S' (N + 1) → okS S' → Q 1 S') : P_Jx4a65c_add_9ea2d h (some q) T b Q := by
  obtain ⟨n1, n2⟩ := hN
  have hqN : ¬ q = N := by omega
  have hh : ¬ h = q := fun e => by rw [e, hq0] at hL; have := hL.1; omega
  have hLT : Lst T h ro el n := hL.keep (hT h hh) (fun a a1 a2 => hT a (by omega)) (hT 2 (by omega))
  have kT : ∀ x, ¬ x = q → sK T x = sK S x := fun x hx => vwK (hT x hx)
  have hok2 := hok.2.2
  refine p_add (N := N) hLT hn (by rw [kq]; exact hκ) (fun i hi => ?_) (fun x hx => ?_) n1 hb1 hb2 (fun S' hL' hA => ?_)
  · have e : ¬ el i = q := fun e => by have := hel i hi; rw [e, hq0] at this; omega
    rw [kT _ e]; exact hel i hi
  · rw [kT x (by omega)]; exact n2 x hx
  · obtain ⟨a1, a2, a3, a4⟩ := hA
    have fr : ∀ x, ¬ x = q → ¬ x = h → ¬ (10000 ≤ x ∧ sK S x = 20 + 32 * ro) → ¬ x = N → vw S' x = vw S x := fun x x1 x2 x3 x4 => by
      rw [a1 x x2 (fun z => x3 ⟨z.1, by have := z.2; rw [kT x x1] at this; exact this⟩) x4, hT x x1]
    refine k S' hL' (fun x x1 x2 x3 x4 => fr x x1 x2 x3 (fun e => ?_)) (a1 q (fun e => hh e.symm) (by omega) hqN) ⟨by omega, a2⟩ ⟨?_, ?_, fun x hx => ?_⟩
    · have z := n2 x (by omega)
      omega
    · exact (fr 1 (by omega) (by omega) (by omega) (by omega)).trans hok.1
    · exact (fr 2 (by omega) (by omega) (by omega) (by omega)).trans hok.2.1
    · by_cases c : x = N
      · subst c
        rcases a3 with z | z
        · exfalso
          apply hx
          rw [vwK z, kT x (by omega)]; exact n2 x (Nat.le_refl _)
        · refine Or.inr (Or.inr ?_)
          rw [z]; unfold wr; omega
      · rw [a4 x c] at hx ⊢
        by_cases c2 : x = q
        · subst c2; refine Or.inr (Or.inr ?_); rw [kq]; unfold wr; omega
        · rw [kT x c2] at hx ⊢; exact hok2 x hx
theorem el_same {b n : Nat} : (fun i => if i = n then b + n else b + i) = fun i => b + i := by
  funext i
  by_cases c : i = n
  · rw [if_pos c, c]
  · rw [if_neg c]
section AW
variable {S S2 : Sg} {nC nR nT nK nL nM nP td N : Nat} {lh : Nat → Nat}
def cornerT (S : Sg) (q : Nat) (v1 v2 v3 v4 : Int32) : Sg := pI (pI (pI (pI (pI (nw S q 4 0) q 4 (-1)) q 0 v1) q 1 v2) q 2 v3) q 3 v4
theorem x_cornerNew {v1 v2 v3 v4 : Int32} {Q : Int32 → Sg → Prop} (hok : okS S) (hS : GS S) (hC : GC S S2 nC) (hN : GN S N) (hlt : nC < 12) (k : ∀ S', Lst S' 1001 1 (fun i => 2000 + i) (nC + 1) → Grown S S' (2000 + nC) 1001 1 → vw S' (2000 + nC) = vw (cornerT S (2000 + nC) v1 v2 v3 v4) (2000 + nC) → GN S' (N + 1) → okS S' → Q (Int32.ofNat nC) S') : P_X10_corner_B48 1000 v1 v2 v3 v4 1 S (1000, 14000) Q := by
  have h0 := (hC.2.2.2.2.1 nC (Nat.le_refl _) hlt).1
  unfold P_X10_corner_B48
  refine ⟨fun h => absurd h (by decide), fun _ => ⟨hS.1.1, 1001, hS.1.2.1, hC.1.1, p_size hC.1 ⟨fun _ => ⟨4, 2000 + nC, by decide, by decide, by decide, h0, by omega, fun z hz => ?_, fun s1 e1 => ?_⟩, fun h => absurd ((nl_lt (by omega) (by omega)).mpr hlt) h⟩⟩⟩
  · rw [hS.1.2.1] at hz; cases hz; have := hC.1.1; omega
  · subst e1
    refine p_cornerInit (by rw [sK_nw, if_pos rfl]) ?_
    refine ⟨1001, hS.1.2.1, ?_, (1, 200), by decide, by decide, p_grow (κ := 4) hok (fun x hx => by simp (disch := first | omega | decide) only [vw_pI, vw_nw]) (by simp (disch := first | omega | decide) only [sK_pI, sK_nw, if_true]) (by decide) (by omega) (by omega) h0 hC.1 (by omega) (by omega) (fun i hi => by have := (hC.2.2.2.1 i hi).1; omega) (by omega) hN (by decide) (by show 2 * nC + 10 ≤ 200; omega) (fun S' a1 a2 a3 a4 a5 => ?_)⟩
    · have := hC.1.1
      simp (disch := first | omega | decide) only [sK_pI, sK_nw, if_neg]
      exact this
    · rw [el_same] at a1
      have hg := a2
      unfold Grown at hg
      refine ⟨1001, by rw [vwR (hg 1000 (by omega) (by omega) (by omega) (by omega))]; exact hS.1.2.1, a1.1, p_size a1 ?_⟩
      rw [n_p (by omega), Nat.add_sub_cancel]
      exact k S' a1 a2 a3 a4 a5
def roofT (S : Sg) (q : Nat) (v1 v2 v3 v4 : Int32) : Sg := pI (pI (pI (pI (pI (nw S q 8 0) q 5 (-1)) q 0 v1) q 1 v2) q 2 v3) q 3 v4
theorem x_roofNew {v1 v2 v3 v4 : Int32} {Q : Int32 → Sg → Prop} (hok : okS S) (hS : GS S) (hR : GR S S2 nC nR td) (hN : GN S N) (hlt : nR < 30) (k : ∀ S', Lst S' 1002 2 (fun i => 4000 + i) (nR + 1) → Grown S S' (4000 + nR) 1002 2 → vw S' (4000 + nR) = vw (roofT S (4000 + nR) v1 v2 v3 v4) (4000 + nR) → GN S' (N + 1) → okS S' → Q (Int32.ofNat nR) S') : P_X10_roof_B45 1000 v1 v2 v3 v4 1 S (1000, 14000) Q := by
  have h0 := (hR.2.2.2.2.1 nR (Nat.le_refl _) hlt).1
  unfold P_X10_roof_B45
  refine ⟨fun h => absurd h (by decide), fun _ => ⟨hS.1.1, 1002, hS.1.2.2.1, hR.1.1, p_size hR.1 ⟨fun _ => ⟨8, 4000 + nR, by decide, by decide, by decide, h0, by omega, fun z hz => ?_, fun s1 e1 => ?_⟩, fun h => absurd ((nl_lt (by omega) (by omega)).mpr hlt) h⟩⟩⟩
  · rw [hS.1.2.2.1] at hz; cases hz; have := hR.1.1; omega
  · subst e1
    refine p_roofInit (by rw [sK_nw, if_pos rfl]) ?_
    refine ⟨1002, hS.1.2.2.1, ?_, (1, 200), by decide, by decide, p_grow (κ := 8) hok (fun x hx => by simp (disch := first | omega | decide) only [vw_pI, vw_nw]) (by simp (disch := first | omega | decide) only [sK_pI, sK_nw, if_true]) (by decide) (by omega) (by omega) h0 hR.1 (by omega) (by omega) (fun i hi => by have := (hR.2.2.2.1 i hi).1; omega) (by omega) hN (by decide) (by show 2 * nR + 10 ≤ 200; omega) (fun S' a1 a2 a3 a4 a5 => ?_)⟩
    · have := hR.1.1
      simp (disch := first | omega | decide) only [sK_pI, sK_nw, if_neg]
      exact this
    · rw [el_same] at a1
      have hg := a2
      unfold Grown at hg
      refine ⟨1002, by rw [vwR (hg 1000 (by omega) (by omega) (by omega) (by omega))]; exact hS.1.2.2.1, a1.1, p_size a1 ?_⟩
      rw [n_p (by omega), Nat.add_sub_cancel]
      exact k S' a1 a2 a3 a4 a5
end AW
theorem pr_corner : Pr_corner Inv := by
  intro S S2 hI v1 v2 v3 v4
  have hI0 := hI
  obtain ⟨hk, hM, hS, hU, hA, hW, hB, nC, nR, nT, nK, nL, nM, nP, td, N, lh, hC, hR, hT, hK, hL, hZ, hP, hN⟩ := hI
  unfold P_X10_corner P_X10_corner_B47 P_X11_corner
  have hn := hC.2.1
  simp only [within_e, isIn_e]
  by_cases h1 : inn v1 1 100 = 0
  · simp (disch := first | omega | decide) only [Option.some.injEq, exists_eq_left', exists_eq_left, forall_eq, forall_eq', true_and, and_true, true_implies, implies_true, false_implies, not_true_eq_false, not_false_eq_true, reduceCtorEq, and_self, forall_const, i10, i01, if_true, if_false, and_false, false_and, Nat.not_lt_zero, sK_pI, sN_pI, sR_pI, sL_pI, sK_pL, sN_pL, sR_pL, sI_pL, sK_pR, sN_pR, sI_pR, sL_pR, sI_pI_eq, sI_pI_ne, sL_pL_eq, sL_pL_ne, sR_pR_eq, sR_pR_ne, nn_le, nat32_lt, nn_eq, ln_le, nl_le, ln_lt, nl_lt, ln_eq, nl_eq, n_m1, n_lt0, vp_n, vp_l, lc_n, nat32c, n_s, nI_n, h1, P_X10_corner_B48, hk, hI0]
  by_cases h2 : inn v2 1 500 = 0
  · simp (disch := first | omega | decide) only [Option.some.injEq, exists_eq_left', exists_eq_left, forall_eq, forall_eq', true_and, and_true, true_implies, implies_true, false_implies, not_true_eq_false, not_false_eq_true, reduceCtorEq, and_self, forall_const, i10, i01, if_true, if_false, and_false, false_and, Nat.not_lt_zero, sK_pI, sN_pI, sR_pI, sL_pI, sK_pL, sN_pL, sR_pL, sI_pL, sK_pR, sN_pR, sI_pR, sL_pR, sI_pI_eq, sI_pI_ne, sL_pL_eq, sL_pL_ne, sR_pR_eq, sR_pR_ne, nn_le, nat32_lt, nn_eq, ln_le, nl_le, ln_lt, nl_lt, ln_eq, nl_eq, n_m1, n_lt0, vp_n, vp_l, lc_n, nat32c, n_s, nI_n, h1, h2, P_X10_corner_B48, hk, hI0]
  by_cases h3 : inn v3 0 9 = 0
  · simp (disch := first | omega | decide) only [Option.some.injEq, exists_eq_left', exists_eq_left, forall_eq, forall_eq', true_and, and_true, true_implies, implies_true, false_implies, not_true_eq_false, not_false_eq_true, reduceCtorEq, and_self, forall_const, i10, i01, if_true, if_false, and_false, false_and, Nat.not_lt_zero, sK_pI, sN_pI, sR_pI, sL_pI, sK_pL, sN_pL, sR_pL, sI_pL, sK_pR, sN_pR, sI_pR, sL_pR, sI_pI_eq, sI_pI_ne, sL_pL_eq, sL_pL_ne, sR_pR_eq, sR_pR_ne, nn_le, nat32_lt, nn_eq, ln_le, nl_le, ln_lt, nl_lt, ln_eq, nl_eq, n_m1, n_lt0, vp_n, vp_l, lc_n, nat32c, n_s, nI_n, h1, h2, h3, P_X10_corner_B48, hk, hI0]
  by_cases h4 : inn v4 0 500 = 0
  · simp (disch := first | omega | decide) only [Option.some.injEq, exists_eq_left', exists_eq_left, forall_eq, forall_eq', true_and, and_true, true_implies, implies_true, false_implies, not_true_eq_false, not_false_eq_true, reduceCtorEq, and_self, forall_const, i10, i01, if_true, if_false, and_false, false_and, Nat.not_lt_zero, sK_pI, sN_pI, sR_pI, sL_pI, sK_pL, sN_pL, sR_pL, sI_pL, sK_pR, sN_pR, sI_pR, sL_pR, sI_pI_eq, sI_pI_ne, sL_pL_eq, sL_pL_ne, sR_pR_eq, sR_pR_ne, nn_le, nat32_lt, nn_eq, ln_le, nl_le, ln_lt, nl_lt, ln_eq, nl_eq, n_m1, n_lt0, vp_n, vp_l, lc_n, nat32c, n_s, nI_n, h1, h2, h3, h4, P_X10_corner_B48, hk, hI0]
  by_cases h5 : nC = 12
  · simp (disch := first | omega | decide) only [Option.some.injEq, exists_eq_left', exists_eq_left, forall_eq, forall_eq', true_and, and_true, true_implies, implies_true, false_implies, not_true_eq_false, not_false_eq_true, reduceCtorEq, and_self, forall_const, i10, i01, if_true, if_false, and_false, false_and, Nat.not_lt_zero, sK_pI, sN_pI, sR_pI, sL_pI, sK_pL, sN_pL, sR_pL, sI_pL, sK_pR, sN_pR, sI_pR, sL_pR, sI_pI_eq, sI_pI_ne, sL_pL_eq, sL_pL_ne, sR_pR_eq, sR_pR_ne, nn_le, nat32_lt, nn_eq, ln_le, nl_le, ln_lt, nl_lt, ln_eq, nl_eq, n_m1, n_lt0, vp_n, vp_l, lc_n, nat32c, n_s, nI_n, h1, h2, h3, h4, h5, P_X10_corner_B48, hS.1, hC.1.1, size_e hC.1, hC.2.2.1, hM.o, Nat.lt_irrefl, hk, hI0]
  have hlt : nC < 12 := by omega
  simp only [h1, h2, h3, h4, false_implies, not_false_eq_true, true_implies, true_and]
  refine x_cornerNew hk hS hC hN hlt (fun S' gL hg gq hgN hgo => ⟨hgo, ?_⟩)
  unfold Grown at hg
  have f0 := hC.2.2.2.2.1 nC (Nat.le_refl _) hlt
  simp (disch := first | omega | decide) only [Option.some.injEq, exists_eq_left', exists_eq_left, forall_eq, forall_eq', true_and, and_true, true_implies, implies_true, false_implies, not_true_eq_false, not_false_eq_true, reduceCtorEq, and_self, forall_const, i10, i01, if_true, if_false, and_false, false_and, Nat.not_lt_zero, sK_pI, sN_pI, sR_pI, sL_pI, sK_pL, sN_pL, sR_pL, sI_pL, sK_pR, sN_pR, sI_pR, sL_pR, sI_pI_eq, sI_pI_ne, sL_pL_eq, sL_pL_ne, sR_pR_eq, sR_pR_ne, nn_le, nat32_lt, nn_eq, ln_le, nl_le, ln_lt, nl_lt, ln_eq, nl_eq, n_m1, n_lt0, vp_n, vp_l, lc_n, nat32c, n_s, nI_n, hM.o, hC.2.2.1, h5, hM.a7, hM.a8, hM.a9, hM.a10, hM.a11, hlt, n_p, Nat.add_sub_cancel]
  refine ⟨hgo, (mw_pI (mw_pI (mw_pI (mw_pI (mw_pI (mw_pI hM (by omega)) (by omega)) (by omega)) (by omega)) (by omega)) (by omega)), (hS.keep (fun x h1 h2 h3 => stru_vw (hg x (by omega) (by omega) (by omega) (by omega))) (fun x hx => hg x (by omega) (by omega) (by omega) (by omega)) (fun x h1 h2 => vwK (hg x (by omega) (by omega) (by omega) (by omega)))), (hU.keep (hg 1054 (by omega) (by omega) (by omega) (by omega)) (fun k h1 h2 => by simp (disch := first | omega | decide) only [sL_pL_ne, sL_pI])), (hA.keep (fun x h1 h2 => hg x (by omega) (by omega) (by omega) (by omega)) (fun x h1 h2 => by simp (disch := first | omega | decide) only [vw_pI, vw_pL])), (hW.keep (fun x hx => hg x (by omega) (by omega) (by omega) (by omega)) (fun x h1 h2 => by simp (disch := first | omega | decide) only [vw_pI, vw_pL])), (hB.keep (fun x h1 h2 => hg x (by omega) (by omega) (by omega) (by omega)) (fun x h1 h2 => by simp (disch := first | omega | decide) only [vw_pI, vw_pL])), nC + 1, nR, nT, nK, nL, nM, nP, td, N + 1, lh, ?_, (hR.keep (by omega) (Nat.le_refl _) (fun x hx => hg x (by omega) (by omega) (by omega) (by omega)) (fun x h1 h2 => by simp (disch := first | omega | decide) only [vw_pI, vw_pL]) (by simp (disch := first | omega | decide) only [sI_pI_ne, sI_pL])), (hT.keep (fun x hx => hg x (by omega) (by omega) (by omega) (by omega)) (fun x h1 h2 h3 => by simp (disch := first | omega | decide) only [vw_pI, vw_pL]) (by simp (disch := first | omega | decide) only [sI_pI_ne, sI_pL])), (hK.keep (fun x hx => hg x (by omega) (by omega) (by omega) (by omega)) (fun x h1 h2 => by simp (disch := first | omega | decide) only [vw_pI, vw_pL]) (by simp (disch := first | omega | decide) only [sI_pI_ne, sI_pL])), (hL.keep (fun x hx => by unfold lawR at hx; exact hg x (by omega) (by omega) (by omega) (by omega)) (fun x h1 h2 => by simp (disch := first | omega | decide) only [vw_pI, vw_pL]) (by simp (disch := first | omega | decide) only [sI_pI_ne, sI_pL])), (hZ.keep (fun k h1 h2 => by rw [vwI (hg 1000 (by omega) (by omega) (by omega) (by omega))]) (fun k hk => by simp (disch := first | omega | decide) only [sI_pI_ne, sI_pL])), (hP.keep (fun x h1 h2 => hg x (by omega) (by omega) (by omega) (by omega)) (by simp (disch := first | omega | decide) only [vw_pI, vw_pL]) (by simp (disch := first | omega | decide) only [sI_pI_ne, sI_pL])), hgN⟩
  refine ⟨gL, by omega, by simp (disch := first | omega | decide) only [Option.some.injEq, exists_eq_left', exists_eq_left, forall_eq, forall_eq', true_and, and_true, true_implies, implies_true, false_implies, not_true_eq_false, not_false_eq_true, reduceCtorEq, and_self, forall_const, i10, i01, if_true, if_false, and_false, false_and, Nat.not_lt_zero, sK_pI, sN_pI, sR_pI, sL_pI, sK_pL, sN_pL, sR_pL, sI_pL, sK_pR, sN_pR, sI_pR, sL_pR, sI_pI_eq, sI_pI_ne, sL_pL_eq, sL_pL_ne, sR_pR_eq, sR_pR_ne, nn_le, nat32_lt, nn_eq, ln_le, nl_le, ln_lt, nl_lt, ln_eq, nl_eq, n_m1, n_lt0, vp_n, vp_l, lc_n, nat32c, n_s, nI_n, true_and], fun j hj => ?_, fun j j1 j2 => ?_, fun j hj => ?_⟩
  · by_cases e : j = nC
    · subst e
      unfold cornerE
      rw [vwK gq, vwI gq, vwR gq]
      unfold cornerT
      simp (disch := first | omega | decide) only [Option.some.injEq, exists_eq_left', exists_eq_left, forall_eq, forall_eq', true_and, and_true, true_implies, implies_true, false_implies, not_true_eq_false, not_false_eq_true, reduceCtorEq, and_self, forall_const, i10, i01, if_true, if_false, and_false, false_and, Nat.not_lt_zero, sK_pI, sN_pI, sR_pI, sL_pI, sK_pL, sN_pL, sR_pL, sI_pL, sK_pR, sN_pR, sI_pR, sL_pR, sI_pI_eq, sI_pI_ne, sL_pL_eq, sL_pL_ne, sR_pR_eq, sR_pR_ne, nn_le, nat32_lt, nn_eq, ln_le, nl_le, ln_lt, nl_lt, ln_eq, nl_eq, n_m1, n_lt0, vp_n, vp_l, lc_n, nat32c, n_s, nI_n, sK_nw, sI_nw, sR_nw, f0]
      exact ⟨rfl, rfl⟩
    · have cj := hC.2.2.2.1 j (by omega)
      have fj := hg (2000 + j) (by omega) (by omega) (by omega) (by omega)
      unfold cornerE
      rw [vwK fj, vwI fj, vwR fj]
      simp (disch := first | omega | decide) only [Option.some.injEq, exists_eq_left', exists_eq_left, forall_eq, forall_eq', true_and, and_true, true_implies, implies_true, false_implies, not_true_eq_false, not_false_eq_true, reduceCtorEq, and_self, forall_const, i10, i01, if_true, if_false, and_false, false_and, Nat.not_lt_zero, sK_pI, sN_pI, sR_pI, sL_pI, sK_pL, sN_pL, sR_pL, sI_pL, sK_pR, sN_pR, sI_pR, sL_pR, sI_pI_eq, sI_pI_ne, sL_pL_eq, sL_pL_ne, sR_pR_eq, sR_pR_ne, nn_le, nat32_lt, nn_eq, ln_le, nl_le, ln_lt, nl_lt, ln_eq, nl_eq, n_m1, n_lt0, vp_n, vp_l, lc_n, nat32c, n_s, nI_n, cj]
  · have fj := hg (2000 + j) (by omega) (by omega) (by omega) (by omega)
    rw [vwK fj]
    simp (disch := first | omega | decide) only [Option.some.injEq, exists_eq_left', exists_eq_left, forall_eq, forall_eq', true_and, and_true, true_implies, implies_true, false_implies, not_true_eq_false, not_false_eq_true, reduceCtorEq, and_self, forall_const, i10, i01, if_true, if_false, and_false, false_and, Nat.not_lt_zero, sK_pI, sN_pI, sR_pI, sL_pI, sK_pL, sN_pL, sR_pL, sI_pL, sK_pR, sN_pR, sI_pR, sL_pR, sI_pI_eq, sI_pI_ne, sL_pL_eq, sL_pL_ne, sR_pR_eq, sR_pR_ne, nn_le, nat32_lt, nn_eq, ln_le, nl_le, ln_lt, nl_lt, ln_eq, nl_eq, n_m1, n_lt0, vp_n, vp_l, lc_n, nat32c, n_s, nI_n, hC.2.2.2.2.1 j (by omega) j2]
  · unfold cornerB
    by_cases e : j = nC
    · subst e
      simp (disch := first | omega | decide) only [Option.some.injEq, exists_eq_left', exists_eq_left, forall_eq, forall_eq', true_and, and_true, true_implies, implies_true, false_implies, not_true_eq_false, not_false_eq_true, reduceCtorEq, and_self, forall_const, i10, i01, if_true, if_false, and_false, false_and, Nat.not_lt_zero, sK_pI, sN_pI, sR_pI, sL_pI, sK_pL, sN_pL, sR_pL, sI_pL, sK_pR, sN_pR, sI_pR, sL_pR, sI_pI_eq, sI_pI_ne, sL_pL_eq, sL_pL_ne, sR_pR_eq, sR_pR_ne, nn_le, nat32_lt, nn_eq, ln_le, nl_le, ln_lt, nl_lt, ln_eq, nl_eq, n_m1, n_lt0, vp_n, vp_l, lc_n, nat32c, n_s, nI_n, true_or]
      obtain ⟨k1, a1, b1, c1⟩ := inn_rg (lo := 1) (hi := 100) (by omega) (by omega) h1
      obtain ⟨k2, a2, b2, c2⟩ := inn_rg (lo := 1) (hi := 500) (by omega) (by omega) h2
      exact ⟨⟨k1, by omega, b1, c1⟩, ⟨k2, by omega, b2, c2⟩, inn_rg (lo := 0) (hi := 9) (by omega) (by omega) h3, inn_rg (lo := 0) (hi := 500) (by omega) (by omega) h4⟩
    · have cj := hC.2.2.2.2.2 j (by omega)
      unfold cornerB at cj
      simp (disch := first | omega | decide) only [Option.some.injEq, exists_eq_left', exists_eq_left, forall_eq, forall_eq', true_and, and_true, true_implies, implies_true, false_implies, not_true_eq_false, not_false_eq_true, reduceCtorEq, and_self, forall_const, i10, i01, if_true, if_false, and_false, false_and, Nat.not_lt_zero, sK_pI, sN_pI, sR_pI, sL_pI, sK_pL, sN_pL, sR_pL, sI_pL, sK_pR, sN_pR, sI_pR, sL_pR, sI_pI_eq, sI_pI_ne, sL_pL_eq, sL_pL_ne, sR_pR_eq, sR_pR_ne, nn_le, nat32_lt, nn_eq, ln_le, nl_le, ln_lt, nl_lt, ln_eq, nl_eq, n_m1, n_lt0, vp_n, vp_l, lc_n, nat32c, n_s, nI_n, cj]
      rcases cj.2.2.2.2 with z | ⟨b, z1, z2, z3⟩
      · exact Or.inl z
      · exact Or.inr ⟨b, z1, by omega, z3⟩
theorem pr_roof : Pr_roof Inv := by
  intro S S2 hI v1 v2 v3 v4
  have hI0 := hI
  obtain ⟨hk, hM, hS, hU, hA, hW, hB, nC, nR, nT, nK, nL, nM, nP, td, N, lh, hC, hR, hT, hK, hL, hZ, hP, hN⟩ := hI
  unfold P_X10_roof P_X10_roof_B44 P_X11_roof
  have hn := hR.2.1
  by_cases hc : isC v1 nC
  case neg => simp (disch := first | omega | decide) only [Option.some.injEq, exists_eq_left', exists_eq_left, forall_eq, forall_eq', true_and, and_true, true_implies, implies_true, false_implies, not_true_eq_false, not_false_eq_true, reduceCtorEq, and_self, forall_const, i10, i01, if_true, if_false, and_false, false_and, Nat.not_lt_zero, sK_pI, sN_pI, sR_pI, sL_pI, sK_pL, sN_pL, sR_pL, sI_pL, sK_pR, sN_pR, sI_pR, sL_pR, sI_pI_eq, sI_pI_ne, sL_pL_eq, sL_pL_ne, sR_pR_eq, sR_pR_ne, nn_le, nat32_lt, nn_eq, ln_le, nl_le, ln_lt, nl_lt, ln_eq, nl_eq, n_m1, n_lt0, vp_n, vp_l, lc_n, nat32c, n_s, nI_n, hS.1, hM.o, cornerAt_n hS hC hc, isCorner_n hM hC.2.2.1 hC.2.1 hc, P_X10_roof_B45, hk, hI0]
  obtain ⟨i, hi, rfl⟩ := hc
  simp only [cornerAt_y hS hC hi, isCorner_y hM hC.2.2.1 hC.2.1 hi, within_e, isIn_e]
  by_cases h1 : inn v2 0 19 = 0
  · simp (disch := first | omega | decide) only [Option.some.injEq, exists_eq_left', exists_eq_left, forall_eq, forall_eq', true_and, and_true, true_implies, implies_true, false_implies, not_true_eq_false, not_false_eq_true, reduceCtorEq, and_self, forall_const, i10, i01, if_true, if_false, and_false, false_and, Nat.not_lt_zero, sK_pI, sN_pI, sR_pI, sL_pI, sK_pL, sN_pL, sR_pL, sI_pL, sK_pR, sN_pR, sI_pR, sL_pR, sI_pI_eq, sI_pI_ne, sL_pL_eq, sL_pL_ne, sR_pR_eq, sR_pR_ne, nn_le, nat32_lt, nn_eq, ln_le, nl_le, ln_lt, nl_lt, ln_eq, nl_eq, n_m1, n_lt0, vp_n, vp_l, lc_n, nat32c, n_s, nI_n, h1, hS.1, hM.o, P_X10_roof_B45, hk, hI0]
  by_cases h2 : inn v3 1 50 = 0
  · simp (disch := first | omega | decide) only [Option.some.injEq, exists_eq_left', exists_eq_left, forall_eq, forall_eq', true_and, and_true, true_implies, implies_true, false_implies, not_true_eq_false, not_false_eq_true, reduceCtorEq, and_self, forall_const, i10, i01, if_true, if_false, and_false, false_and, Nat.not_lt_zero, sK_pI, sN_pI, sR_pI, sL_pI, sK_pL, sN_pL, sR_pL, sI_pL, sK_pR, sN_pR, sI_pR, sL_pR, sI_pI_eq, sI_pI_ne, sL_pL_eq, sL_pL_ne, sR_pR_eq, sR_pR_ne, nn_le, nat32_lt, nn_eq, ln_le, nl_le, ln_lt, nl_lt, ln_eq, nl_eq, n_m1, n_lt0, vp_n, vp_l, lc_n, nat32c, n_s, nI_n, h1, h2, hS.1, hM.o, P_X10_roof_B45, hk, hI0]
  by_cases h3 : inn v4 0 200 = 0
  · simp (disch := first | omega | decide) only [Option.some.injEq, exists_eq_left', exists_eq_left, forall_eq, forall_eq', true_and, and_true, true_implies, implies_true, false_implies, not_true_eq_false, not_false_eq_true, reduceCtorEq, and_self, forall_const, i10, i01, if_true, if_false, and_false, false_and, Nat.not_lt_zero, sK_pI, sN_pI, sR_pI, sL_pI, sK_pL, sN_pL, sR_pL, sI_pL, sK_pR, sN_pR, sI_pR, sL_pR, sI_pI_eq, sI_pI_ne, sL_pL_eq, sL_pL_ne, sR_pR_eq, sR_pR_ne, nn_le, nat32_lt, nn_eq, ln_le, nl_le, ln_lt, nl_lt, ln_eq, nl_eq, n_m1, n_lt0, vp_n, vp_l, lc_n, nat32c, n_s, nI_n, h1, h2, h3, hS.1, hM.o, P_X10_roof_B45, hk, hI0]
  by_cases h5 : nR = 30
  · simp (disch := first | omega | decide) only [Option.some.injEq, exists_eq_left', exists_eq_left, forall_eq, forall_eq', true_and, and_true, true_implies, implies_true, false_implies, not_true_eq_false, not_false_eq_true, reduceCtorEq, and_self, forall_const, i10, i01, if_true, if_false, and_false, false_and, Nat.not_lt_zero, sK_pI, sN_pI, sR_pI, sL_pI, sK_pL, sN_pL, sR_pL, sI_pL, sK_pR, sN_pR, sI_pR, sL_pR, sI_pI_eq, sI_pI_ne, sL_pL_eq, sL_pL_ne, sR_pR_eq, sR_pR_ne, nn_le, nat32_lt, nn_eq, ln_le, nl_le, ln_lt, nl_lt, ln_eq, nl_eq, n_m1, n_lt0, vp_n, vp_l, lc_n, nat32c, n_s, nI_n, h1, h2, h3, h5, P_X10_roof_B45, hS.1, hR.1.1, size_e hR.1, hR.2.2.1, hM.o, Nat.lt_irrefl, hk, hI0]
  have hlt : nR < 30 := by omega
  refine ⟨hS.1.1, fun h => by cases h, fun c3 hc3 => ?_⟩
  simp only [h1, h2, h3, false_implies, not_false_eq_true, true_implies, true_and]
  refine x_roofNew hk hS hR hN hlt (fun S' gL hg gq hgN hgo => ⟨hgo, ?_⟩)
  unfold Grown at hg
  have f0 := hR.2.2.2.2.1 nR (Nat.le_refl _) hlt
  simp (disch := first | omega | decide) only [Option.some.injEq, exists_eq_left', exists_eq_left, forall_eq, forall_eq', true_and, and_true, true_implies, implies_true, false_implies, not_true_eq_false, not_false_eq_true, reduceCtorEq, and_self, forall_const, i10, i01, if_true, if_false, and_false, false_and, Nat.not_lt_zero, sK_pI, sN_pI, sR_pI, sL_pI, sK_pL, sN_pL, sR_pL, sI_pL, sK_pR, sN_pR, sI_pR, sL_pR, sI_pI_eq, sI_pI_ne, sL_pL_eq, sL_pL_ne, sR_pR_eq, sR_pR_ne, nn_le, nat32_lt, nn_eq, ln_le, nl_le, ln_lt, nl_lt, ln_eq, nl_eq, n_m1, n_lt0, vp_n, vp_l, lc_n, nat32c, n_s, nI_n, hM.o, hR.2.2.1, h5, hM.a25, hM.a26, hM.a27, hM.a28, hlt, n_p, Nat.add_sub_cancel]
  refine ⟨hgo, (mw_pI (mw_pI (mw_pI (mw_pI (mw_pI hM (by omega)) (by omega)) (by omega)) (by omega)) (by omega)), (hS.keep (fun x h1 h2 h3 => stru_vw (hg x (by omega) (by omega) (by omega) (by omega))) (fun x hx => hg x (by omega) (by omega) (by omega) (by omega)) (fun x h1 h2 => vwK (hg x (by omega) (by omega) (by omega) (by omega)))), (hU.keep (hg 1054 (by omega) (by omega) (by omega) (by omega)) (fun k h1 h2 => by simp (disch := first | omega | decide) only [sL_pL_ne, sL_pI])), (hA.keep (fun x h1 h2 => hg x (by omega) (by omega) (by omega) (by omega)) (fun x h1 h2 => by simp (disch := first | omega | decide) only [vw_pI, vw_pL])), (hW.keep (fun x hx => hg x (by omega) (by omega) (by omega) (by omega)) (fun x h1 h2 => by simp (disch := first | omega | decide) only [vw_pI, vw_pL])), (hB.keep (fun x h1 h2 => hg x (by omega) (by omega) (by omega) (by omega)) (fun x h1 h2 => by simp (disch := first | omega | decide) only [vw_pI, vw_pL])), nC, nR + 1, nT, nK, nL, nM, nP, td, N + 1, lh, (hC.keep (fun x hx => hg x (by omega) (by omega) (by omega) (by omega)) (fun x hx => by simp (disch := first | omega | decide) only [vw_pI, vw_pL]) (by simp (disch := first | omega | decide) only [sI_pI_ne, sI_pL])), ?_, (hT.keep (fun x hx => hg x (by omega) (by omega) (by omega) (by omega)) (fun x h1 h2 h3 => by simp (disch := first | omega | decide) only [vw_pI, vw_pL]) (by simp (disch := first | omega | decide) only [sI_pI_ne, sI_pL])), (hK.keep (fun x hx => hg x (by omega) (by omega) (by omega) (by omega)) (fun x h1 h2 => by simp (disch := first | omega | decide) only [vw_pI, vw_pL]) (by simp (disch := first | omega | decide) only [sI_pI_ne, sI_pL])), (hL.keep (fun x hx => by unfold lawR at hx; exact hg x (by omega) (by omega) (by omega) (by omega)) (fun x h1 h2 => by simp (disch := first | omega | decide) only [vw_pI, vw_pL]) (by simp (disch := first | omega | decide) only [sI_pI_ne, sI_pL])), (hZ.keep (fun k h1 h2 => by rw [vwI (hg 1000 (by omega) (by omega) (by omega) (by omega))]) (fun k hk => by simp (disch := first | omega | decide) only [sI_pI_ne, sI_pL])), (hP.keep (fun x h1 h2 => hg x (by omega) (by omega) (by omega) (by omega)) (by simp (disch := first | omega | decide) only [vw_pI, vw_pL]) (by simp (disch := first | omega | decide) only [sI_pI_ne, sI_pL])), hgN⟩
  refine ⟨gL, by omega, by simp (disch := first | omega | decide) only [Option.some.injEq, exists_eq_left', exists_eq_left, forall_eq, forall_eq', true_and, and_true, true_implies, implies_true, false_implies, not_true_eq_false, not_false_eq_true, reduceCtorEq, and_self, forall_const, i10, i01, if_true, if_false, and_false, false_and, Nat.not_lt_zero, sK_pI, sN_pI, sR_pI, sL_pI, sK_pL, sN_pL, sR_pL, sI_pL, sK_pR, sN_pR, sI_pR, sL_pR, sI_pI_eq, sI_pI_ne, sL_pL_eq, sL_pL_ne, sR_pR_eq, sR_pR_ne, nn_le, nat32_lt, nn_eq, ln_le, nl_le, ln_lt, nl_lt, ln_eq, nl_eq, n_m1, n_lt0, vp_n, vp_l, lc_n, nat32c, n_s, nI_n, true_and], fun j hj => ?_, fun j j1 j2 => ?_, fun j hj => ?_⟩
  · by_cases e : j = nR
    · subst e
      unfold roofE
      rw [vwK gq, vwI gq]
      unfold roofT
      simp (disch := first | omega | decide) only [Option.some.injEq, exists_eq_left', exists_eq_left, forall_eq, forall_eq', true_and, and_true, true_implies, implies_true, false_implies, not_true_eq_false, not_false_eq_true, reduceCtorEq, and_self, forall_const, i10, i01, if_true, if_false, and_false, false_and, Nat.not_lt_zero, sK_pI, sN_pI, sR_pI, sL_pI, sK_pL, sN_pL, sR_pL, sI_pL, sK_pR, sN_pR, sI_pR, sL_pR, sI_pI_eq, sI_pI_ne, sL_pL_eq, sL_pL_ne, sR_pR_eq, sR_pR_ne, nn_le, nat32_lt, nn_eq, ln_le, nl_le, ln_lt, nl_lt, ln_eq, nl_eq, n_m1, n_lt0, vp_n, vp_l, lc_n, nat32c, n_s, nI_n, sK_nw, sI_nw, f0]
      decide
    · have cj := hR.2.2.2.1 j (by omega)
      have fj := hg (4000 + j) (by omega) (by omega) (by omega) (by omega)
      unfold roofE
      rw [vwK fj, vwI fj]
      simp (disch := first | omega | decide) only [Option.some.injEq, exists_eq_left', exists_eq_left, forall_eq, forall_eq', true_and, and_true, true_implies, implies_true, false_implies, not_true_eq_false, not_false_eq_true, reduceCtorEq, and_self, forall_const, i10, i01, if_true, if_false, and_false, false_and, Nat.not_lt_zero, sK_pI, sN_pI, sR_pI, sL_pI, sK_pL, sN_pL, sR_pL, sI_pL, sK_pR, sN_pR, sI_pR, sL_pR, sI_pI_eq, sI_pI_ne, sL_pL_eq, sL_pL_ne, sR_pR_eq, sR_pR_ne, nn_le, nat32_lt, nn_eq, ln_le, nl_le, ln_lt, nl_lt, ln_eq, nl_eq, n_m1, n_lt0, vp_n, vp_l, lc_n, nat32c, n_s, nI_n, cj]
  · have fj := hg (4000 + j) (by omega) (by omega) (by omega) (by omega)
    rw [vwK fj]
    simp (disch := first | omega | decide) only [Option.some.injEq, exists_eq_left', exists_eq_left, forall_eq, forall_eq', true_and, and_true, true_implies, implies_true, false_implies, not_true_eq_false, not_false_eq_true, reduceCtorEq, and_self, forall_const, i10, i01, if_true, if_false, and_false, false_and, Nat.not_lt_zero, sK_pI, sN_pI, sR_pI, sL_pI, sK_pL, sN_pL, sR_pL, sI_pL, sK_pR, sN_pR, sI_pR, sL_pR, sI_pI_eq, sI_pI_ne, sL_pL_eq, sL_pL_ne, sR_pR_eq, sR_pR_ne, nn_le, nat32_lt, nn_eq, ln_le, nl_le, ln_lt, nl_lt, ln_eq, nl_eq, n_m1, n_lt0, vp_n, vp_l, lc_n, nat32c, n_s, nI_n, hR.2.2.2.2.1 j (by omega) j2]
  · unfold roofB
    by_cases e : j = nR
    · subst e
      simp (disch := first | omega | decide) only [Option.some.injEq, exists_eq_left', exists_eq_left, forall_eq, forall_eq', true_and, and_true, true_implies, implies_true, false_implies, not_true_eq_false, not_false_eq_true, reduceCtorEq, and_self, forall_const, i10, i01, if_true, if_false, and_false, false_and, Nat.not_lt_zero, sK_pI, sN_pI, sR_pI, sL_pI, sK_pL, sN_pL, sR_pL, sI_pL, sK_pR, sN_pR, sI_pR, sL_pR, sI_pI_eq, sI_pI_ne, sL_pL_eq, sL_pL_ne, sR_pR_eq, sR_pR_ne, nn_le, nat32_lt, nn_eq, ln_le, nl_le, ln_lt, nl_lt, ln_eq, nl_eq, n_m1, n_lt0, vp_n, vp_l, lc_n, nat32c, n_s, nI_n, f0]
      obtain ⟨k2, a2, b2, c2⟩ := inn_rg (lo := 1) (hi := 50) (by omega) (by omega) h2
      obtain ⟨k3, a3, b3, c3⟩ := inn_rg (lo := 0) (hi := 200) (by omega) (by omega) h3
      refine ⟨⟨i, hi, rfl⟩, ⟨k2, by omega, b2, c2⟩, ⟨0, k3, by omega, b3, rfl, c3⟩, fun y hy hy2 => ?_⟩
      exfalso
      rw [bit_e (by omega)] at hy2
      revert hy2
      show (0#32).getLsbD y = true → False
      simp
    · have cj := hR.2.2.2.2.2 j (by omega)
      unfold roofB at cj
      simp (disch := first | omega | decide) only [Option.some.injEq, exists_eq_left', exists_eq_left, forall_eq, forall_eq', true_and, and_true, true_implies, implies_true, false_implies, not_true_eq_false, not_false_eq_true, reduceCtorEq, and_self, forall_const, i10, i01, if_true, if_false, and_false, false_and, Nat.not_lt_zero, sK_pI, sN_pI, sR_pI, sL_pI, sK_pL, sN_pL, sR_pL, sI_pL, sK_pR, sN_pR, sI_pR, sL_pR, sI_pI_eq, sI_pI_ne, sL_pL_eq, sL_pL_ne, sR_pR_eq, sR_pR_ne, nn_le, nat32_lt, nn_eq, ln_le, nl_le, ln_lt, nl_lt, ln_eq, nl_eq, n_m1, n_lt0, vp_n, vp_l, lc_n, nat32c, n_s, nI_n, cj]
      exact ⟨cj.1, cj.2.2.1, cj.2.2.2⟩
/-! a bed -/
/-- the reference's bed loop: caredOn's row -/
def CRow (S2 : Sg) (i k : Nat) (T : Sg) : Prop := MW T ∧ (∀ x, ¬ x = 1124 → vw T x = vw S2 x) ∧ ∀ j, sI T 1124 j = if 11 * i ≤ j ∧ j < 11 * i + k then -1 else sI S2 1124 j
theorem m_caredRow {S2 : Sg} {i : Nat} {Q : Int32 → Sg → Prop} (hM : MW S2) (hi : i < 12) (k : ∀ T, CRow S2 i 11 T → Q 1 T) : P_X11_bed_L111 1000 (Int32.ofNat i) 0 S2 Q := by
  unfold P_X11_bed_L111
  refine lpS (N := 11) (s0 := 0) (R := CRow S2 i) (B := fun x σ K => P_X11_bed_L111b 1000 (Int32.ofNat i) x σ Q K) rfl (by omega) ⟨hM, fun x _ => rfl, fun j => by rw [if_neg (by omega)]⟩ (fun j hj T hT K hK => ?_)
  obtain ⟨t1, t2, t3⟩ := hT
  unfold P_X11_bed_L111b
  refine ⟨fun c => ?_, fun c => ?_⟩
  · simp (disch := first | omega | decide) only [ln_lt] at c
    have e : j = 11 := by omega
    subst e; exact k T ⟨t1, t2, t3⟩
  · simp (disch := first | omega | decide) only [ln_lt] at c
    have hp : 11 * i + j < 132 := by omega
    simp (disch := first | omega | decide) only [Option.some.injEq, exists_eq_left', exists_eq_left, forall_eq, forall_eq', true_and, and_true, true_implies, implies_true, false_implies, not_true_eq_false, not_false_eq_true, reduceCtorEq, and_self, forall_const, i10, i01, if_true, if_false, and_false, false_and, Nat.not_lt_zero, sK_pI, sN_pI, sR_pI, sL_pI, sK_pL, sN_pL, sR_pL, sI_pL, sK_pR, sN_pR, sI_pR, sL_pR, sI_pI_eq, sI_pI_ne, sL_pL_eq, sL_pL_ne, sR_pR_eq, sR_pR_ne, nn_le, nat32_lt, nn_eq, ln_le, nl_le, ln_lt, nl_lt, ln_eq, nl_eq, n_m1, n_lt0, vp_n, vp_l, lc_n, nat32c, n_s, nI_n, t1.o, t1.a24, l_mul, n_add, hp]
    refine hK (by omega) _ ⟨mw_pI t1 (by omega), fun x hx => by rw [vw_pI hx, t2 x hx], fun y => ?_⟩
    rw [sI_pI, t3]
    by_cases e : y = 11 * i + j
    · rw [if_pos ⟨rfl, e⟩, if_pos (by omega)]
    · rw [if_neg (fun z => e z.2)]
      by_cases e2 : 11 * i ≤ y ∧ y < 11 * i + j
      · rw [if_pos e2, if_pos (by omega)]
      · rw [if_neg e2, if_neg (by omega)]
theorem pkf_set {S2 : Sg} {i : Nat} (hi : i < 12) (hb : sI S2 1112 i = 0) : ∀ n, n ≤ 12 → sm (pkf S2 (1 <<< (Int32.ofNat i &&& 31))) n = sm (pkf S2 0) n + if i < n then sI S2 1109 i else 0
  | 0, _ => by simp [sm]
  | n + 1, hn => by
    have z : (0 : Int32) ||| ((1 : Int32) <<< (Int32.ofNat i &&& 31)) = (1 : Int32) <<< (Int32.ofNat i &&& 31) := by
      rw [← Int32.toBitVec_inj, Int32.toBitVec_or]; simp
    have hz : ¬ ((0 : Int32) >>> (Int32.ofNat n &&& 31)) &&& 1 = 1 := by
      rw [bit_e (by omega)]
      show ¬ (0#32).getLsbD n = true
      simp
    have hb1 := bit_or (v := 0) (y := i) (j := n) (by omega) (by omega)
    rw [z] at hb1
    rw [sm_s, sm_s, pkf_set hi hb n (by omega)]
    unfold pkf
    by_cases e : n = i
    · subst e
      rw [if_neg (Nat.lt_irrefl _), if_pos (Nat.lt_succ_self _), if_neg (fun q => q.2 (hb1.mpr (Or.inr rfl))), if_pos ⟨hb, hz⟩]
      simp
    · have hb2 : ¬ ((1 : Int32) <<< (Int32.ofNat i &&& 31) >>> (Int32.ofNat n &&& 31)) &&& 1 = 1 := fun q => by
        rcases hb1.mp q with w | w
        · exact hz w
        · exact e w
      have e2 : (i < n + 1) = (i < n) := by apply propext; omega
      simp only [hb2, hz, e2]
      rw [Int32.add_assoc, Int32.add_assoc, Int32.add_comm (if i < n then sI S2 1109 i else 0)]
theorem pr_bed : Pr_bed Inv := by
  intro S S2 hI v1 v2 v3 v4
  have hI0 := hI
  obtain ⟨hk, hM, hS, hU, hA, hW, hB, nC, nR, nT, nK, nL, nM, nP, td, N, lh, hC, hR, hT, hK, hL, hZ, hP, hN⟩ := hI
  sorry
