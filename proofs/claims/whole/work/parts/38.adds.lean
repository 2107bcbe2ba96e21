/-! ===== level 2: a new object that a list takes in ===== -/
def Grown (S S' : Sg) (q h ro : Nat) : Prop := ∀ x, ¬ x = q → ¬ x = h → ¬ (10000 ≤ x ∧ sK S x = 20 + 32 * ro) → (x < 10000 ∨ ¬ sK S x = 0) → vw S' x = vw S x
theorem p_grow {S T : Sg} {q h ro n N κ : Nat} {el : Nat → Nat} {b : Nat × Nat} {Q : Int32 → Sg → Prop} (hok : okS S) (hT : ∀ x, ¬ x = q → vw T x = vw S x) (kq : sK T q = κ) (hκ : 1 ≤ κ % 32 ∧ κ % 32 ≤ 13) (q1 : 1000 ≤ q) (q2 : q < 10000) (hq0 : sK S q = 0) (hL : Lst S h ro el n) (h1 : 1000 ≤ h) (h2 : h < 10000) (hel : ∀ i, i < n → 1 ≤ sK S (el i) % 32 ∧ sK S (el i) % 32 ≤ 13) (hn : n < 100) (hN : GN S N) (hb1 : 1 ≤ b.1) (hb2 : 2 * n + 10 ≤ b.2)
    (k : ∀ S', Lst S' h ro (fun i => if i = n then q else el i) (n + 1) → Grown S S' q h ro → vw S' q = vw T q → GN S' (N + 1) → okS S' → Q 1 S') : P_Jx4a65c_add_9ea2d h (some q) T b Q := by
  obtain ⟨n1, n2⟩ := hN
  have hqN : ¬ q = N := by omega
  have hh : ¬ h = q := fun e => by have := hL.1; rw [e, hq0] at this; omega
  have hLT : Lst T h ro el n := hL.keep (hT h hh) (fun a a1 a2 => hT a (by omega)) (hT 2 (by omega))
  have kT : ∀ x, ¬ x = q → sK T x = sK S x := fun x hx => vwK (hT x hx)
  have hok2 := hok.2.2
  refine p_add (N := N) hLT hn (by rw [kq]; exact hκ) (fun i hi => ?_) (fun x hx => ?_) n1 hb1 hb2 (fun S' hL' hA => ?_)
  · have e : ¬ el i = q := fun e => by have := hel i hi; rw [e, hq0] at this; omega
    rw [kT _ e]; exact hel i hi
  · rw [kT x (by omega)]; exact n2 x hx
  · obtain ⟨a1, a2, a3, a4⟩ := hA
    have fr : ∀ x, ¬ x = q → ¬ x = h → ¬ (10000 ≤ x ∧ sK S x = 20 + 32 * ro) → ¬ x = N → vw S' x = vw S x := fun x x1 x2 x3 x4 => by
      rw [a1 x x2 (fun z => x3 ⟨z.1, by have := z.2; rw [kT x x1] at this; exact this⟩) x4, hT x x1]
    refine k S' hL' (fun x x1 x2 x3 x4 => fr x x1 x2 x3 (fun e => ?_)) (a1 q (fun e => hh e.symm) (by omega) hqN) ⟨by omega, a2⟩ ⟨?_, ?_, fun x hx => ?_⟩
    · have z := n2 x (by omega)
      omega
    · exact (fr 1 (by omega) (by omega) (by omega) (by omega)).trans hok.1
    · exact (fr 2 (by omega) (by omega) (by omega) (by omega)).trans hok.2.1
    · by_cases c : x = N
      · subst c
        rcases a3 with z | z
        · exfalso
          apply hx
          rw [vwK z, kT x (by omega)]; exact n2 x (Nat.le_refl _)
        · refine Or.inr (Or.inr ?_)
          rw [z]; unfold wr; omega
      · rw [a4 x c] at hx ⊢
        by_cases c2 : x = q
        · subst c2; refine Or.inr (Or.inr ?_); rw [kq]; unfold wr; omega
        · rw [kT x c2] at hx ⊢; exact hok2 x hx
theorem el_same {b n : Nat} : (fun i => if i = n then b + n else b + i) = fun i => b + i := by
  funext i
  by_cases c : i = n
  · rw [if_pos c, c]
  · rw [if_neg c]
section AW
variable {S S2 : Sg} {nC nR nT nK nL nM nP td N : Nat} {lh : Nat → Nat}
def cornerT (S : Sg) (q : Nat) (v1 v2 v3 v4 : Int32) : Sg := pI (pI (pI (pI (pI (nw S q 4 0) q 4 (-1)) q 0 v1) q 1 v2) q 2 v3) q 3 v4
theorem x_cornerNew {v1 v2 v3 v4 : Int32} {Q : Int32 → Sg → Prop} (hok : okS S) (hS : GS S) (hC : GC S S2 nC) (hN : GN S N) (hlt : nC < 12) (k : ∀ S', Lst S' 1001 1 (fun i => 2000 + i) (nC + 1) → Grown S S' (2000 + nC) 1001 1 → vw S' (2000 + nC) = vw (cornerT S (2000 + nC) v1 v2 v3 v4) (2000 + nC) → GN S' (N + 1) → okS S' → Q (Int32.ofNat nC) S') : P_X10_corner_B48 1000 v1 v2 v3 v4 1 S (1000, 14000) Q := by
  have h0 := (hC.2.2.2.2.1 nC (Nat.le_refl _) hlt).1
  unfold P_X10_corner_B48
  refine ⟨fun h => absurd h (by decide), fun _ => ⟨hS.1.1, 1001, hS.1.2.1, hC.1.1, p_size hC.1 ⟨fun _ => ⟨4, 2000 + nC, by decide, by decide, by decide, h0, by omega, fun z hz => ?_, fun s1 e1 => ?_⟩, fun h => absurd ((nl_lt (by omega) (by omega)).mpr hlt) h⟩⟩⟩
  · rw [hS.1.2.1] at hz; cases hz; have := hC.1.1; omega
  · subst e1
    refine p_cornerInit (by rw [sK_nw, if_pos rfl]) ?_
    refine ⟨1001, hS.1.2.1, ?_, (1, 200), by decide, by decide, p_grow (κ := 4) hok (fun x hx => by simp (disch := first | omega | decide) only [vw_pI, vw_nw]) (by simp (disch := first | omega | decide) only [sK_pI, sK_nw, if_true]) (by decide) (by omega) (by omega) h0 hC.1 (by omega) (by omega) (fun i hi => by have := (hC.2.2.2.1 i hi).1; omega) (by omega) hN (by decide) (by show 2 * nC + 10 ≤ 200; omega) (fun S' a1 a2 a3 a4 a5 => ?_)⟩
    · have := hC.1.1
      simp (disch := first | omega | decide) only [sK_pI, sK_nw, if_neg]
      exact this
    · rw [el_same] at a1
      have hg := a2
      unfold Grown at hg
      refine ⟨1001, by rw [vwR (hg 1000 (by omega) (by omega) (by omega) (by omega))]; exact hS.1.2.1, a1.1, p_size a1 ?_⟩
      rw [n_p (by omega), Nat.add_sub_cancel]
      exact k S' a1 a2 a3 a4 a5
def roofT (S : Sg) (q : Nat) (v1 v2 v3 v4 : Int32) : Sg := pI (pI (pI (pI (pI (nw S q 8 0) q 5 (-1)) q 0 v1) q 1 v2) q 2 v3) q 3 v4
theorem x_roofNew {v1 v2 v3 v4 : Int32} {Q : Int32 → Sg → Prop} (hok : okS S) (hS : GS S) (hR : GR S S2 nC nR td) (hN : GN S N) (hlt : nR < 30) (k : ∀ S', Lst S' 1002 2 (fun i => 4000 + i) (nR + 1) → Grown S S' (4000 + nR) 1002 2 → vw S' (4000 + nR) = vw (roofT S (4000 + nR) v1 v2 v3 v4) (4000 + nR) → GN S' (N + 1) → okS S' → Q (Int32.ofNat nR) S') : P_X10_roof_B45 1000 v1 v2 v3 v4 1 S (1000, 14000) Q := by
  have h0 := (hR.2.2.2.2.1 nR (Nat.le_refl _) hlt).1
  unfold P_X10_roof_B45
  refine ⟨fun h => absurd h (by decide), fun _ => ⟨hS.1.1, 1002, hS.1.2.2.1, hR.1.1, p_size hR.1 ⟨fun _ => ⟨8, 4000 + nR, by decide, by decide, by decide, h0, by omega, fun z hz => ?_, fun s1 e1 => ?_⟩, fun h => absurd ((nl_lt (by omega) (by omega)).mpr hlt) h⟩⟩⟩
  · rw [hS.1.2.2.1] at hz; cases hz; have := hR.1.1; omega
  · subst e1
    refine p_roofInit (by rw [sK_nw, if_pos rfl]) ?_
    refine ⟨1002, hS.1.2.2.1, ?_, (1, 200), by decide, by decide, p_grow (κ := 8) hok (fun x hx => by simp (disch := first | omega | decide) only [vw_pI, vw_nw]) (by simp (disch := first | omega | decide) only [sK_pI, sK_nw, if_true]) (by decide) (by omega) (by omega) h0 hR.1 (by omega) (by omega) (fun i hi => by have := (hR.2.2.2.1 i hi).1; omega) (by omega) hN (by decide) (by show 2 * nR + 10 ≤ 200; omega) (fun S' a1 a2 a3 a4 a5 => ?_)⟩
    · have := hR.1.1
      simp (disch := first | omega | decide) only [sK_pI, sK_nw, if_neg]
      exact this
    · rw [el_same] at a1
      have hg := a2
      unfold Grown at hg
      refine ⟨1002, by rw [vwR (hg 1000 (by omega) (by omega) (by omega) (by omega))]; exact hS.1.2.2.1, a1.1, p_size a1 ?_⟩
      rw [n_p (by omega), Nat.add_sub_cancel]
      exact k S' a1 a2 a3 a4 a5
end AW
theorem pr_corner : Pr_corner Inv := by
  intro S S2 hI v1 v2 v3 v4
  have hI0 := hI
  obtain ⟨hk, hM, hS, hU, hA, hW, hB, nC, nR, nT, nK, nL, nM, nP, td, N, lh, hC, hR, hT, hK, hL, hZ, hP, hN⟩ := hI
  unfold P_X10_corner P_X10_corner_B47 P_X11_corner
  have hn := hC.2.1
  simp only [within_e, isIn_e]
  by_cases h1 : inn v1 1 100 = 0
  · simp (disch := first | omega | decide) only [Option.some.injEq, exists_eq_left', exists_eq_left, forall_eq, forall_eq', true_and, and_true, true_implies, implies_true, false_implies, not_true_eq_false, not_false_eq_true, reduceCtorEq, and_self, forall_const, i10, i01, if_true, if_false, and_false, false_and, Nat.not_lt_zero, sK_pI, sN_pI, sR_pI, sL_pI, sK_pL, sN_pL, sR_pL, sI_pL, sK_pR, sN_pR, sI_pR, sL_pR, sI_pI_eq, sI_pI_ne, sL_pL_eq, sL_pL_ne, sR_pR_eq, sR_pR_ne, nn_le, nat32_lt, nn_eq, ln_le, nl_le, ln_lt, nl_lt, ln_eq, nl_eq, n_m1, n_lt0, vp_n, vp_l, lc_n, nat32c, n_s, nI_n, h1, P_X10_corner_B48, hk, hI0]
  by_cases h2 : inn v2 1 500 = 0
  · simp (disch := first | omega | decide) only [Option.some.injEq, exists_eq_left', exists_eq_left, forall_eq, forall_eq', true_and, and_true, true_implies, implies_true, false_implies, not_true_eq_false, not_false_eq_true, reduceCtorEq, and_self, forall_const, i10, i01, if_true, if_false, and_false, false_and, Nat.not_lt_zero, sK_pI, sN_pI, sR_pI, sL_pI, sK_pL, sN_pL, sR_pL, sI_pL, sK_pR, sN_pR, sI_pR, sL_pR, sI_pI_eq, sI_pI_ne, sL_pL_eq, sL_pL_ne, sR_pR_eq, sR_pR_ne, nn_le, nat32_lt, nn_eq, ln_le, nl_le, ln_lt, nl_lt, ln_eq, nl_eq, n_m1, n_lt0, vp_n, vp_l, lc_n, nat32c, n_s, nI_n, h1, h2, P_X10_corner_B48, hk, hI0]
  by_cases h3 : inn v3 0 9 = 0
  · simp (disch := first | omega | decide) only [Option.some.injEq, exists_eq_left', exists_eq_left, forall_eq, forall_eq', true_and, and_true, true_implies, implies_true, false_implies, not_true_eq_false, not_false_eq_true, reduceCtorEq, and_self, forall_const, i10, i01, if_true, if_false, and_false, false_and, Nat.not_lt_zero, sK_pI, sN_pI, sR_pI, sL_pI, sK_pL, sN_pL, sR_pL, sI_pL, sK_pR, sN_pR, sI_pR, sL_pR, sI_pI_eq, sI_pI_ne, sL_pL_eq, sL_pL_ne, sR_pR_eq, sR_pR_ne, nn_le, nat32_lt, nn_eq, ln_le, nl_le, ln_lt, nl_lt, ln_eq, nl_eq, n_m1, n_lt0, vp_n, vp_l, lc_n, nat32c, n_s, nI_n, h1, h2, h3, P_X10_corner_B48, hk, hI0]
  by_cases h4 : inn v4 0 500 = 0
  · simp (disch := first | omega | decide) only [Option.some.injEq, exists_eq_left', exists_eq_left, forall_eq, forall_eq', true_and, and_true, true_implies, implies_true, false_implies, not_true_eq_false, not_false_eq_true, reduceCtorEq, and_self, forall_const, i10, i01, if_true, if_false, and_false, false_and, Nat.not_lt_zero, sK_pI, sN_pI, sR_pI, sL_pI, sK_pL, sN_pL, sR_pL, sI_pL, sK_pR, sN_pR, sI_pR, sL_pR, sI_pI_eq, sI_pI_ne, sL_pL_eq, sL_pL_ne, sR_pR_eq, sR_pR_ne, nn_le, nat32_lt, nn_eq, ln_le, nl_le, ln_lt, nl_lt, ln_eq, nl_eq, n_m1, n_lt0, vp_n, vp_l, lc_n, nat32c, n_s, nI_n, h1, h2, h3, h4, P_X10_corner_B48, hk, hI0]
  by_cases h5 : nC = 12
  · simp (disch := first | omega | decide) only [Option.some.injEq, exists_eq_left', exists_eq_left, forall_eq, forall_eq', true_and, and_true, true_implies, implies_true, false_implies, not_true_eq_false, not_false_eq_true, reduceCtorEq, and_self, forall_const, i10, i01, if_true, if_false, and_false, false_and, Nat.not_lt_zero, sK_pI, sN_pI, sR_pI, sL_pI, sK_pL, sN_pL, sR_pL, sI_pL, sK_pR, sN_pR, sI_pR, sL_pR, sI_pI_eq, sI_pI_ne, sL_pL_eq, sL_pL_ne, sR_pR_eq, sR_pR_ne, nn_le, nat32_lt, nn_eq, ln_le, nl_le, ln_lt, nl_lt, ln_eq, nl_eq, n_m1, n_lt0, vp_n, vp_l, lc_n, nat32c, n_s, nI_n, h1, h2, h3, h4, h5, P_X10_corner_B48, hS.1, hC.1.1, size_e hC.1, hC.2.2.1, hM.o, Nat.lt_irrefl, hk, hI0]
  have hlt : nC < 12 := by omega
  simp only [h1, h2, h3, h4, false_implies, not_false_eq_true, true_implies, true_and]
  refine x_cornerNew hk hS hC hN hlt (fun S' gL hg gq hgN hgo => ⟨hgo, ?_⟩)
  unfold Grown at hg
  have f0 := hC.2.2.2.2.1 nC (Nat.le_refl _) hlt
  simp (disch := first | omega | decide) only [Option.some.injEq, exists_eq_left', exists_eq_left, forall_eq, forall_eq', true_and, and_true, true_implies, implies_true, false_implies, not_true_eq_false, not_false_eq_true, reduceCtorEq, and_self, forall_const, i10, i01, if_true, if_false, and_false, false_and, Nat.not_lt_zero, sK_pI, sN_pI, sR_pI, sL_pI, sK_pL, sN_pL, sR_pL, sI_pL, sK_pR, sN_pR, sI_pR, sL_pR, sI_pI_eq, sI_pI_ne, sL_pL_eq, sL_pL_ne, sR_pR_eq, sR_pR_ne, nn_le, nat32_lt, nn_eq, ln_le, nl_le, ln_lt, nl_lt, ln_eq, nl_eq, n_m1, n_lt0, vp_n, vp_l, lc_n, nat32c, n_s, nI_n, hM.o, hC.2.2.1, h5, hM.a7, hM.a8, hM.a9, hM.a10, hM.a11, hlt, n_p, Nat.add_sub_cancel]
  refine ⟨hgo, (mw_pI (mw_pI (mw_pI (mw_pI (mw_pI (mw_pI hM (by omega)) (by omega)) (by omega)) (by omega)) (by omega)) (by omega)), (hS.keep (fun x h1 h2 h3 => stru_vw (hg x (by omega) (by omega) (by omega) (by omega))) (fun x hx => hg x (by omega) (by omega) (by omega) (by omega)) (fun x h1 h2 => vwK (hg x (by omega) (by omega) (by omega) (by omega)))), (hU.keep (hg 1054 (by omega) (by omega) (by omega) (by omega)) (fun k h1 h2 => by simp (disch := first | omega | decide) only [sL_pL_ne, sL_pI])), (hA.keep (fun x h1 h2 => hg x (by omega) (by omega) (by omega) (by omega)) (fun x h1 h2 => by simp (disch := first | omega | decide) only [vw_pI, vw_pL])), (hW.keep (fun x hx => hg x (by omega) (by omega) (by omega) (by omega)) (fun x h1 h2 => by simp (disch := first | omega | decide) only [vw_pI, vw_pL])), (hB.keep (fun x h1 h2 => hg x (by omega) (by omega) (by omega) (by omega)) (fun x h1 h2 => by simp (disch := first | omega | decide) only [vw_pI, vw_pL])), nC + 1, nR, nT, nK, nL, nM, nP, td, N + 1, lh, ?_, (hR.keep (by omega) (Nat.le_refl _) (fun x hx => hg x (by omega) (by omega) (by omega) (by omega)) (fun x h1 h2 => by simp (disch := first | omega | decide) only [vw_pI, vw_pL]) (by simp (disch := first | omega | decide) only [sI_pI_ne, sI_pL])), (hT.keep (fun x hx => hg x (by omega) (by omega) (by omega) (by omega)) (fun x h1 h2 h3 => by simp (disch := first | omega | decide) only [vw_pI, vw_pL]) (by simp (disch := first | omega | decide) only [sI_pI_ne, sI_pL])), (hK.keep (fun x hx => hg x (by omega) (by omega) (by omega) (by omega)) (fun x h1 h2 => by simp (disch := first | omega | decide) only [vw_pI, vw_pL]) (by simp (disch := first | omega | decide) only [sI_pI_ne, sI_pL])), (hL.keep (fun x hx => by unfold lawR at hx; exact hg x (by omega) (by omega) (by omega) (by omega)) (fun x h1 h2 => by simp (disch := first | omega | decide) only [vw_pI, vw_pL]) (by simp (disch := first | omega | decide) only [sI_pI_ne, sI_pL])), (hZ.keep (fun k h1 h2 => by rw [vwI (hg 1000 (by omega) (by omega) (by omega) (by omega))]) (fun k hk => by simp (disch := first | omega | decide) only [sI_pI_ne, sI_pL])), (hP.keep (fun x h1 h2 => hg x (by omega) (by omega) (by omega) (by omega)) (by simp (disch := first | omega | decide) only [vw_pI, vw_pL]) (by simp (disch := first | omega | decide) only [sI_pI_ne, sI_pL])), hgN⟩
  refine ⟨gL, by omega, by simp (disch := first | omega | decide) only [Option.some.injEq, exists_eq_left', exists_eq_left, forall_eq, forall_eq', true_and, and_true, true_implies, implies_true, false_implies, not_true_eq_false, not_false_eq_true, reduceCtorEq, and_self, forall_const, i10, i01, if_true, if_false, and_false, false_and, Nat.not_lt_zero, sK_pI, sN_pI, sR_pI, sL_pI, sK_pL, sN_pL, sR_pL, sI_pL, sK_pR, sN_pR, sI_pR, sL_pR, sI_pI_eq, sI_pI_ne, sL_pL_eq, sL_pL_ne, sR_pR_eq, sR_pR_ne, nn_le, nat32_lt, nn_eq, ln_le, nl_le, ln_lt, nl_lt, ln_eq, nl_eq, n_m1, n_lt0, vp_n, vp_l, lc_n, nat32c, n_s, nI_n, true_and], fun j hj => ?_, fun j j1 j2 => ?_, fun j hj => ?_⟩
  · by_cases e : j = nC
    · subst e
      unfold cornerE
      rw [vwK gq, vwI gq, vwR gq]
      unfold cornerT
      simp (disch := first | omega | decide) only [Option.some.injEq, exists_eq_left', exists_eq_left, forall_eq, forall_eq', true_and, and_true, true_implies, implies_true, false_implies, not_true_eq_false, not_false_eq_true, reduceCtorEq, and_self, forall_const, i10, i01, if_true, if_false, and_false, false_and, Nat.not_lt_zero, sK_pI, sN_pI, sR_pI, sL_pI, sK_pL, sN_pL, sR_pL, sI_pL, sK_pR, sN_pR, sI_pR, sL_pR, sI_pI_eq, sI_pI_ne, sL_pL_eq, sL_pL_ne, sR_pR_eq, sR_pR_ne, nn_le, nat32_lt, nn_eq, ln_le, nl_le, ln_lt, nl_lt, ln_eq, nl_eq, n_m1, n_lt0, vp_n, vp_l, lc_n, nat32c, n_s, nI_n, sK_nw, sI_nw, sR_nw, f0]
      rfl
    · have cj := hC.2.2.2.1 j (by omega)
      have fj := hg (2000 + j) (by omega) (by omega) (by omega) (by omega)
      unfold cornerE
      rw [vwK fj, vwI fj, vwR fj]
      simp (disch := first | omega | decide) only [Option.some.injEq, exists_eq_left', exists_eq_left, forall_eq, forall_eq', true_and, and_true, true_implies, implies_true, false_implies, not_true_eq_false, not_false_eq_true, reduceCtorEq, and_self, forall_const, i10, i01, if_true, if_false, and_false, false_and, Nat.not_lt_zero, sK_pI, sN_pI, sR_pI, sL_pI, sK_pL, sN_pL, sR_pL, sI_pL, sK_pR, sN_pR, sI_pR, sL_pR, sI_pI_eq, sI_pI_ne, sL_pL_eq, sL_pL_ne, sR_pR_eq, sR_pR_ne, nn_le, nat32_lt, nn_eq, ln_le, nl_le, ln_lt, nl_lt, ln_eq, nl_eq, n_m1, n_lt0, vp_n, vp_l, lc_n, nat32c, n_s, nI_n, cj]
  · have fj := hg (2000 + j) (by omega) (by omega) (by omega) (by omega)
    rw [vwK fj]
    simp (disch := first | omega | decide) only [Option.some.injEq, exists_eq_left', exists_eq_left, forall_eq, forall_eq', true_and, and_true, true_implies, implies_true, false_implies, not_true_eq_false, not_false_eq_true, reduceCtorEq, and_self, forall_const, i10, i01, if_true, if_false, and_false, false_and, Nat.not_lt_zero, sK_pI, sN_pI, sR_pI, sL_pI, sK_pL, sN_pL, sR_pL, sI_pL, sK_pR, sN_pR, sI_pR, sL_pR, sI_pI_eq, sI_pI_ne, sL_pL_eq, sL_pL_ne, sR_pR_eq, sR_pR_ne, nn_le, nat32_lt, nn_eq, ln_le, nl_le, ln_lt, nl_lt, ln_eq, nl_eq, n_m1, n_lt0, vp_n, vp_l, lc_n, nat32c, n_s, nI_n, hC.2.2.2.2.1 j (by omega) j2]
  · unfold cornerB
    by_cases e : j = nC
    · subst e
      simp (disch := first | omega | decide) only [Option.some.injEq, exists_eq_left', exists_eq_left, forall_eq, forall_eq', true_and, and_true, true_implies, implies_true, false_implies, not_true_eq_false, not_false_eq_true, reduceCtorEq, and_self, forall_const, i10, i01, if_true, if_false, and_false, false_and, Nat.not_lt_zero, sK_pI, sN_pI, sR_pI, sL_pI, sK_pL, sN_pL, sR_pL, sI_pL, sK_pR, sN_pR, sI_pR, sL_pR, sI_pI_eq, sI_pI_ne, sL_pL_eq, sL_pL_ne, sR_pR_eq, sR_pR_ne, nn_le, nat32_lt, nn_eq, ln_le, nl_le, ln_lt, nl_lt, ln_eq, nl_eq, n_m1, n_lt0, vp_n, vp_l, lc_n, nat32c, n_s, nI_n, true_or]
      obtain ⟨k1, a1, b1, c1⟩ := inn_rg (lo := 1) (hi := 100) (by omega) (by omega) h1
      obtain ⟨k2, a2, b2, c2⟩ := inn_rg (lo := 1) (hi := 500) (by omega) (by omega) h2
      exact ⟨⟨k1, by omega, b1, c1⟩, ⟨k2, by omega, b2, c2⟩, inn_rg (lo := 0) (hi := 9) (by omega) (by omega) h3, inn_rg (lo := 0) (hi := 500) (by omega) (by omega) h4⟩
    · have cj := hC.2.2.2.2.2 j (by omega)
      unfold cornerB at cj
      simp (disch := first | omega | decide) only [Option.some.injEq, exists_eq_left', exists_eq_left, forall_eq, forall_eq', true_and, and_true, true_implies, implies_true, false_implies, not_true_eq_false, not_false_eq_true, reduceCtorEq, and_self, forall_const, i10, i01, if_true, if_false, and_false, false_and, Nat.not_lt_zero, sK_pI, sN_pI, sR_pI, sL_pI, sK_pL, sN_pL, sR_pL, sI_pL, sK_pR, sN_pR, sI_pR, sL_pR, sI_pI_eq, sI_pI_ne, sL_pL_eq, sL_pL_ne, sR_pR_eq, sR_pR_ne, nn_le, nat32_lt, nn_eq, ln_le, nl_le, ln_lt, nl_lt, ln_eq, nl_eq, n_m1, n_lt0, vp_n, vp_l, lc_n, nat32c, n_s, nI_n, cj]
      rcases cj.2.2.2.2 with z | ⟨b, z1, z2, z3⟩
      · exact Or.inl z
      · exact Or.inr ⟨b, z1, by omega, z3⟩
theorem pr_roof : Pr_roof Inv := by
  intro S S2 hI v1 v2 v3 v4
  have hI0 := hI
  obtain ⟨hk, hM, hS, hU, hA, hW, hB, nC, nR, nT, nK, nL, nM, nP, td, N, lh, hC, hR, hT, hK, hL, hZ, hP, hN⟩ := hI
  unfold P_X10_roof P_X10_roof_B44 P_X11_roof
  have hn := hR.2.1
  by_cases hc : isC v1 nC
  case neg => simp (disch := first | omega | decide) only [Option.some.injEq, exists_eq_left', exists_eq_left, forall_eq, forall_eq', true_and, and_true, true_implies, implies_true, false_implies, not_true_eq_false, not_false_eq_true, reduceCtorEq, and_self, forall_const, i10, i01, if_true, if_false, and_false, false_and, Nat.not_lt_zero, sK_pI, sN_pI, sR_pI, sL_pI, sK_pL, sN_pL, sR_pL, sI_pL, sK_pR, sN_pR, sI_pR, sL_pR, sI_pI_eq, sI_pI_ne, sL_pL_eq, sL_pL_ne, sR_pR_eq, sR_pR_ne, nn_le, nat32_lt, nn_eq, ln_le, nl_le, ln_lt, nl_lt, ln_eq, nl_eq, n_m1, n_lt0, vp_n, vp_l, lc_n, nat32c, n_s, nI_n, hS.1, hM.o, cornerAt_n hS hC hc, isCorner_n hM hC.2.2.1 hC.2.1 hc, P_X10_roof_B45, hk, hI0]
  obtain ⟨i, hi, rfl⟩ := hc
  simp only [cornerAt_y hS hC hi, isCorner_y hM hC.2.2.1 hC.2.1 hi, within_e, isIn_e]
  by_cases h1 : inn v2 0 19 = 0
  · simp (disch := first | omega | decide) only [Option.some.injEq, exists_eq_left', exists_eq_left, forall_eq, forall_eq', true_and, and_true, true_implies, implies_true, false_implies, not_true_eq_false, not_false_eq_true, reduceCtorEq, and_self, forall_const, i10, i01, if_true, if_false, and_false, false_and, Nat.not_lt_zero, sK_pI, sN_pI, sR_pI, sL_pI, sK_pL, sN_pL, sR_pL, sI_pL, sK_pR, sN_pR, sI_pR, sL_pR, sI_pI_eq, sI_pI_ne, sL_pL_eq, sL_pL_ne, sR_pR_eq, sR_pR_ne, nn_le, nat32_lt, nn_eq, ln_le, nl_le, ln_lt, nl_lt, ln_eq, nl_eq, n_m1, n_lt0, vp_n, vp_l, lc_n, nat32c, n_s, nI_n, h1, hS.1, hM.o, P_X10_roof_B45, hk, hI0]
  by_cases h2 : inn v3 1 50 = 0
  · simp (disch := first | omega | decide) only [Option.some.injEq, exists_eq_left', exists_eq_left, forall_eq, forall_eq', true_and, and_true, true_implies, implies_true, false_implies, not_true_eq_false, not_false_eq_true, reduceCtorEq, and_self, forall_const, i10, i01, if_true, if_false, and_false, false_and, Nat.not_lt_zero, sK_pI, sN_pI, sR_pI, sL_pI, sK_pL, sN_pL, sR_pL, sI_pL, sK_pR, sN_pR, sI_pR, sL_pR, sI_pI_eq, sI_pI_ne, sL_pL_eq, sL_pL_ne, sR_pR_eq, sR_pR_ne, nn_le, nat32_lt, nn_eq, ln_le, nl_le, ln_lt, nl_lt, ln_eq, nl_eq, n_m1, n_lt0, vp_n, vp_l, lc_n, nat32c, n_s, nI_n, h1, h2, hS.1, hM.o, P_X10_roof_B45, hk, hI0]
  by_cases h3 : inn v4 0 200 = 0
  · simp (disch := first | omega | decide) only [Option.some.injEq, exists_eq_left', exists_eq_left, forall_eq, forall_eq', true_and, and_true, true_implies, implies_true, false_implies, not_true_eq_false, not_false_eq_true, reduceCtorEq, and_self, forall_const, i10, i01, if_true, if_false, and_false, false_and, Nat.not_lt_zero, sK_pI, sN_pI, sR_pI, sL_pI, sK_pL, sN_pL, sR_pL, sI_pL, sK_pR, sN_pR, sI_pR, sL_pR, sI_pI_eq, sI_pI_ne, sL_pL_eq, sL_pL_ne, sR_pR_eq, sR_pR_ne, nn_le, nat32_lt, nn_eq, ln_le, nl_le, ln_lt, nl_lt, ln_eq, nl_eq, n_m1, n_lt0, vp_n, vp_l, lc_n, nat32c, n_s, nI_n, h1, h2, h3, hS.1, hM.o, P_X10_roof_B45, hk, hI0]
  by_cases h5 : nR = 30
  · simp (disch := first | omega | decide) only [Option.some.injEq, exists_eq_left', exists_eq_left, forall_eq, forall_eq', true_and, and_true, true_implies, implies_true, false_implies, not_true_eq_false, not_false_eq_true, reduceCtorEq, and_self, forall_const, i10, i01, if_true, if_false, and_false, false_and, Nat.not_lt_zero, sK_pI, sN_pI, sR_pI, sL_pI, sK_pL, sN_pL, sR_pL, sI_pL, sK_pR, sN_pR, sI_pR, sL_pR, sI_pI_eq, sI_pI_ne, sL_pL_eq, sL_pL_ne, sR_pR_eq, sR_pR_ne, nn_le, nat32_lt, nn_eq, ln_le, nl_le, ln_lt, nl_lt, ln_eq, nl_eq, n_m1, n_lt0, vp_n, vp_l, lc_n, nat32c, n_s, nI_n, h1, h2, h3, h5, P_X10_roof_B45, hS.1, hR.1.1, size_e hR.1, hR.2.2.1, hM.o, Nat.lt_irrefl, hk, hI0]
  have hlt : nR < 30 := by omega
  refine ⟨hS.1.1, ?_⟩
  refine And.intro (fun h => absurd h (by simp)) (fun c3 hc3 => ?_)
  simp only [h1, h2, h3, false_implies, not_false_eq_true, true_implies, true_and]
  refine x_roofNew hk hS hR hN hlt (fun S' gL hg gq hgN hgo => ⟨hgo, ?_⟩)
  unfold Grown at hg
  have f0 := hR.2.2.2.2.1 nR (Nat.le_refl _) hlt
  simp (disch := first | omega | decide) only [Option.some.injEq, exists_eq_left', exists_eq_left, forall_eq, forall_eq', true_and, and_true, true_implies, implies_true, false_implies, not_true_eq_false, not_false_eq_true, reduceCtorEq, and_self, forall_const, i10, i01, if_true, if_false, and_false, false_and, Nat.not_lt_zero, sK_pI, sN_pI, sR_pI, sL_pI, sK_pL, sN_pL, sR_pL, sI_pL, sK_pR, sN_pR, sI_pR, sL_pR, sI_pI_eq, sI_pI_ne, sL_pL_eq, sL_pL_ne, sR_pR_eq, sR_pR_ne, nn_le, nat32_lt, nn_eq, ln_le, nl_le, ln_lt, nl_lt, ln_eq, nl_eq, n_m1, n_lt0, vp_n, vp_l, lc_n, nat32c, n_s, nI_n, hM.o, hR.2.2.1, h5, hM.a25, hM.a26, hM.a27, hM.a28, hlt, n_p, Nat.add_sub_cancel]
  refine ⟨hgo, (mw_pI (mw_pI (mw_pI (mw_pI (mw_pI hM (by omega)) (by omega)) (by omega)) (by omega)) (by omega)), (hS.keep (fun x h1 h2 h3 => stru_vw (hg x (by omega) (by omega) (by omega) (by omega))) (fun x hx => hg x (by omega) (by omega) (by omega) (by omega)) (fun x h1 h2 => vwK (hg x (by omega) (by omega) (by omega) (by omega)))), (hU.keep (hg 1054 (by omega) (by omega) (by omega) (by omega)) (fun k h1 h2 => by simp (disch := first | omega | decide) only [sL_pL_ne, sL_pI])), (hA.keep (fun x h1 h2 => hg x (by omega) (by omega) (by omega) (by omega)) (fun x h1 h2 => by simp (disch := first | omega | decide) only [vw_pI, vw_pL])), (hW.keep (fun x hx => hg x (by omega) (by omega) (by omega) (by omega)) (fun x h1 h2 => by simp (disch := first | omega | decide) only [vw_pI, vw_pL])), (hB.keep (fun x h1 h2 => hg x (by omega) (by omega) (by omega) (by omega)) (fun x h1 h2 => by simp (disch := first | omega | decide) only [vw_pI, vw_pL])), nC, nR + 1, nT, nK, nL, nM, nP, td, N + 1, lh, (hC.keep (fun x hx => hg x (by omega) (by omega) (by omega) (by omega)) (fun x hx => by simp (disch := first | omega | decide) only [vw_pI, vw_pL]) (by simp (disch := first | omega | decide) only [sI_pI_ne, sI_pL])), ?_, (hT.keep (fun x hx => hg x (by omega) (by omega) (by omega) (by omega)) (fun x h1 h2 h3 => by simp (disch := first | omega | decide) only [vw_pI, vw_pL]) (by simp (disch := first | omega | decide) only [sI_pI_ne, sI_pL])), (hK.keep (fun x hx => hg x (by omega) (by omega) (by omega) (by omega)) (fun x h1 h2 => by simp (disch := first | omega | decide) only [vw_pI, vw_pL]) (by simp (disch := first | omega | decide) only [sI_pI_ne, sI_pL])), (hL.keep (fun x hx => by unfold lawR at hx; exact hg x (by omega) (by omega) (by omega) (by omega)) (fun x h1 h2 => by simp (disch := first | omega | decide) only [vw_pI, vw_pL]) (by simp (disch := first | omega | decide) only [sI_pI_ne, sI_pL])), (hZ.keep (fun k h1 h2 => by rw [vwI (hg 1000 (by omega) (by omega) (by omega) (by omega))]) (fun k hk => by simp (disch := first | omega | decide) only [sI_pI_ne, sI_pL])), (hP.keep (fun x h1 h2 => hg x (by omega) (by omega) (by omega) (by omega)) (by simp (disch := first | omega | decide) only [vw_pI, vw_pL]) (by simp (disch := first | omega | decide) only [sI_pI_ne, sI_pL])), hgN⟩
  refine ⟨gL, by omega, by simp (disch := first | omega | decide) only [Option.some.injEq, exists_eq_left', exists_eq_left, forall_eq, forall_eq', true_and, and_true, true_implies, implies_true, false_implies, not_true_eq_false, not_false_eq_true, reduceCtorEq, and_self, forall_const, i10, i01, if_true, if_false, and_false, false_and, Nat.not_lt_zero, sK_pI, sN_pI, sR_pI, sL_pI, sK_pL, sN_pL, sR_pL, sI_pL, sK_pR, sN_pR, sI_pR, sL_pR, sI_pI_eq, sI_pI_ne, sL_pL_eq, sL_pL_ne, sR_pR_eq, sR_pR_ne, nn_le, nat32_lt, nn_eq, ln_le, nl_le, ln_lt, nl_lt, ln_eq, nl_eq, n_m1, n_lt0, vp_n, vp_l, lc_n, nat32c, n_s, nI_n, true_and], fun j hj => ?_, fun j j1 j2 => ?_, fun j hj => ?_⟩
  · by_cases e : j = nR
    · subst e
      unfold roofE
      rw [vwK gq, vwI gq]
      unfold roofT
      simp (disch := first | omega | decide) only [Option.some.injEq, exists_eq_left', exists_eq_left, forall_eq, forall_eq', true_and, and_true, true_implies, implies_true, false_implies, not_true_eq_false, not_false_eq_true, reduceCtorEq, and_self, forall_const, i10, i01, if_true, if_false, and_false, false_and, Nat.not_lt_zero, sK_pI, sN_pI, sR_pI, sL_pI, sK_pL, sN_pL, sR_pL, sI_pL, sK_pR, sN_pR, sI_pR, sL_pR, sI_pI_eq, sI_pI_ne, sL_pL_eq, sL_pL_ne, sR_pR_eq, sR_pR_ne, nn_le, nat32_lt, nn_eq, ln_le, nl_le, ln_lt, nl_lt, ln_eq, nl_eq, n_m1, n_lt0, vp_n, vp_l, lc_n, nat32c, n_s, nI_n, sK_nw, sI_nw, f0]
      decide
    · have cj := hR.2.2.2.1 j (by omega)
      have fj := hg (4000 + j) (by omega) (by omega) (by omega) (by omega)
      unfold roofE
      rw [vwK fj, vwI fj]
      simp (disch := first | omega | decide) only [Option.some.injEq, exists_eq_left', exists_eq_left, forall_eq, forall_eq', true_and, and_true, true_implies, implies_true, false_implies, not_true_eq_false, not_false_eq_true, reduceCtorEq, and_self, forall_const, i10, i01, if_true, if_false, and_false, false_and, Nat.not_lt_zero, sK_pI, sN_pI, sR_pI, sL_pI, sK_pL, sN_pL, sR_pL, sI_pL, sK_pR, sN_pR, sI_pR, sL_pR, sI_pI_eq, sI_pI_ne, sL_pL_eq, sL_pL_ne, sR_pR_eq, sR_pR_ne, nn_le, nat32_lt, nn_eq, ln_le, nl_le, ln_lt, nl_lt, ln_eq, nl_eq, n_m1, n_lt0, vp_n, vp_l, lc_n, nat32c, n_s, nI_n, cj]
  · have fj := hg (4000 + j) (by omega) (by omega) (by omega) (by omega)
    rw [vwK fj]
    simp (disch := first | omega | decide) only [Option.some.injEq, exists_eq_left', exists_eq_left, forall_eq, forall_eq', true_and, and_true, true_implies, implies_true, false_implies, not_true_eq_false, not_false_eq_true, reduceCtorEq, and_self, forall_const, i10, i01, if_true, if_false, and_false, false_and, Nat.not_lt_zero, sK_pI, sN_pI, sR_pI, sL_pI, sK_pL, sN_pL, sR_pL, sI_pL, sK_pR, sN_pR, sI_pR, sL_pR, sI_pI_eq, sI_pI_ne, sL_pL_eq, sL_pL_ne, sR_pR_eq, sR_pR_ne, nn_le, nat32_lt, nn_eq, ln_le, nl_le, ln_lt, nl_lt, ln_eq, nl_eq, n_m1, n_lt0, vp_n, vp_l, lc_n, nat32c, n_s, nI_n, hR.2.2.2.2.1 j (by omega) j2]
  · unfold roofB
    by_cases e : j = nR
    · subst e
      simp (disch := first | omega | decide) only [Option.some.injEq, exists_eq_left', exists_eq_left, forall_eq, forall_eq', true_and, and_true, true_implies, implies_true, false_implies, not_true_eq_false, not_false_eq_true, reduceCtorEq, and_self, forall_const, i10, i01, if_true, if_false, and_false, false_and, Nat.not_lt_zero, sK_pI, sN_pI, sR_pI, sL_pI, sK_pL, sN_pL, sR_pL, sI_pL, sK_pR, sN_pR, sI_pR, sL_pR, sI_pI_eq, sI_pI_ne, sL_pL_eq, sL_pL_ne, sR_pR_eq, sR_pR_ne, nn_le, nat32_lt, nn_eq, ln_le, nl_le, ln_lt, nl_lt, ln_eq, nl_eq, n_m1, n_lt0, vp_n, vp_l, lc_n, nat32c, n_s, nI_n, f0]
      obtain ⟨k2, a2, b2, c2⟩ := inn_rg (lo := 1) (hi := 50) (by omega) (by omega) h2
      obtain ⟨k3, a3, b3, c3⟩ := inn_rg (lo := 0) (hi := 200) (by omega) (by omega) h3
      refine ⟨⟨i, hi, rfl⟩, ⟨k2, by omega, b2, c2⟩, ⟨0, k3, by omega, b3, rfl, c3⟩, fun y hy hy2 => ?_⟩
      exfalso
      rw [bit_e (by omega)] at hy2
      revert hy2
      show (0#32).getLsbD y = true → False
      simp
    · have cj := hR.2.2.2.2.2 j (by omega)
      unfold roofB at cj
      simp (disch := first | omega | decide) only [Option.some.injEq, exists_eq_left', exists_eq_left, forall_eq, forall_eq', true_and, and_true, true_implies, implies_true, false_implies, not_true_eq_false, not_false_eq_true, reduceCtorEq, and_self, forall_const, i10, i01, if_true, if_false, and_false, false_and, Nat.not_lt_zero, sK_pI, sN_pI, sR_pI, sL_pI, sK_pL, sN_pL, sR_pL, sI_pL, sK_pR, sN_pR, sI_pR, sL_pR, sI_pI_eq, sI_pI_ne, sL_pL_eq, sL_pL_ne, sR_pR_eq, sR_pR_ne, nn_le, nat32_lt, nn_eq, ln_le, nl_le, ln_lt, nl_lt, ln_eq, nl_eq, n_m1, n_lt0, vp_n, vp_l, lc_n, nat32c, n_s, nI_n, cj]
      exact cj.2.2.2
/-! a bed -/
/-- the reference's bed loop: caredOn's row -/
def CRow (S2 : Sg) (i k : Nat) (T : Sg) : Prop := MW T ∧ (∀ x, ¬ x = 1124 → vw T x = vw S2 x) ∧ ∀ j, sI T 1124 j = if 11 * i ≤ j ∧ j < 11 * i + k then -1 else sI S2 1124 j
theorem m_caredRow {S2 : Sg} {i : Nat} {Q : Int32 → Sg → Prop} (hM : MW S2) (hi : i < 12) (k : ∀ T, CRow S2 i 11 T → Q 1 T) : P_X11_bed_L111 1000 (Int32.ofNat i) 0 S2 Q := by
  unfold P_X11_bed_L111
  refine lpS (N := 11) (s0 := 0) (R := CRow S2 i) (B := fun x σ K => P_X11_bed_L111b 1000 (Int32.ofNat i) x σ Q K) rfl (by omega) ⟨hM, fun x _ => rfl, fun j => by rw [if_neg (by omega)]⟩ (fun j hj T hT K hK => ?_)
  obtain ⟨t1, t2, t3⟩ := hT
  unfold P_X11_bed_L111b
  refine ⟨fun c => ?_, fun c => ?_⟩
  · simp (disch := first | omega | decide) only [ln_lt] at c
    have e : j = 11 := by omega
    subst e; exact k T ⟨t1, t2, t3⟩
  · simp (disch := first | omega | decide) only [ln_lt] at c
    have hp : 11 * i + j < 132 := by omega
    simp (disch := first | omega | decide) only [Option.some.injEq, exists_eq_left', exists_eq_left, forall_eq, forall_eq', true_and, and_true, true_implies, implies_true, false_implies, not_true_eq_false, not_false_eq_true, reduceCtorEq, and_self, forall_const, i10, i01, if_true, if_false, and_false, false_and, Nat.not_lt_zero, sK_pI, sN_pI, sR_pI, sL_pI, sK_pL, sN_pL, sR_pL, sI_pL, sK_pR, sN_pR, sI_pR, sL_pR, sI_pI_eq, sI_pI_ne, sL_pL_eq, sL_pL_ne, sR_pR_eq, sR_pR_ne, nn_le, nat32_lt, nn_eq, ln_le, nl_le, ln_lt, nl_lt, ln_eq, nl_eq, n_m1, n_lt0, vp_n, vp_l, lc_n, nat32c, n_s, nI_n, t1.o, t1.a24, l_mul, n_add, hp]
    refine hK (by omega) _ ⟨mw_pI t1 (by omega), fun x hx => by rw [vw_pI hx, t2 x hx], fun y => ?_⟩
    rw [sI_pI, t3]
    by_cases e : y = 11 * i + j
    · rw [if_pos ⟨rfl, e⟩, if_pos (by omega)]
    · rw [if_neg (fun z => e z.2)]
      by_cases e2 : 11 * i ≤ y ∧ y < 11 * i + j
      · rw [if_pos e2, if_pos (by omega)]
      · rw [if_neg e2, if_neg (by omega)]
theorem pkf_set {S2 : Sg} {i : Nat} (hi : i < 12) (hb : sI S2 1112 i = 0) : ∀ n, n ≤ 12 → sm (pkf S2 (1 <<< (Int32.ofNat i &&& 31))) n = sm (pkf S2 0) n + if i < n then sI S2 1109 i else 0
  | 0, _ => by simp [sm]
  | n + 1, hn => by
    have z : (0 : Int32) ||| ((1 : Int32) <<< (Int32.ofNat i &&& 31)) = (1 : Int32) <<< (Int32.ofNat i &&& 31) := by
      rw [← Int32.toBitVec_inj, Int32.toBitVec_or]; simp
    have hz : ¬ ((0 : Int32) >>> (Int32.ofNat n &&& 31)) &&& 1 = 1 := by
      rw [bit_e (by omega)]
      show ¬ (0#32).getLsbD n = true
      simp
    have hb1 := bit_or (v := 0) (y := i) (j := n) (by omega) (by omega)
    rw [z] at hb1
    rw [sm_s, sm_s, pkf_set hi hb n (by omega)]
    unfold pkf
    by_cases e : n = i
    · subst e
      rw [if_neg (Nat.lt_irrefl _), if_pos (Nat.lt_succ_self _), if_neg (fun q => q.2 (hb1.mpr (Or.inr rfl))), if_pos ⟨hb, hz⟩]
    · have hb2 : ¬ ((1 : Int32) <<< (Int32.ofNat i &&& 31) >>> (Int32.ofNat n &&& 31)) &&& 1 = 1 := fun q => by
        rcases hb1.mp q with w | w
        · exact hz w
        · exact e w
      have e2 : (i < n + 1) = (i < n) := by apply propext; omega
      simp only [hb2, hz, e2]
      rw [Int32.add_assoc, Int32.add_assoc, Int32.add_comm (if i < n then sI S2 1109 i else 0)]
theorem pr_bed : Pr_bed Inv := by
  intro S S2 hI v1 v2 v3 v4 hv4
  have hI0 := hI
  obtain ⟨hk, hM, hS, hU, hA, hW, hB, nC, nR, nT, nK, nL, nM, nP, td, N, lh, hC, hR, hT, hK, hL, hZ, hP, hN⟩ := hI
  unfold P_X10_bed P_X11_bed
  have hn := hC.2.1
  have z4 := hZ.2.2.2.1
  have z5 := hZ.2.2.2.2.1
  by_cases hc : isC v1 nC
  case neg => simp (disch := first | omega | decide) only [Option.some.injEq, exists_eq_left', exists_eq_left, forall_eq, forall_eq', true_and, and_true, true_implies, implies_true, false_implies, not_true_eq_false, not_false_eq_true, reduceCtorEq, and_self, forall_const, i10, i01, if_true, if_false, and_false, false_and, Nat.not_lt_zero, sK_pI, sN_pI, sR_pI, sL_pI, sK_pL, sN_pL, sR_pL, sI_pL, sK_pR, sN_pR, sI_pR, sL_pR, sI_pI_eq, sI_pI_ne, sL_pL_eq, sL_pL_ne, sR_pR_eq, sR_pR_ne, nn_le, nat32_lt, nn_eq, ln_le, nl_le, ln_lt, nl_lt, ln_eq, nl_eq, n_m1, n_lt0, vp_n, vp_l, lc_n, nat32c, n_s, nI_n, hS.1, hM.o, cornerAt_n hS hC hc, isCorner_n hM hC.2.2.1 hC.2.1 hc, hk, hI0]
  obtain ⟨i, hi, rfl⟩ := hc
  have h12 : i < 12 := by omega
  have c := hC.2.2.2.1 i hi
  rw [cornerAt_y hS hC hi]
  simp only [isCorner_y hM hC.2.2.1 hn hi, within_e, isIn_e]
  by_cases hb : sI S2 1112 i = 0
  case neg => simp (disch := first | omega | decide) only [Option.some.injEq, exists_eq_left', exists_eq_left, forall_eq, forall_eq', true_and, and_true, true_implies, implies_true, false_implies, not_true_eq_false, not_false_eq_true, reduceCtorEq, and_self, forall_const, i10, i01, if_true, if_false, and_false, false_and, Nat.not_lt_zero, sK_pI, sN_pI, sR_pI, sL_pI, sK_pL, sN_pL, sR_pL, sI_pL, sK_pR, sN_pR, sI_pR, sL_pR, sI_pI_eq, sI_pI_ne, sL_pL_eq, sL_pL_ne, sR_pR_eq, sR_pR_ne, nn_le, nat32_lt, nn_eq, ln_le, nl_le, ln_lt, nl_lt, ln_eq, nl_eq, n_m1, n_lt0, vp_n, vp_l, lc_n, nat32c, n_s, nI_n, hS.1, hM.o, hM.a12, c, h12, hb, hk, hI0]
  by_cases h1 : inn v2 0 9 = 0
  · simp (disch := first | omega | decide) only [Option.some.injEq, exists_eq_left', exists_eq_left, forall_eq, forall_eq', true_and, and_true, true_implies, implies_true, false_implies, not_true_eq_false, not_false_eq_true, reduceCtorEq, and_self, forall_const, i10, i01, if_true, if_false, and_false, false_and, Nat.not_lt_zero, sK_pI, sN_pI, sR_pI, sL_pI, sK_pL, sN_pL, sR_pL, sI_pL, sK_pR, sN_pR, sI_pR, sL_pR, sI_pI_eq, sI_pI_ne, sL_pL_eq, sL_pL_ne, sR_pR_eq, sR_pR_ne, nn_le, nat32_lt, nn_eq, ln_le, nl_le, ln_lt, nl_lt, ln_eq, nl_eq, n_m1, n_lt0, vp_n, vp_l, lc_n, nat32c, n_s, nI_n, hS.1, hM.o, hM.a12, c, h12, hb, h1, hk, hI0]
  by_cases h2 : inn v3 1 500 = 0
  · simp (disch := first | omega | decide) only [Option.some.injEq, exists_eq_left', exists_eq_left, forall_eq, forall_eq', true_and, and_true, true_implies, implies_true, false_implies, not_true_eq_false, not_false_eq_true, reduceCtorEq, and_self, forall_const, i10, i01, if_true, if_false, and_false, false_and, Nat.not_lt_zero, sK_pI, sN_pI, sR_pI, sL_pI, sK_pL, sN_pL, sR_pL, sI_pL, sK_pR, sN_pR, sI_pR, sL_pR, sI_pI_eq, sI_pI_ne, sL_pL_eq, sL_pL_ne, sR_pR_eq, sR_pR_ne, nn_le, nat32_lt, nn_eq, ln_le, nl_le, ln_lt, nl_lt, ln_eq, nl_eq, n_m1, n_lt0, vp_n, vp_l, lc_n, nat32c, n_s, nI_n, hS.1, hM.o, hM.a12, c, h12, hb, h1, h2, hk, hI0]
  refine ⟨hS.1.1, And.intro (fun h => absurd h (by simp)) (fun c3 hc3 => ?_)⟩
  cases hc3
  refine ⟨c.1, fun _ => ⟨fun h => absurd h h1, fun _ => ⟨fun h => absurd h h2, fun _ => ?_⟩⟩, fun c7 h7 => ?_⟩
  case refine_2 =>
    rw [c.2.2.2.2.2.2.2.2.2, if_pos hb] at h7
    cases h7
  unfold P_X10_parkingOfBeds
  refine ⟨hS.1.1, x_parkingWith hS hC ?_⟩
  rw [z4]
  refine x_lawOn hS hL ⟨_, rfl, lawH_k hS hL (fun j h => inF_lt h), (value_l (w := 4) hS hL (fun j h => inF_lt h) (by omega)).mpr ?_⟩
  rw [c.2.2.2.1]
  have hpk := pkf_set (S2 := S2) h12 hb nC hn
  rw [if_pos hi] at hpk
  have b0 := (hB i h12).2.2.1 hb
  refine ⟨fun hp => ?_, fun hp => ⟨hk, ?_⟩⟩
  case refine_2 =>
    simp (disch := first | omega | decide) only [Option.some.injEq, exists_eq_left', exists_eq_left, forall_eq, forall_eq', true_and, and_true, true_implies, implies_true, false_implies, not_true_eq_false, not_false_eq_true, reduceCtorEq, and_self, forall_const, i10, i01, if_true, if_false, and_false, false_and, Nat.not_lt_zero, sK_pI, sN_pI, sR_pI, sL_pI, sK_pL, sN_pL, sR_pL, sI_pL, sK_pR, sN_pR, sI_pR, sL_pR, sI_pI_eq, sI_pI_ne, sL_pL_eq, sL_pL_ne, sR_pR_eq, sR_pR_ne, nn_le, nat32_lt, nn_eq, ln_le, nl_le, ln_lt, nl_lt, ln_eq, nl_eq, n_m1, n_lt0, vp_n, vp_l, lc_n, nat32c, n_s, nI_n, hM.o, hM.a12, h12, hb, h1, h2]
    refine m_parked hM hC.2.2.1 hn (m_now (w := 4) hM hL (by omega) ?_)
    rw [hpk, z5]
    exact ⟨fun h => absurd h hp, fun _ => hI0⟩
  refine ⟨2, 3000 + i, by decide, by decide, by decide, b0.1, by omega, fun s1 e1 => ⟨(1, 11), by decide, by decide, ?_⟩⟩
  have q0 : ∀ x, ¬ x = 3000 + i → vw s1 x = vw S x := fun x hx => by rw [e1]; exact vw_nw hx
  have q1 : sI s1 1000 15 = Int32.ofNat td := by rw [vwI (q0 1000 (by omega))]; exact z4
  rw [q1]
  refine p_bedInit (q := 3100 + i) (κ := 16) (by rw [e1, sK_nw, if_pos rfl]) (by rw [vwK (q0 _ (by omega))]; exact b0.2.1) (by omega) (by decide) hv4 (by decide) (by decide) (fun T hF s2 e2 => ?_)
  obtain ⟨f1, f2, f3, f4, f5, f6⟩ := hF
  have hg : ∀ x, ¬ x = 3000 + i → ¬ x = 3100 + i → ¬ x = 2000 + i → vw s2 x = vw S x := fun x x1 x2 x3 => by
    rw [e2, vw_pR x3, f1 x x2]
    unfold bedS
    simp (disch := first | omega | decide) only [vw_pI, vw_pR, vw_nw]
    exact q0 x x1
  have hgo : okS s2 := by
    rw [e2]
    refine okS_pR ?_ (by omega)
    have h3 : okS (bedS s1 (3000 + i) (3100 + i) 16 v2 v3 v4 (Int32.ofNat td)) := by
      unfold bedS
      refine okS_pI (okS_pI (okS_pI (okS_pI (okS_pR (okS_nw (okS_pI (okS_pI ?_ (by omega)) (by omega)) (by omega) (by unfold wr; omega)) (by omega)) (by omega)) (by omega)) (by omega)) (by omega)
      rw [e1]
      exact okS_nw hk (by omega) (by unfold wr; omega)
    refine ⟨(f1 1 (by omega)).trans h3.1, (f1 2 (by omega)).trans h3.2.1, fun x hx => ?_⟩
    by_cases ex : x = 3100 + i
    · subst ex; rw [f2] at hx ⊢; exact h3.2.2 _ hx
    · rw [vwK (f1 x ex)] at hx ⊢; exact h3.2.2 _ hx
  have hp1 : Int32.ofNat i = Int32.ofNat i := rfl
  refine ⟨hgo, ?_⟩
  simp (disch := first | omega | decide) only [Option.some.injEq, exists_eq_left', exists_eq_left, forall_eq, forall_eq', true_and, and_true, true_implies, implies_true, false_implies, not_true_eq_false, not_false_eq_true, reduceCtorEq, and_self, forall_const, i10, i01, if_true, if_false, and_false, false_and, Nat.not_lt_zero, sK_pI, sN_pI, sR_pI, sL_pI, sK_pL, sN_pL, sR_pL, sI_pL, sK_pR, sN_pR, sI_pR, sL_pR, sI_pI_eq, sI_pI_ne, sL_pL_eq, sL_pL_ne, sR_pR_eq, sR_pR_ne, nn_le, nat32_lt, nn_eq, ln_le, nl_le, ln_lt, nl_lt, ln_eq, nl_eq, n_m1, n_lt0, vp_n, vp_l, lc_n, nat32c, n_s, nI_n, hM.o, hM.a12, h12, hb, h1, h2]
  refine m_parked hM hC.2.2.1 hn (m_now (w := 4) hM hL (by omega) ?_)
  rw [hpk, z5]
  refine ⟨fun _ => ?_, fun h => absurd hp h⟩
  simp (disch := first | omega | decide) only [Option.some.injEq, exists_eq_left', exists_eq_left, forall_eq, forall_eq', true_and, and_true, true_implies, implies_true, false_implies, not_true_eq_false, not_false_eq_true, reduceCtorEq, and_self, forall_const, i10, i01, if_true, if_false, and_false, false_and, Nat.not_lt_zero, sK_pI, sN_pI, sR_pI, sL_pI, sK_pL, sN_pL, sR_pL, sI_pL, sK_pR, sN_pR, sI_pR, sL_pR, sI_pI_eq, sI_pI_ne, sL_pL_eq, sL_pL_ne, sR_pR_eq, sR_pR_ne, nn_le, nat32_lt, nn_eq, ln_le, nl_le, ln_lt, nl_lt, ln_eq, nl_eq, n_m1, n_lt0, vp_n, vp_l, lc_n, nat32c, n_s, nI_n, hM.o, hM.a12, hM.a13, hM.a14, hM.a15, hM.a16, hM.a17, hM.a23, h12, hv4, z5]
  refine m_caredRow ?_ h12 (fun T2 hT2 => ⟨rfl, ?_⟩)
  · exact mw_pI (mw_pI (mw_pI (mw_pI (mw_pI (mw_pI (mw_pI hM (by omega)) (by omega)) (by omega)) (by omega)) (by omega)) (by omega)) (by omega)
  obtain ⟨t1, t2, t3⟩ := hT2
  obtain ⟨k1, -, w2, hl⟩ := inn_rg (lo := 0) (hi := 9) (by omega) (by omega) h1
  obtain ⟨k2, w3, w4, hw⟩ := inn_rg (lo := 1) (hi := 500) (by omega) (by omega) h2
  have hs : ∀ j, sI T2 1112 j = if j = i then 1 else sI S2 1112 j := fun j => by
    rw [vwI (t2 1112 (by omega))]
    by_cases e : j = i
    · subst e; simp (disch := first | omega | decide) only [Option.some.injEq, exists_eq_left', exists_eq_left, forall_eq, forall_eq', true_and, and_true, true_implies, implies_true, false_implies, not_true_eq_false, not_false_eq_true, reduceCtorEq, and_self, forall_const, i10, i01, if_true, if_false, and_false, false_and, Nat.not_lt_zero, sK_pI, sN_pI, sR_pI, sL_pI, sK_pL, sN_pL, sR_pL, sI_pL, sK_pR, sN_pR, sI_pR, sL_pR, sI_pI_eq, sI_pI_ne, sL_pL_eq, sL_pL_ne, sR_pR_eq, sR_pR_ne, nn_le, nat32_lt, nn_eq, ln_le, nl_le, ln_lt, nl_lt, ln_eq, nl_eq, n_m1, n_lt0, vp_n, vp_l, lc_n, nat32c, n_s, nI_n, true_and]
    · simp (disch := first | omega | decide) only [Option.some.injEq, exists_eq_left', exists_eq_left, forall_eq, forall_eq', true_and, and_true, true_implies, implies_true, false_implies, not_true_eq_false, not_false_eq_true, reduceCtorEq, and_self, forall_const, i10, i01, if_true, if_false, and_false, false_and, Nat.not_lt_zero, sK_pI, sN_pI, sR_pI, sL_pI, sK_pL, sN_pL, sR_pL, sI_pL, sK_pR, sN_pR, sI_pR, sL_pR, sI_pI_eq, sI_pI_ne, sL_pL_eq, sL_pL_ne, sR_pR_eq, sR_pR_ne, nn_le, nat32_lt, nn_eq, ln_le, nl_le, ln_lt, nl_lt, ln_eq, nl_eq, n_m1, n_lt0, vp_n, vp_l, lc_n, nat32c, n_s, nI_n, e]
  refine ⟨hgo, t1, (hS.keep (fun x h1 h2 h3 => stru_vw (hg x (by omega) (by omega) (by omega))) (fun x hx => hg x (by omega) (by omega) (by omega)) (fun x h1 h2 => vwK (hg x (by omega) (by omega) (by omega)))), (hU.keep (hg 1054 (by omega) (by omega) (by omega)) (fun k h1 h2 => by rw [vwL (t2 1000 (by omega))]; simp only [sL_pI])), (hA.keep (fun x h1 h2 => hg x (by omega) (by omega) (by omega)) (fun x h1 h2 => by rw [t2 x (by omega)]; simp (disch := first | omega | decide) only [vw_pI])), (hW.keep (fun x hx => hg x (by omega) (by omega) (by omega)) (fun x h1 h2 => by rw [t2 x (by omega)]; simp (disch := first | omega | decide) only [vw_pI])), ?_, nC, nR, nT, nK, nL, nM, nP, td, N, lh, ?_, (hR.keep (Nat.le_refl _) (Nat.le_refl _) (fun x hx => hg x (by omega) (by omega) (by omega)) (fun x h1 h2 => by rw [t2 x (by omega)]; simp (disch := first | omega | decide) only [vw_pI]) (by rw [vwI (t2 1000 (by omega))]; simp (disch := first | omega | decide) only [sI_pI_ne])), (hT.keep (fun x hx => hg x (by omega) (by omega) (by omega)) (fun x h1 h2 h3 => by rw [t2 x (by omega)]; simp (disch := first | omega | decide) only [vw_pI]) (by rw [vwI (t2 1000 (by omega))]; simp (disch := first | omega | decide) only [sI_pI_ne])), (hK.keep (fun x hx => hg x (by omega) (by omega) (by omega)) (fun x h1 h2 => by rw [t2 x (by omega)]; simp (disch := first | omega | decide) only [vw_pI]) (by rw [vwI (t2 1000 (by omega))]; simp (disch := first | omega | decide) only [sI_pI_ne])), (hL.keep (fun x hx => by unfold lawR at hx; exact hg x (by omega) (by omega) (by omega)) (fun x h1 h2 => by rw [t2 x (by omega)]; simp (disch := first | omega | decide) only [vw_pI]) (by rw [vwI (t2 1000 (by omega))]; simp (disch := first | omega | decide) only [sI_pI_ne])), (hZ.keep (fun k h1 h2 => by rw [vwI (hg 1000 (by omega) (by omega) (by omega))]) (fun k hk => by rw [vwI (t2 1000 (by omega))]; simp (disch := first | omega | decide) only [sI_pI_ne])), (hP.keep (fun x h1 h2 => hg x (by omega) (by omega) (by omega)) (by rw [t2 1175 (by omega)]; simp (disch := first | omega | decide) only [vw_pI]) (by rw [vwI (t2 1000 (by omega))]; simp (disch := first | omega | decide) only [sI_pI_ne])), ⟨hN.1, fun x hx => by rw [vwK (hg x (by have := hN.1; omega) (by have := hN.1; omega) (by have := hN.1; omega))]; exact hN.2 x hx⟩⟩
  · intro j hj
    by_cases e : j = i
    · subst e
      have nj : (3000 + j = 3100 + j) = False := eq_false (by omega)
      have kB : sK s2 (3000 + j) = 2 := by
        rw [e2, sK_pR, vwK (f1 (3000 + j) (by omega))]
        unfold bedS
        simp (disch := first | omega | decide) only [Option.some.injEq, exists_eq_left', exists_eq_left, forall_eq, forall_eq', true_and, and_true, true_implies, implies_true, false_implies, not_true_eq_false, not_false_eq_true, reduceCtorEq, and_self, forall_const, i10, i01, if_true, if_false, and_false, false_and, Nat.not_lt_zero, sK_pI, sN_pI, sR_pI, sL_pI, sK_pL, sN_pL, sR_pL, sI_pL, sK_pR, sN_pR, sI_pR, sL_pR, sI_pI_eq, sI_pI_ne, sL_pL_eq, sL_pL_ne, sR_pR_eq, sR_pR_ne, nn_le, nat32_lt, nn_eq, ln_le, nl_le, ln_lt, nl_lt, ln_eq, nl_eq, n_m1, n_lt0, vp_n, vp_l, lc_n, nat32c, n_s, nI_n, sK_nw, e1, nj]
      have kA : sK s2 (3100 + j) = 16 := by
        rw [e2, sK_pR, f2]
        unfold bedS
        simp (disch := first | omega | decide) only [Option.some.injEq, exists_eq_left', exists_eq_left, forall_eq, forall_eq', true_and, and_true, true_implies, implies_true, false_implies, not_true_eq_false, not_false_eq_true, reduceCtorEq, and_self, forall_const, i10, i01, if_true, if_false, and_false, false_and, Nat.not_lt_zero, sK_pI, sN_pI, sR_pI, sL_pI, sK_pL, sN_pL, sR_pL, sI_pL, sK_pR, sN_pR, sI_pR, sL_pR, sI_pI_eq, sI_pI_ne, sL_pL_eq, sL_pL_ne, sR_pR_eq, sR_pR_ne, nn_le, nat32_lt, nn_eq, ln_le, nl_le, ln_lt, nl_lt, ln_eq, nl_eq, n_m1, n_lt0, vp_n, vp_l, lc_n, nat32c, n_s, nI_n, sK_nw, e1]
      have nA : sN s2 (3100 + j) = 11 := by
        rw [e2, sN_pR, f3]
        unfold bedS
        simp (disch := first | omega | decide) only [Option.some.injEq, exists_eq_left', exists_eq_left, forall_eq, forall_eq', true_and, and_true, true_implies, implies_true, false_implies, not_true_eq_false, not_false_eq_true, reduceCtorEq, and_self, forall_const, i10, i01, if_true, if_false, and_false, false_and, Nat.not_lt_zero, sK_pI, sN_pI, sR_pI, sL_pI, sK_pL, sN_pL, sR_pL, sI_pL, sK_pR, sN_pR, sI_pR, sL_pR, sI_pI_eq, sI_pI_ne, sL_pL_eq, sL_pL_ne, sR_pR_eq, sR_pR_ne, nn_le, nat32_lt, nn_eq, ln_le, nl_le, ln_lt, nl_lt, ln_eq, nl_eq, n_m1, n_lt0, vp_n, vp_l, lc_n, nat32c, n_s, nI_n, sN_nw, e1]
      have iB : ∀ k, sI s2 (3000 + j) k = sI (bedS s1 (3000 + j) (3100 + j) 16 v2 v3 v4 (Int32.ofNat td)) (3000 + j) k := fun k => by
        rw [e2, sI_pR, vwI (f1 (3000 + j) (by omega))]
      have rB : sR s2 (3000 + j) 11 = some (3100 + j) := by
        rw [e2, sR_pR, if_neg (by omega), vwR (f1 (3000 + j) (by omega))]
        unfold bedS
        simp (disch := first | omega | decide) only [Option.some.injEq, exists_eq_left', exists_eq_left, forall_eq, forall_eq', true_and, and_true, true_implies, implies_true, false_implies, not_true_eq_false, not_false_eq_true, reduceCtorEq, and_self, forall_const, i10, i01, if_true, if_false, and_false, false_and, Nat.not_lt_zero, sK_pI, sN_pI, sR_pI, sL_pI, sK_pL, sN_pL, sR_pL, sI_pL, sK_pR, sN_pR, sI_pR, sL_pR, sI_pI_eq, sI_pI_ne, sL_pL_eq, sL_pL_ne, sR_pR_eq, sR_pR_ne, nn_le, nat32_lt, nn_eq, ln_le, nl_le, ln_lt, nl_lt, ln_eq, nl_eq, n_m1, n_lt0, vp_n, vp_l, lc_n, nat32c, n_s, nI_n, true_and]
      have iA : ∀ k, k < 11 → sI s2 (3100 + j) k = -1 := fun k hk => by
        rw [e2, sI_pR, f6, if_pos]
        exact hk
      refine ⟨Or.inr (by rw [hs, if_pos rfl]), ?_, fun h => ?_, fun _ => ⟨⟨by rw [kB], rB, by rw [kA], nA, ?_, ?_, ?_, ?_, ?_, ?_, ?_, ?_, ?_, ?_, ?_, fun k hk => ?_⟩, ?_⟩⟩
      · unfold bedB0
        rw [vwI (t2 1118 (by omega)), vwI (t2 1119 (by omega)), vwI (t2 1121 (by omega))]
        have b00 := (hB j hj).2.1
        unfold bedB0 at b00
        simp (disch := first | omega | decide) only [Option.some.injEq, exists_eq_left', exists_eq_left, forall_eq, forall_eq', true_and, and_true, true_implies, implies_true, false_implies, not_true_eq_false, not_false_eq_true, reduceCtorEq, and_self, forall_const, i10, i01, if_true, if_false, and_false, false_and, Nat.not_lt_zero, sK_pI, sN_pI, sR_pI, sL_pI, sK_pL, sN_pL, sR_pL, sI_pL, sK_pR, sN_pR, sI_pR, sL_pR, sI_pI_eq, sI_pI_ne, sL_pL_eq, sL_pL_ne, sR_pR_eq, sR_pR_ne, nn_le, nat32_lt, nn_eq, ln_le, nl_le, ln_lt, nl_lt, ln_eq, nl_eq, n_m1, n_lt0, vp_n, vp_l, lc_n, nat32c, n_s, nI_n, b00]
      · rw [hs, if_pos rfl] at h; exact absurd h (by decide)
      · rw [iB, vwI (t2 1115 (by omega))]; unfold bedS; simp (disch := first | omega | decide) only [Option.some.injEq, exists_eq_left', exists_eq_left, forall_eq, forall_eq', true_and, and_true, true_implies, implies_true, false_implies, not_true_eq_false, not_false_eq_true, reduceCtorEq, and_self, forall_const, i10, i01, if_true, if_false, and_false, false_and, Nat.not_lt_zero, sK_pI, sN_pI, sR_pI, sL_pI, sK_pL, sN_pL, sR_pL, sI_pL, sK_pR, sN_pR, sI_pR, sL_pR, sI_pI_eq, sI_pI_ne, sL_pL_eq, sL_pL_ne, sR_pR_eq, sR_pR_ne, nn_le, nat32_lt, nn_eq, ln_le, nl_le, ln_lt, nl_lt, ln_eq, nl_eq, n_m1, n_lt0, vp_n, vp_l, lc_n, nat32c, n_s, nI_n, true_and]
      · rw [iB, vwI (t2 1116 (by omega))]; unfold bedS; simp (disch := first | omega | decide) only [Option.some.injEq, exists_eq_left', exists_eq_left, forall_eq, forall_eq', true_and, and_true, true_implies, implies_true, false_implies, not_true_eq_false, not_false_eq_true, reduceCtorEq, and_self, forall_const, i10, i01, if_true, if_false, and_false, false_and, Nat.not_lt_zero, sK_pI, sN_pI, sR_pI, sL_pI, sK_pL, sN_pL, sR_pL, sI_pL, sK_pR, sN_pR, sI_pR, sL_pR, sI_pI_eq, sI_pI_ne, sL_pL_eq, sL_pL_ne, sR_pR_eq, sR_pR_ne, nn_le, nat32_lt, nn_eq, ln_le, nl_le, ln_lt, nl_lt, ln_eq, nl_eq, n_m1, n_lt0, vp_n, vp_l, lc_n, nat32c, n_s, nI_n, true_and]
      · rw [iB, vwI (t2 1113 (by omega))]; unfold bedS; simp (disch := first | omega | decide) only [Option.some.injEq, exists_eq_left', exists_eq_left, forall_eq, forall_eq', true_and, and_true, true_implies, implies_true, false_implies, not_true_eq_false, not_false_eq_true, reduceCtorEq, and_self, forall_const, i10, i01, if_true, if_false, and_false, false_and, Nat.not_lt_zero, sK_pI, sN_pI, sR_pI, sL_pI, sK_pL, sN_pL, sR_pL, sI_pL, sK_pR, sN_pR, sI_pR, sL_pR, sI_pI_eq, sI_pI_ne, sL_pL_eq, sL_pL_ne, sR_pR_eq, sR_pR_ne, nn_le, nat32_lt, nn_eq, ln_le, nl_le, ln_lt, nl_lt, ln_eq, nl_eq, n_m1, n_lt0, vp_n, vp_l, lc_n, nat32c, n_s, nI_n, true_and]
      · rw [iB, vwI (t2 1117 (by omega))]; unfold bedS; simp (disch := first | omega | decide) only [Option.some.injEq, exists_eq_left', exists_eq_left, forall_eq, forall_eq', true_and, and_true, true_implies, implies_true, false_implies, not_true_eq_false, not_false_eq_true, reduceCtorEq, and_self, forall_const, i10, i01, if_true, if_false, and_false, false_and, Nat.not_lt_zero, sK_pI, sN_pI, sR_pI, sL_pI, sK_pL, sN_pL, sR_pL, sI_pL, sK_pR, sN_pR, sI_pR, sL_pR, sI_pI_eq, sI_pI_ne, sL_pL_eq, sL_pL_ne, sR_pR_eq, sR_pR_ne, nn_le, nat32_lt, nn_eq, ln_le, nl_le, ln_lt, nl_lt, ln_eq, nl_eq, n_m1, n_lt0, vp_n, vp_l, lc_n, nat32c, n_s, nI_n, true_and]
      · rw [iB, vwI (t2 1118 (by omega))]; unfold bedS; simp (disch := first | omega | decide) only [Option.some.injEq, exists_eq_left', exists_eq_left, forall_eq, forall_eq', true_and, and_true, true_implies, implies_true, false_implies, not_true_eq_false, not_false_eq_true, reduceCtorEq, and_self, forall_const, i10, i01, if_true, if_false, and_false, false_and, Nat.not_lt_zero, sK_pI, sN_pI, sR_pI, sL_pI, sK_pL, sN_pL, sR_pL, sI_pL, sK_pR, sN_pR, sI_pR, sL_pR, sI_pI_eq, sI_pI_ne, sL_pL_eq, sL_pL_ne, sR_pR_eq, sR_pR_ne, nn_le, nat32_lt, nn_eq, ln_le, nl_le, ln_lt, nl_lt, ln_eq, nl_eq, n_m1, n_lt0, vp_n, vp_l, lc_n, nat32c, n_s, nI_n, sI_nw, e1, b0, nj]
      · rw [iB, vwI (t2 1119 (by omega))]; unfold bedS; simp (disch := first | omega | decide) only [Option.some.injEq, exists_eq_left', exists_eq_left, forall_eq, forall_eq', true_and, and_true, true_implies, implies_true, false_implies, not_true_eq_false, not_false_eq_true, reduceCtorEq, and_self, forall_const, i10, i01, if_true, if_false, and_false, false_and, Nat.not_lt_zero, sK_pI, sN_pI, sR_pI, sL_pI, sK_pL, sN_pL, sR_pL, sI_pL, sK_pR, sN_pR, sI_pR, sL_pR, sI_pI_eq, sI_pI_ne, sL_pL_eq, sL_pL_ne, sR_pR_eq, sR_pR_ne, nn_le, nat32_lt, nn_eq, ln_le, nl_le, ln_lt, nl_lt, ln_eq, nl_eq, n_m1, n_lt0, vp_n, vp_l, lc_n, nat32c, n_s, nI_n, sI_nw, e1, b0, nj]
      · rw [iB, vwI (t2 1120 (by omega))]; unfold bedS; simp (disch := first | omega | decide) only [Option.some.injEq, exists_eq_left', exists_eq_left, forall_eq, forall_eq', true_and, and_true, true_implies, implies_true, false_implies, not_true_eq_false, not_false_eq_true, reduceCtorEq, and_self, forall_const, i10, i01, if_true, if_false, and_false, false_and, Nat.not_lt_zero, sK_pI, sN_pI, sR_pI, sL_pI, sK_pL, sN_pL, sR_pL, sI_pL, sK_pR, sN_pR, sI_pR, sL_pR, sI_pI_eq, sI_pI_ne, sL_pL_eq, sL_pL_ne, sR_pR_eq, sR_pR_ne, nn_le, nat32_lt, nn_eq, ln_le, nl_le, ln_lt, nl_lt, ln_eq, nl_eq, n_m1, n_lt0, vp_n, vp_l, lc_n, nat32c, n_s, nI_n, sI_nw, e1, b0, nj]
      · rw [iB, vwI (t2 1114 (by omega))]; unfold bedS; simp (disch := first | omega | decide) only [Option.some.injEq, exists_eq_left', exists_eq_left, forall_eq, forall_eq', true_and, and_true, true_implies, implies_true, false_implies, not_true_eq_false, not_false_eq_true, reduceCtorEq, and_self, forall_const, i10, i01, if_true, if_false, and_false, false_and, Nat.not_lt_zero, sK_pI, sN_pI, sR_pI, sL_pI, sK_pL, sN_pL, sR_pL, sI_pL, sK_pR, sN_pR, sI_pR, sL_pR, sI_pI_eq, sI_pI_ne, sL_pL_eq, sL_pL_ne, sR_pR_eq, sR_pR_ne, nn_le, nat32_lt, nn_eq, ln_le, nl_le, ln_lt, nl_lt, ln_eq, nl_eq, n_m1, n_lt0, vp_n, vp_l, lc_n, nat32c, n_s, nI_n, sI_nw, e1, b0, nj]
      · rw [iB, vwI (t2 1121 (by omega))]; unfold bedS; simp (disch := first | omega | decide) only [Option.some.injEq, exists_eq_left', exists_eq_left, forall_eq, forall_eq', true_and, and_true, true_implies, implies_true, false_implies, not_true_eq_false, not_false_eq_true, reduceCtorEq, and_self, forall_const, i10, i01, if_true, if_false, and_false, false_and, Nat.not_lt_zero, sK_pI, sN_pI, sR_pI, sL_pI, sK_pL, sN_pL, sR_pL, sI_pL, sK_pR, sN_pR, sI_pR, sL_pR, sI_pI_eq, sI_pI_ne, sL_pL_eq, sL_pL_ne, sR_pR_eq, sR_pR_ne, nn_le, nat32_lt, nn_eq, ln_le, nl_le, ln_lt, nl_lt, ln_eq, nl_eq, n_m1, n_lt0, vp_n, vp_l, lc_n, nat32c, n_s, nI_n, sI_nw, e1, b0, nj]
      · rw [iB, vwI (t2 1122 (by omega))]; unfold bedS; simp (disch := first | omega | decide) only [Option.some.injEq, exists_eq_left', exists_eq_left, forall_eq, forall_eq', true_and, and_true, true_implies, implies_true, false_implies, not_true_eq_false, not_false_eq_true, reduceCtorEq, and_self, forall_const, i10, i01, if_true, if_false, and_false, false_and, Nat.not_lt_zero, sK_pI, sN_pI, sR_pI, sL_pI, sK_pL, sN_pL, sR_pL, sI_pL, sK_pR, sN_pR, sI_pR, sL_pR, sI_pI_eq, sI_pI_ne, sL_pL_eq, sL_pL_ne, sR_pR_eq, sR_pR_ne, nn_le, nat32_lt, nn_eq, ln_le, nl_le, ln_lt, nl_lt, ln_eq, nl_eq, n_m1, n_lt0, vp_n, vp_l, lc_n, nat32c, n_s, nI_n, sI_nw, e1, b0, nj]
      · rw [iB, vwI (t2 1123 (by omega))]; unfold bedS; simp (disch := first | omega | decide) only [Option.some.injEq, exists_eq_left', exists_eq_left, forall_eq, forall_eq', true_and, and_true, true_implies, implies_true, false_implies, not_true_eq_false, not_false_eq_true, reduceCtorEq, and_self, forall_const, i10, i01, if_true, if_false, and_false, false_and, Nat.not_lt_zero, sK_pI, sN_pI, sR_pI, sL_pI, sK_pL, sN_pL, sR_pL, sI_pL, sK_pR, sN_pR, sI_pR, sL_pR, sI_pI_eq, sI_pI_ne, sL_pL_eq, sL_pL_ne, sR_pR_eq, sR_pR_ne, nn_le, nat32_lt, nn_eq, ln_le, nl_le, ln_lt, nl_lt, ln_eq, nl_eq, n_m1, n_lt0, vp_n, vp_l, lc_n, nat32c, n_s, nI_n, sI_nw, e1, b0, nj]
      · rw [iA k hk, t3, if_pos (by omega)]
      · unfold bedB
        rw [vwI (t2 1115 (by omega)), vwI (t2 1116 (by omega)), vwI (t2 1113 (by omega)), vwI (t2 1114 (by omega)), vwI (t2 1123 (by omega))]
        simp (disch := first | omega | decide) only [Option.some.injEq, exists_eq_left', exists_eq_left, forall_eq, forall_eq', true_and, and_true, true_implies, implies_true, false_implies, not_true_eq_false, not_false_eq_true, reduceCtorEq, and_self, forall_const, i10, i01, if_true, if_false, and_false, false_and, Nat.not_lt_zero, sK_pI, sN_pI, sR_pI, sL_pI, sK_pL, sN_pL, sR_pL, sI_pL, sK_pR, sN_pR, sI_pR, sL_pR, sI_pI_eq, sI_pI_ne, sL_pL_eq, sL_pL_ne, sR_pR_eq, sR_pR_ne, nn_le, nat32_lt, nn_eq, ln_le, nl_le, ln_lt, nl_lt, ln_eq, nl_eq, n_m1, n_lt0, vp_n, vp_l, lc_n, nat32c, n_s, nI_n, true_or]
        exact ⟨⟨k1, by omega, w2, hl⟩, ⟨k2, by omega, w4, hw⟩, hv4, Or.inr rfl⟩
    · refine GB.keep1 (hB j hj) (hg _ (by omega) (by omega) (by omega)) (hg _ (by omega) (by omega) (by omega)) (fun x x1 x2 => ?_) (fun k hk => ?_)
      · rw [vwI (t2 x (by omega))]; simp (disch := first | omega | decide) only [Option.some.injEq, exists_eq_left', exists_eq_left, forall_eq, forall_eq', true_and, and_true, true_implies, implies_true, false_implies, not_true_eq_false, not_false_eq_true, reduceCtorEq, and_self, forall_const, i10, i01, if_true, if_false, and_false, false_and, Nat.not_lt_zero, sK_pI, sN_pI, sR_pI, sL_pI, sK_pL, sN_pL, sR_pL, sI_pL, sK_pR, sN_pR, sI_pR, sL_pR, sI_pI_eq, sI_pI_ne, sL_pL_eq, sL_pL_ne, sR_pR_eq, sR_pR_ne, nn_le, nat32_lt, nn_eq, ln_le, nl_le, ln_lt, nl_lt, ln_eq, nl_eq, n_m1, n_lt0, vp_n, vp_l, lc_n, nat32c, n_s, nI_n, true_and]
      · rw [t3, if_neg (by omega)]; simp (disch := first | omega | decide) only [Option.some.injEq, exists_eq_left', exists_eq_left, forall_eq, forall_eq', true_and, and_true, true_implies, implies_true, false_implies, not_true_eq_false, not_false_eq_true, reduceCtorEq, and_self, forall_const, i10, i01, if_true, if_false, and_false, false_and, Nat.not_lt_zero, sK_pI, sN_pI, sR_pI, sL_pI, sK_pL, sN_pL, sR_pL, sI_pL, sK_pR, sN_pR, sI_pR, sL_pR, sI_pI_eq, sI_pI_ne, sL_pL_eq, sL_pL_ne, sR_pR_eq, sR_pR_ne, nn_le, nat32_lt, nn_eq, ln_le, nl_le, ln_lt, nl_lt, ln_eq, nl_eq, n_m1, n_lt0, vp_n, vp_l, lc_n, nat32c, n_s, nI_n, true_and]
  · refine ⟨hC.1.keep (hg _ (by omega) (by omega) (by omega)) (fun a a1 a2 => hg a (by omega) (by omega) (by omega)) (hg 2 (by omega) (by omega) (by omega)), hn, by rw [vwI (t2 1000 (by omega))]; simp (disch := first | omega | decide) only [Option.some.injEq, exists_eq_left', exists_eq_left, forall_eq, forall_eq', true_and, and_true, true_implies, implies_true, false_implies, not_true_eq_false, not_false_eq_true, reduceCtorEq, and_self, forall_const, i10, i01, if_true, if_false, and_false, false_and, Nat.not_lt_zero, sK_pI, sN_pI, sR_pI, sL_pI, sK_pL, sN_pL, sR_pL, sI_pL, sK_pR, sN_pR, sI_pR, sL_pR, sI_pI_eq, sI_pI_ne, sL_pL_eq, sL_pL_ne, sR_pR_eq, sR_pR_ne, nn_le, nat32_lt, nn_eq, ln_le, nl_le, ln_lt, nl_lt, ln_eq, nl_eq, n_m1, n_lt0, vp_n, vp_l, lc_n, nat32c, n_s, nI_n, hC.2.2.1], fun j hj => ?_, fun j j1 j2 => ?_, fun j hj => ?_⟩
    · have cj := hC.2.2.2.1 j hj
      by_cases e : j = i
      · subst e
        have g1 : sK s2 (2000 + j) = sK S (2000 + j) := by
          rw [e2, sK_pR, vwK (f1 (2000 + j) (by omega))]; unfold bedS; simp (disch := first | omega | decide) only [Option.some.injEq, exists_eq_left', exists_eq_left, forall_eq, forall_eq', true_and, and_true, true_implies, implies_true, false_implies, not_true_eq_false, not_false_eq_true, reduceCtorEq, and_self, forall_const, i10, i01, if_true, if_false, and_false, false_and, Nat.not_lt_zero, sK_pI, sN_pI, sR_pI, sL_pI, sK_pL, sN_pL, sR_pL, sI_pL, sK_pR, sN_pR, sI_pR, sL_pR, sI_pI_eq, sI_pI_ne, sL_pL_eq, sL_pL_ne, sR_pR_eq, sR_pR_ne, nn_le, nat32_lt, nn_eq, ln_le, nl_le, ln_lt, nl_lt, ln_eq, nl_eq, n_m1, n_lt0, vp_n, vp_l, lc_n, nat32c, n_s, nI_n, sK_nw, if_neg, e1]
        have g2 : sI s2 (2000 + j) = sI S (2000 + j) := by
          funext k
          rw [e2, sI_pR, vwI (f1 (2000 + j) (by omega))]; unfold bedS; simp (disch := first | omega | decide) only [Option.some.injEq, exists_eq_left', exists_eq_left, forall_eq, forall_eq', true_and, and_true, true_implies, implies_true, false_implies, not_true_eq_false, not_false_eq_true, reduceCtorEq, and_self, forall_const, i10, i01, if_true, if_false, and_false, false_and, Nat.not_lt_zero, sK_pI, sN_pI, sR_pI, sL_pI, sK_pL, sN_pL, sR_pL, sI_pL, sK_pR, sN_pR, sI_pR, sL_pR, sI_pI_eq, sI_pI_ne, sL_pL_eq, sL_pL_ne, sR_pR_eq, sR_pR_ne, nn_le, nat32_lt, nn_eq, ln_le, nl_le, ln_lt, nl_lt, ln_eq, nl_eq, n_m1, n_lt0, vp_n, vp_l, lc_n, nat32c, n_s, nI_n, sI_nw, if_neg, e1]
        have g3 : sR s2 (2000 + j) 5 = some (3000 + j) := by rw [e2]; simp (disch := first | omega | decide) only [Option.some.injEq, exists_eq_left', exists_eq_left, forall_eq, forall_eq', true_and, and_true, true_implies, implies_true, false_implies, not_true_eq_false, not_false_eq_true, reduceCtorEq, and_self, forall_const, i10, i01, if_true, if_false, and_false, false_and, Nat.not_lt_zero, sK_pI, sN_pI, sR_pI, sL_pI, sK_pL, sN_pL, sR_pL, sI_pL, sK_pR, sN_pR, sI_pR, sL_pR, sI_pI_eq, sI_pI_ne, sL_pL_eq, sL_pL_ne, sR_pR_eq, sR_pR_ne, nn_le, nat32_lt, nn_eq, ln_le, nl_le, ln_lt, nl_lt, ln_eq, nl_eq, n_m1, n_lt0, vp_n, vp_l, lc_n, nat32c, n_s, nI_n, true_and]
        unfold cornerE
        rw [g1, g2, g3, hs, if_pos rfl, vwI (t2 1107 (by omega)), vwI (t2 1108 (by omega)), vwI (t2 1109 (by omega)), vwI (t2 1110 (by omega)), vwI (t2 1111 (by omega)), vwI (t2 1160 (by omega)), vwL (t2 1156 (by omega)), vwL (t2 1157 (by omega))]
        simp (disch := first | omega | decide) only [Option.some.injEq, exists_eq_left', exists_eq_left, forall_eq, forall_eq', true_and, and_true, true_implies, implies_true, false_implies, not_true_eq_false, not_false_eq_true, reduceCtorEq, and_self, forall_const, i10, i01, if_true, if_false, and_false, false_and, Nat.not_lt_zero, sK_pI, sN_pI, sR_pI, sL_pI, sK_pL, sN_pL, sR_pL, sI_pL, sK_pR, sN_pR, sI_pR, sL_pR, sI_pI_eq, sI_pI_ne, sL_pL_eq, sL_pL_ne, sR_pR_eq, sR_pR_ne, nn_le, nat32_lt, nn_eq, ln_le, nl_le, ln_lt, nl_lt, ln_eq, nl_eq, n_m1, n_lt0, vp_n, vp_l, lc_n, nat32c, n_s, nI_n, cj]
      · have fj := hg (2000 + j) (by omega) (by omega) (by omega)
        unfold cornerE
        rw [vwK fj, vwI fj, vwR fj, hs, if_neg e, vwI (t2 1107 (by omega)), vwI (t2 1108 (by omega)), vwI (t2 1109 (by omega)), vwI (t2 1110 (by omega)), vwI (t2 1111 (by omega)), vwI (t2 1160 (by omega)), vwL (t2 1156 (by omega)), vwL (t2 1157 (by omega))]
        simp (disch := first | omega | decide) only [Option.some.injEq, exists_eq_left', exists_eq_left, forall_eq, forall_eq', true_and, and_true, true_implies, implies_true, false_implies, not_true_eq_false, not_false_eq_true, reduceCtorEq, and_self, forall_const, i10, i01, if_true, if_false, and_false, false_and, Nat.not_lt_zero, sK_pI, sN_pI, sR_pI, sL_pI, sK_pL, sN_pL, sR_pL, sI_pL, sK_pR, sN_pR, sI_pR, sL_pR, sI_pI_eq, sI_pI_ne, sL_pL_eq, sL_pL_ne, sR_pR_eq, sR_pR_ne, nn_le, nat32_lt, nn_eq, ln_le, nl_le, ln_lt, nl_lt, ln_eq, nl_eq, n_m1, n_lt0, vp_n, vp_l, lc_n, nat32c, n_s, nI_n, cj]
    · have fj := hg (2000 + j) (by omega) (by omega) (by omega)
      rw [vwK fj, hs, if_neg (by omega), vwI (t2 1160 (by omega)), vwL (t2 1156 (by omega)), vwL (t2 1157 (by omega))]
      simp (disch := first | omega | decide) only [Option.some.injEq, exists_eq_left', exists_eq_left, forall_eq, forall_eq', true_and, and_true, true_implies, implies_true, false_implies, not_true_eq_false, not_false_eq_true, reduceCtorEq, and_self, forall_const, i10, i01, if_true, if_false, and_false, false_and, Nat.not_lt_zero, sK_pI, sN_pI, sR_pI, sL_pI, sK_pL, sN_pL, sR_pL, sI_pL, sK_pR, sN_pR, sI_pR, sL_pR, sI_pI_eq, sI_pI_ne, sL_pL_eq, sL_pL_ne, sR_pR_eq, sR_pR_ne, nn_le, nat32_lt, nn_eq, ln_le, nl_le, ln_lt, nl_lt, ln_eq, nl_eq, n_m1, n_lt0, vp_n, vp_l, lc_n, nat32c, n_s, nI_n, hC.2.2.2.2.1 j j1 j2]
    · have cj := hC.2.2.2.2.2 j hj
      unfold cornerB at cj ⊢
      rw [vwI (t2 1107 (by omega)), vwI (t2 1108 (by omega)), vwI (t2 1109 (by omega)), vwI (t2 1110 (by omega)), vwI (t2 1111 (by omega))]
      simp (disch := first | omega | decide) only [Option.some.injEq, exists_eq_left', exists_eq_left, forall_eq, forall_eq', true_and, and_true, true_implies, implies_true, false_implies, not_true_eq_false, not_false_eq_true, reduceCtorEq, and_self, forall_const, i10, i01, if_true, if_false, and_false, false_and, Nat.not_lt_zero, sK_pI, sN_pI, sR_pI, sL_pI, sK_pL, sN_pL, sR_pL, sI_pL, sK_pR, sN_pR, sI_pR, sL_pR, sI_pI_eq, sI_pI_ne, sL_pL_eq, sL_pL_ne, sR_pR_eq, sR_pR_ne, nn_le, nat32_lt, nn_eq, ln_le, nl_le, ln_lt, nl_lt, ln_eq, nl_eq, n_m1, n_lt0, vp_n, vp_l, lc_n, nat32c, n_s, nI_n, cj]
